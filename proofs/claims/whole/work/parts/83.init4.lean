/-! THE CONSTRUCTORS of trees and pruning; by program -/
set_option maxHeartbeats 1000000 in
set_option maxRecDepth 100000 in
theorem n_Tre {G : xG} {ad : Nat → Nat} (hj : adOk ad 400) {σ : xF} (t : Nat) (ht : t ≤ 1) (hb : σ (8 + t) = eO 7 [.int (iv (0)), .null, .null, .null, .null, .null]) (h1 : σ 1 ≠ fNo) (h2 : σ 2 ≠ fNo) (h3 : σ 3 ≠ fNo) (hn : ∀ i, i = 18 + t ∨ (76 + 141 * t ≤ i ∧ i < 217 + 141 * t) → σ i = fNo) : ∀ l, gC l G ad y_Tre_init (.code y_Tre_init c_Tre_init 5 none) rk_Tre [.ref (ad (8 + t)), .ref (ad 1), .ref (ad 2), .ref (ad 3)] σ (fun ad' σ' => pTre G ad' σ' t 1 tI (fun _ => none) ∧ (∀ q, q ≠ 8 + t ∧ q ≠ 18 + t ∧ (q < 76 + 141 * t ∨ 217 + 141 * t ≤ q) → σ' q = σ q)) := by
  intro l
  refine mV_of (by decide) (Nat.le_of_ble_eq_true rfl) (fun X hX hret => ?_)
  show vV G X 0 0 0 [(0, .ref (ad (8 + t))), (1, .ref (ad 1)), (2, .ref (ad 2)), (3, .ref (ad 3))] [] (ov fZ ad 400 σ)
  refine v_aload_n hX d_Tre_init_0 0 rfl ?_
  refine v_objInit hX d_Tre_init_1 (mT 190 (by decide +kernel) rfl) (mT 62 (by decide +kernel) rfl) (mT 63 (by decide +kernel) rfl) (by decide) (by decide) ?_
  refine v_aload_n hX d_Tre_init_4 0 rfl ?_
  refine v_bipush hX (47) d_Tre_init_5 rfl ?_
  refine g_newR hX hj (g := 18 + t) (by omega) (hn (18 + t) (by omega)) 47 2 (mT 191 (by decide +kernel) rfl) (mN 5 rfl) rfl d_Tre_init_7 rfl (by decide) ⟨by decide, by decide⟩ (fun ad1 hj2 hx3 => ?_)
  have ex4 : exA σ ad ad1 := exA_tr (exA_r σ ad) (moN_r σ) hx3
  have e5 : ad1 (8 + t) = ad (8 + t) := hx3 (8 + t) (by omega) (by rw [hb]; exact eO_ne (by decide))
  rw [← e5]
  have e6 : ad1 1 = ad 1 := hx3 1 (by omega) h1
  rw [← e6]
  have e7 : ad1 2 = ad 2 := hx3 2 (by omega) h2
  rw [← e7]
  have e8 : ad1 3 = ad 3 := hx3 3 (by omega) h3
  rw [← e8]
  obtain ⟨σ9, hs10⟩ : ∃ s9, s9 = va_up σ (18 + t) (eR G 2 47 (fun _ => none)) := ⟨_, rfl⟩
  rw [← hs10]
  have mo11 : moN σ σ9 := by rw [hs10]; exact moN_up (moN_r σ) _ eR_ne
  have hf12 : σ9 (8 + t) = eO 7 [.int (iv (0)), .null, .null, .null, .null, .null] := (show σ9 (8 + t) = σ (8 + t) by rw [hs10, va_up_ne _ _ (by omega)]).trans hb
  have hf13 : σ9 (1) ≠ fNo := by rw [show σ9 (1) = σ (1) by rw [hs10, va_up_ne _ _ (by omega)]]; exact h1
  have hf14 : σ9 (2) ≠ fNo := by rw [show σ9 (2) = σ (2) by rw [hs10, va_up_ne _ _ (by omega)]]; exact h2
  have hf15 : σ9 (3) ≠ fNo := by rw [show σ9 (3) = σ (3) by rw [hs10, va_up_ne _ _ (by omega)]]; exact h3
  have hf16 : σ9 (18 + t) = eR G 2 47 (fun _ => none) := by rw [hs10, va_up_self]
  refine g_putF (i := 8 + t) (fs' := [.int (iv (0)), .null, .null, .null, .ref (ad1 (18 + t)), .null]) hX hj2 pF_Tre_11 rfl d_Tre_init_10 (by omega) hf12 rfl rfl (Nat.le_of_ble_eq_true rfl) rfl ?_
  obtain ⟨σ17, hs18⟩ : ∃ s9, s9 = va_up σ9 (8 + t) (eO 7 [.int (iv (0)), .null, .null, .null, .ref (ad1 (18 + t)), .null]) := ⟨_, rfl⟩
  rw [← hs18]
  have mo19 : moN σ σ17 := by rw [hs18]; exact moN_up mo11 _ (eO_ne (by decide))
  have hf20 : σ17 (1) ≠ fNo := by rw [show σ17 (1) = σ9 (1) by rw [hs18, va_up_ne _ _ (by omega)]]; exact hf13
  have hf21 : σ17 (2) ≠ fNo := by rw [show σ17 (2) = σ9 (2) by rw [hs18, va_up_ne _ _ (by omega)]]; exact hf14
  have hf22 : σ17 (3) ≠ fNo := by rw [show σ17 (3) = σ9 (3) by rw [hs18, va_up_ne _ _ (by omega)]]; exact hf15
  have hf23 : σ17 (18 + t) = eR G 2 47 (fun _ => none) := (show σ17 (18 + t) = σ9 (18 + t) by rw [hs18, va_up_ne _ _ (by omega)]).trans hf16
  have hf24 : σ17 (8 + t) = eO 7 [.int (iv (0)), .null, .null, .null, .ref (ad1 (18 + t)), .null] := by rw [hs18, va_up_self]
  refine v_aload_n hX d_Tre_init_13 0 rfl ?_
  refine v_aload_n hX d_Tre_init_14 1 rfl ?_
  refine g_putF (i := 8 + t) (fs' := [.int (iv (0)), .ref (ad1 1), .null, .null, .ref (ad1 (18 + t)), .null]) hX hj2 pF_Tre_17 rfl d_Tre_init_15 (by omega) hf24 rfl rfl (Nat.le_of_ble_eq_true rfl) rfl ?_
  obtain ⟨σ25, hs26⟩ : ∃ s9, s9 = va_up σ17 (8 + t) (eO 7 [.int (iv (0)), .ref (ad1 1), .null, .null, .ref (ad1 (18 + t)), .null]) := ⟨_, rfl⟩
  rw [← hs26]
  have mo27 : moN σ σ25 := by rw [hs26]; exact moN_up mo19 _ (eO_ne (by decide))
  have hf28 : σ25 (1) ≠ fNo := by rw [show σ25 (1) = σ17 (1) by rw [hs26, va_up_ne _ _ (by omega)]]; exact hf20
  have hf29 : σ25 (2) ≠ fNo := by rw [show σ25 (2) = σ17 (2) by rw [hs26, va_up_ne _ _ (by omega)]]; exact hf21
  have hf30 : σ25 (3) ≠ fNo := by rw [show σ25 (3) = σ17 (3) by rw [hs26, va_up_ne _ _ (by omega)]]; exact hf22
  have hf31 : σ25 (18 + t) = eR G 2 47 (fun _ => none) := (show σ25 (18 + t) = σ17 (18 + t) by rw [hs26, va_up_ne _ _ (by omega)]).trans hf23
  have hf32 : σ25 (8 + t) = eO 7 [.int (iv (0)), .ref (ad1 1), .null, .null, .ref (ad1 (18 + t)), .null] := by rw [hs26, va_up_self]
  refine v_aload_n hX d_Tre_init_18 0 rfl ?_
  refine v_aload_n hX d_Tre_init_19 2 rfl ?_
  refine g_putF (i := 8 + t) (fs' := [.int (iv (0)), .ref (ad1 1), .ref (ad1 2), .null, .ref (ad1 (18 + t)), .null]) hX hj2 pF_Tre_21 rfl d_Tre_init_20 (by omega) hf32 rfl rfl (Nat.le_of_ble_eq_true rfl) rfl ?_
  obtain ⟨σ33, hs34⟩ : ∃ s9, s9 = va_up σ25 (8 + t) (eO 7 [.int (iv (0)), .ref (ad1 1), .ref (ad1 2), .null, .ref (ad1 (18 + t)), .null]) := ⟨_, rfl⟩
  rw [← hs34]
  have mo35 : moN σ σ33 := by rw [hs34]; exact moN_up mo27 _ (eO_ne (by decide))
  have hf36 : σ33 (1) ≠ fNo := by rw [show σ33 (1) = σ25 (1) by rw [hs34, va_up_ne _ _ (by omega)]]; exact hf28
  have hf37 : σ33 (2) ≠ fNo := by rw [show σ33 (2) = σ25 (2) by rw [hs34, va_up_ne _ _ (by omega)]]; exact hf29
  have hf38 : σ33 (3) ≠ fNo := by rw [show σ33 (3) = σ25 (3) by rw [hs34, va_up_ne _ _ (by omega)]]; exact hf30
  have hf39 : σ33 (18 + t) = eR G 2 47 (fun _ => none) := (show σ33 (18 + t) = σ25 (18 + t) by rw [hs34, va_up_ne _ _ (by omega)]).trans hf31
  have hf40 : σ33 (8 + t) = eO 7 [.int (iv (0)), .ref (ad1 1), .ref (ad1 2), .null, .ref (ad1 (18 + t)), .null] := by rw [hs34, va_up_self]
  refine v_aload_n hX d_Tre_init_23 0 rfl ?_
  refine v_aload_n hX d_Tre_init_24 3 rfl ?_
  refine g_putF (i := 8 + t) (fs' := [.int (iv (0)), .ref (ad1 1), .ref (ad1 2), .ref (ad1 3), .ref (ad1 (18 + t)), .null]) hX hj2 pF_Tre_25 rfl d_Tre_init_25 (by omega) hf40 rfl rfl (Nat.le_of_ble_eq_true rfl) rfl ?_
  obtain ⟨σ41, hs42⟩ : ∃ s9, s9 = va_up σ33 (8 + t) (eO 7 [.int (iv (0)), .ref (ad1 1), .ref (ad1 2), .ref (ad1 3), .ref (ad1 (18 + t)), .null]) := ⟨_, rfl⟩
  rw [← hs42]
  have mo43 : moN σ σ41 := by rw [hs42]; exact moN_up mo35 _ (eO_ne (by decide))
  have hf44 : σ41 (1) ≠ fNo := by rw [show σ41 (1) = σ33 (1) by rw [hs42, va_up_ne _ _ (by omega)]]; exact hf36
  have hf45 : σ41 (2) ≠ fNo := by rw [show σ41 (2) = σ33 (2) by rw [hs42, va_up_ne _ _ (by omega)]]; exact hf37
  have hf46 : σ41 (3) ≠ fNo := by rw [show σ41 (3) = σ33 (3) by rw [hs42, va_up_ne _ _ (by omega)]]; exact hf38
  have hf47 : σ41 (18 + t) = eR G 2 47 (fun _ => none) := (show σ41 (18 + t) = σ33 (18 + t) by rw [hs42, va_up_ne _ _ (by omega)]).trans hf39
  have hf48 : σ41 (8 + t) = eO 7 [.int (iv (0)), .ref (ad1 1), .ref (ad1 2), .ref (ad1 3), .ref (ad1 (18 + t)), .null] := by rw [hs42, va_up_self]
  refine v_iconst hX (0) d_Tre_init_28 ?_
  refine v_istore (lv' := [(4, .int (iv (0))), (0, .ref (ad1 (8 + t))), (1, .ref (ad1 1)), (2, .ref (ad1 2)), (3, .ref (ad1 3))]) hX d_Tre_init_29 (by decide) rfl ?_
  refine v_widen (kc' := 1 + 3 * 0) (ks' := 47 + 18 * 0) (by decide) (by decide) ?_
  have LOOP : ∀ (fuel : Nat) (k : Nat) (σv : xF) (adv : Nat → Nat), 47 - k < fuel → (k ≤ 47) → (trI G t σ41 ad1 k σv adv) → vV G X (1 + 3 * k) (47 + 18 * k) 31 [(0, .ref (adv (8 + t))), (1, .ref (adv 1)), (2, .ref (adv 2)), (3, .ref (adv 3)), (4, .int (iv (((k : Nat) : Int))))] [] (ov fZ adv 400 σv) := by
    intro fuel
    induction fuel with
    | zero => intro k σv adv hm; exact absurd hm (Nat.not_lt_zero _)
    | succ fuel ih_LOOP =>
      intro k σv adv hm hk47 hT
      obtain ⟨i1, i2, i3, i4, i5, i6, i7⟩ := id hT
      have exl : exA σ ad adv := exA_tr ex4 mo43 i2
      have mol : moN σ σv := moN_tr mo43 i3
      have th : σv (8 + t) = eO 7 [.int (iv (0)), .ref (ad1 1), .ref (ad1 2), .ref (ad1 3), .ref (ad1 (18 + t)), .null] := (i7 (8 + t) (by omega) (by omega)).trans hf48
      have m1 : σv 1 ≠ fNo := by rw [i7 1 (by omega) (by omega)]; exact hf44
      have m2 : σv 2 ≠ fNo := by rw [i7 2 (by omega) (by omega)]; exact hf45
      have m3 : σv 3 ≠ fNo := by rw [i7 3 (by omega) (by omega)]; exact hf46
      have e18 : adv (18 + t) = ad1 (18 + t) := i2 (18 + t) (by omega) (by rw [hf47]; exact eR_ne)
      refine v_iload hX d_Tre_init_31 4 rfl ?_
      refine v_bipush hX (47) d_Tre_init_33 rfl ?_
      refine v_icmp_ge (tgt := 60) hX d_Tre_init_35 (by decide) (by unfold ir; omega) (by unfold ir; omega) (fun c35_1 => ?_) (fun c35_1 => ?_)
      · have e47 : k = 47 := by omega
        subst e47
        have exf := exl
        refine v_aload_n hX d_Tre_init_60 0 rfl ?_
        refine v_aload_n hX d_Tre_init_61 0 rfl ?_
        refine g_get (i := 8 + t) hX i1 fl_Tre_11 d_Tre_init_62 (by omega) th rfl ?_
        rw [← e18]
        refine v_iconst hX (0) d_Tre_init_65 ?_
        refine g_aald (i := 18 + t) hX i1 d_Tre_init_66 (by omega) i4 rfl (by decide) 0 rfl (by decide) (if_pos (by decide)) ?_
        refine g_putF (i := 8 + t) (fs' := [.int (iv (0)), .ref (ad1 1), .ref (ad1 2), .ref (ad1 3), .ref (ad1 (18 + t)), .ref (adv (76 + 141 * t + 3 * 0))]) hX i1 pF_Tre_32 rfl d_Tre_init_67 (by omega) th rfl rfl (Nat.le_of_ble_eq_true rfl) rfl ?_
        obtain ⟨σ49, hs50⟩ : ∃ s9, s9 = va_up σv (8 + t) (eO 7 [.int (iv (0)), .ref (ad1 1), .ref (ad1 2), .ref (ad1 3), .ref (ad1 (18 + t)), .ref (adv (76 + 141 * t + 3 * 0))]) := ⟨_, rfl⟩
        rw [← hs50]
        have mo51 : moN σ σ49 := by rw [hs50]; exact moN_up mol _ (eO_ne (by decide))
        have hf52 : σ49 (18 + t) = eR G 2 47 (fun i => if i < 47 then some (adv (76 + 141 * t + 3 * i)) else none) := (show σ49 (18 + t) = σv (18 + t) by rw [hs50, va_up_ne _ _ (by omega)]).trans i4
        have hf53 : σ49 (1) ≠ fNo := by rw [show σ49 (1) = σv (1) by rw [hs50, va_up_ne _ _ (by omega)]]; exact m1
        have hf54 : σ49 (2) ≠ fNo := by rw [show σ49 (2) = σv (2) by rw [hs50, va_up_ne _ _ (by omega)]]; exact m2
        have hf55 : σ49 (3) ≠ fNo := by rw [show σ49 (3) = σv (3) by rw [hs50, va_up_ne _ _ (by omega)]]; exact m3
        have hf56 : σ49 (8 + t) = eO 7 [.int (iv (0)), .ref (ad1 1), .ref (ad1 2), .ref (ad1 3), .ref (ad1 (18 + t)), .ref (adv (76 + 141 * t + 3 * 0))] := by rw [hs50, va_up_self]
        refine v_aload_n hX d_Tre_init_70 0 rfl ?_
        refine v_iconst hX (1) d_Tre_init_71 ?_
        refine g_put (i := 8 + t) (fs' := [.int (iv (1)), .ref (ad1 1), .ref (ad1 2), .ref (ad1 3), .ref (ad1 (18 + t)), .ref (adv (76 + 141 * t + 3 * 0))]) hX i1 pf_Tre_36 d_Tre_init_72 (by omega) hf56 rfl rfl (Nat.le_of_ble_eq_true rfl) rfl ?_
        obtain ⟨σ57, hs58⟩ : ∃ s9, s9 = va_up σ49 (8 + t) (eO 7 [.int (iv (1)), .ref (ad1 1), .ref (ad1 2), .ref (ad1 3), .ref (ad1 (18 + t)), .ref (adv (76 + 141 * t + 3 * 0))]) := ⟨_, rfl⟩
        rw [← hs58]
        have mo59 : moN σ σ57 := by rw [hs58]; exact moN_up mo51 _ (eO_ne (by decide))
        have hf60 : σ57 (18 + t) = eR G 2 47 (fun i => if i < 47 then some (adv (76 + 141 * t + 3 * i)) else none) := (show σ57 (18 + t) = σ49 (18 + t) by rw [hs58, va_up_ne _ _ (by omega)]).trans hf52
        have hf61 : σ57 (1) ≠ fNo := by rw [show σ57 (1) = σ49 (1) by rw [hs58, va_up_ne _ _ (by omega)]]; exact hf53
        have hf62 : σ57 (2) ≠ fNo := by rw [show σ57 (2) = σ49 (2) by rw [hs58, va_up_ne _ _ (by omega)]]; exact hf54
        have hf63 : σ57 (3) ≠ fNo := by rw [show σ57 (3) = σ49 (3) by rw [hs58, va_up_ne _ _ (by omega)]]; exact hf55
        have hf64 : σ57 (8 + t) = eO 7 [.int (iv (1)), .ref (ad1 1), .ref (ad1 2), .ref (ad1 3), .ref (ad1 (18 + t)), .ref (adv (76 + 141 * t + 3 * 0))] := by rw [hs58, va_up_self]
        have e1 : adv 1 = ad1 1 := i2 1 (by omega) hf44
        have e2 : adv 2 = ad1 2 := i2 2 (by omega) hf45
        have e3 : adv 3 = ad1 3 := i2 3 (by omega) hf46
        have fr9 : ∀ q, q ≠ 8 + t → σ57 q = σv q := fun q hq => by rw [hs58, va_up_ne _ _ (by omega), hs50, va_up_ne _ _ (by omega)]
        have hth : σ57 (8 + t) = eO 7 [.int (iv 1), .ref (adv 1), .ref (adv 2), .ref (adv 3), .ref (adv (18 + t)), .ref (adv (76 + 141 * t))] := by rw [e1, e2, e3, e18]; exact hf64
        have hPT : pTre G adv σ57 t 1 tI (fun _ => none) := ⟨hth, (fr9 _ (by omega)).trans i4, fun n hn => (i5 n hn).up (fr9 _ (by omega)) (fr9 _ (by omega)) (fr9 _ (by omega))⟩
        refine v_widen (kc' := rk_Tre.cells) (ks' := rk_Tre.slots) (by decide) (by decide) ?_
        exact hret _ _ _ d_Tre_init_75 ⟨adv, σ57, i1, exf, rfl, hPT, (fun q hq => by rw [fr9 q (by omega), i7 q (by omega) (by omega)]; exact ((fun q hq => by rw [hs42, va_up_ne _ _ (by omega), hs34, va_up_ne _ _ (by omega), hs26, va_up_ne _ _ (by omega), hs18, va_up_ne _ _ (by omega), hs10, va_up_ne _ _ (by omega)]) : ∀ q, (q ≠ 8 + t ∧ q ≠ 18 + t ∧ (q < 76 + 141 * t ∨ 217 + 141 * t ≤ q)) → σ41 q = σ q) q hq)⟩
      · have hk : k < 47 := by omega
        obtain ⟨no0, no1, no2⟩ := i6 k (Nat.le_refl k) hk
        refine v_aload_n hX d_Tre_init_38 0 rfl ?_
        refine g_get (i := 8 + t) hX i1 fl_Tre_11 d_Tre_init_39 (by omega) th rfl ?_
        rw [← e18]
        refine v_iload hX d_Tre_init_42 4 rfl ?_
        refine g_new hX i1 (g := 76 + 141 * t + 3 * k) (by omega) no0 nw_Tre_9 d_Tre_init_44 ⟨by show 1 + 3 * k + 1 ≤ 142; omega, by show 47 + 18 * k + 12 ≤ 893; omega⟩ (fun ad65 hj66 hx67 => ?_)
        have ex68 : exA σ ad ad65 := exA_tr exl mol hx67
        have ex69 : exA σv adv ad65 := exA_tr (exA_r σv adv) (moN_r σv) hx67
        have e70 : ad65 (8 + t) = adv (8 + t) := hx67 (8 + t) (by omega) (by rw [th]; exact eO_ne (by decide))
        rw [← e70]
        have e71 : ad65 1 = adv 1 := hx67 1 (by omega) m1
        rw [← e71]
        have e72 : ad65 2 = adv 2 := hx67 2 (by omega) m2
        rw [← e72]
        have e73 : ad65 3 = adv 3 := hx67 3 (by omega) m3
        rw [← e73]
        have e74 : ad65 (18 + t) = adv (18 + t) := hx67 (18 + t) (by omega) (by rw [i4]; exact eR_ne)
        rw [← e74]
        obtain ⟨σ75, hs76⟩ : ∃ s9, s9 = va_up σv (76 + 141 * t + 3 * k) (eO 3 [.int (iv (0)), .null, .int (iv (0)), .int (iv (0)), .int (iv (0)), .int (iv (0)), .null, .null, .int (iv (0)), .int (iv (0)), .int (iv (0)), .int (iv (0))]) := ⟨_, rfl⟩
        rw [← hs76]
        have mo77 : moN σ σ75 := by rw [hs76]; exact moN_up mol _ (eO_ne (by decide))
        have hf78 : σ75 (8 + t) = eO 7 [.int (iv (0)), .ref (ad1 1), .ref (ad1 2), .ref (ad1 3), .ref (ad1 (18 + t)), .null] := (show σ75 (8 + t) = σv (8 + t) by rw [hs76, va_up_ne _ _ (by omega)]).trans th
        have hf79 : σ75 (18 + t) = eR G 2 47 (fun i => if i < k then some (adv (76 + 141 * t + 3 * i)) else none) := (show σ75 (18 + t) = σv (18 + t) by rw [hs76, va_up_ne _ _ (by omega)]).trans i4
        have hf80 : σ75 (1) ≠ fNo := by rw [show σ75 (1) = σv (1) by rw [hs76, va_up_ne _ _ (by omega)]]; exact m1
        have hf81 : σ75 (2) ≠ fNo := by rw [show σ75 (2) = σv (2) by rw [hs76, va_up_ne _ _ (by omega)]]; exact m2
        have hf82 : σ75 (3) ≠ fNo := by rw [show σ75 (3) = σv (3) by rw [hs76, va_up_ne _ _ (by omega)]]; exact m3
        have hf83 : σ75 (76 + 141 * t + 3 * k + 1) = fNo := (show σ75 (76 + 141 * t + 3 * k + 1) = σv (76 + 141 * t + 3 * k + 1) by rw [hs76, va_up_ne _ _ (by omega)]).trans no1
        have hf84 : σ75 (76 + 141 * t + 3 * k + 2) = fNo := (show σ75 (76 + 141 * t + 3 * k + 2) = σv (76 + 141 * t + 3 * k + 2) by rw [hs76, va_up_ne _ _ (by omega)]).trans no2
        have hf85 : σ75 (76 + 141 * t + 3 * k) = eO 3 [.int (iv (0)), .null, .int (iv (0)), .int (iv (0)), .int (iv (0)), .int (iv (0)), .null, .null, .int (iv (0)), .int (iv (0)), .int (iv (0)), .int (iv (0))] := by rw [hs76, va_up_self]
        have mo86 : moN σv σ75 := by rw [hs76]; exact moN_up (moN_r σv) _ (eO_ne (by decide))
        refine v_dup hX d_Tre_init_47 rfl ?_
        refine v_iload hX d_Tre_init_48 4 rfl ?_
        refine g_callN (As := [.int (iv (((k : Nat) : Int)))]) (b := ad65 (76 + 141 * t + 3 * k)) (st := [.ref (ad65 (76 + 141 * t + 3 * k)), .int (iv (((k : Nat) : Int))), .ref (ad65 (18 + t))]) hX (n_Nod hj66 (76 + 141 * t + 3 * k) ((k : Nat) : Int) (by omega) hf85 hf83 hf84) cl_Tre_29 d_Tre_init_50 rfl ⟨by decide, by decide⟩ ⟨by show 1 + 3 * k + 1 + 2 ≤ 142; omega, by show 47 + 18 * k + 12 + 6 ≤ 893; omega⟩ (Nat.le_of_ble_eq_true rfl) (fun ad87 σ88 hj89 hx90 hp91 => ?_)
        obtain ⟨k921, k922, k923, k924⟩ := hp91
        have ex93 : exA σv adv ad87 := exA_tr ex69 mo86 hx90
        have e94 : ad87 (8 + t) = ad65 (8 + t) := hx90 (8 + t) (by omega) (by rw [hf78]; exact eO_ne (by decide))
        rw [← e94]
        have e95 : ad87 1 = ad65 1 := hx90 1 (by omega) hf80
        rw [← e95]
        have e96 : ad87 2 = ad65 2 := hx90 2 (by omega) hf81
        rw [← e96]
        have e97 : ad87 3 = ad65 3 := hx90 3 (by omega) hf82
        rw [← e97]
        have e98 : ad87 (76 + 141 * t + 3 * k) = ad65 (76 + 141 * t + 3 * k) := hx90 (76 + 141 * t + 3 * k) (by omega) (by rw [hf85]; exact eO_ne (by decide))
        rw [← e98]
        have e99 : ad87 (18 + t) = ad65 (18 + t) := hx90 (18 + t) (by omega) (by rw [hf79]; exact eR_ne)
        rw [← e99]
        have hf100 : σ88 (8 + t) = eO 7 [.int (iv (0)), .ref (ad1 1), .ref (ad1 2), .ref (ad1 3), .ref (ad1 (18 + t)), .null] := (show σ88 (8 + t) = σ75 (8 + t) from k924 _ (by omega)).trans hf78
        have hf101 : σ88 (18 + t) = eR G 2 47 (fun i => if i < k then some (adv (76 + 141 * t + 3 * i)) else none) := (show σ88 (18 + t) = σ75 (18 + t) from k924 _ (by omega)).trans hf79
        have hf102 : σ88 (1) ≠ fNo := by rw [show σ88 (1) = σ75 (1) from k924 _ (by omega)]; exact hf80
        have hf103 : σ88 (2) ≠ fNo := by rw [show σ88 (2) = σ75 (2) from k924 _ (by omega)]; exact hf81
        have hf104 : σ88 (3) ≠ fNo := by rw [show σ88 (3) = σ75 (3) from k924 _ (by omega)]; exact hf82
        have mo105 : moN σv σ88 := moN_of mo86 (fun q => by
          by_cases z1 : q = 76 + 141 * t + 3 * k
          · rw [z1, k921]; exact Or.inl (eO_ne (by decide))
          · by_cases z2 : q = 76 + 141 * t + 3 * k + 1
            · rw [z2, k922]; exact Or.inl (eO_ne (by decide))
            · by_cases z3 : q = 76 + 141 * t + 3 * k + 2
              · rw [z3, k923]; exact Or.inl (eO_ne (by decide))
              · exact Or.inr (k924 q ⟨z1, z2, z3⟩))
        refine g_aast (i := 18 + t) (v := 76 + 141 * t + 3 * k) hX hj89 d_Tre_init_53 (by omega) (by omega) hf101 k921 rfl (by decide) rfl (by decide) k rfl hk ?_
        obtain ⟨σ106, hs107⟩ : ∃ s9, s9 = va_up σ88 (18 + t) (eR G 2 47 (va_up (fun i => if i < k then some (adv (76 + 141 * t + 3 * i)) else none) k (some (ad87 (76 + 141 * t + 3 * k))))) := ⟨_, rfl⟩
        rw [← hs107]
        refine v_iincN (a := k) (n := 1) (lv' := [(4, .int (iv ((((k + 1) : Nat) : Int)))), (0, .ref (ad87 (8 + t))), (1, .ref (ad87 1)), (2, .ref (ad87 2)), (3, .ref (ad87 3))]) hX d_Tre_init_54 rfl 4 rfl (by decide) rfl ?_
        refine v_goto (tgt := 31) hX d_Tre_init_57 (by decide) ?_
        refine v_widen (kc' := 1 + 3 * (k + 1)) (ks' := 47 + 18 * (k + 1)) (by show 1 + 3 * k + 1 + 2 ≤ _; omega) (by show 47 + 18 * k + 12 + 6 ≤ _; omega) ?_
        refine v_lv [1, 2, 3, 4, 0] rfl ?_
        exact ih_LOOP (k + 1) (σ106) (ad87) (by omega) (by omega) (trI_step ht hT hk hj89 ex93 (by rw [hs107]; exact moN_up mo105 _ eR_ne) (by rw [hs107, va_up_ne _ _ (by omega)]; exact k921) (by unfold pCut; rw [hs107, va_up_ne _ _ (by omega)]; exact k922) (by unfold pFra; rw [hs107, va_up_ne _ _ (by omega)]; exact k923) (by rw [hs107, va_up_self]) (fun q q1 q2 q3 q4 => by rw [hs107, va_up_ne _ _ (by omega), k924 _ (by omega), hs76, va_up_ne _ _ (by omega)]))
  refine v_lv [1, 2, 3, 4, 0] rfl ?_
  exact LOOP _ (0) (σ41) (ad1) (Nat.lt_succ_self _) (Nat.zero_le _) ⟨hj2, exA_r _ _, moN_r _, (by rw [hf47]; exact congrArg (eR G 2 47) (funext fun i => (if_neg (by omega)).symm)), (fun i hi => absurd hi (Nat.not_lt_zero i)), (fun i _ hi => by have e := fun q h => ((fun q hq => by rw [hs42, va_up_ne _ _ (by omega), hs34, va_up_ne _ _ (by omega), hs26, va_up_ne _ _ (by omega), hs18, va_up_ne _ _ (by omega), hs10, va_up_ne _ _ (by omega)]) : ∀ q, (76 + 141 * t ≤ q ∧ q < 217 + 141 * t) → σ41 q = σ q) q h; rw [e _ (by omega), e _ (by omega), e _ (by omega)]; exact ⟨hn _ (by omega), hn _ (by omega), hn _ (by omega)⟩), (fun _ _ _ => rfl)⟩

set_option maxHeartbeats 1000000 in
set_option maxRecDepth 100000 in
theorem n_Pru {G : xG} {ad : Nat → Nat} (hj : adOk ad 400) {σ : xF} (hb : σ 10 = eO 4 [.int (iv (0)), .null, .null, .null, .null, .null]) (h8 : σ 8 ≠ fNo) (hn : ∀ i, (20 ≤ i ∧ i ≤ 23) ∨ (52 ≤ i ∧ i ≤ 75) → σ i = fNo) : ∀ l, gC l G ad y_Pru_init (.code y_Pru_init c_Pru_init 3 none) rk_Pru [.ref (ad 10), .ref (ad 8)] σ (fun ad' σ' => pPru G ad' σ' 0 (fun _ => 0) (fun _ => 0) (fun _ => 0) (fun _ => 1) ∧ (∀ q, q ≠ 10 ∧ (q < 20 ∨ 23 < q) ∧ (q < 52 ∨ 75 < q) → σ' q = σ q)) := by
  intro l
  refine mV_of (by decide) (Nat.le_of_ble_eq_true rfl) (fun X hX hret => ?_)
  show vV G X 0 0 0 [(0, .ref (ad 10)), (1, .ref (ad 8))] [] (ov fZ ad 400 σ)
  refine v_aload_n hX d_Pru_init_0 0 rfl ?_
  refine v_objInit hX d_Pru_init_1 (mT 279 (by decide +kernel) rfl) (mT 62 (by decide +kernel) rfl) (mT 63 (by decide +kernel) rfl) (by decide) (by decide) ?_
  refine v_aload_n hX d_Pru_init_4 0 rfl ?_
  refine v_bipush hX (24) d_Pru_init_5 rfl ?_
  refine g_newR hX hj (g := 20) (by omega) (hn 20 (by omega)) 24 3 (mT 280 (by decide +kernel) rfl) (mN 8 rfl) rfl d_Pru_init_7 rfl (by decide) ⟨by decide, by decide⟩ (fun ad1 hj2 hx3 => ?_)
  have ex4 : exA σ ad ad1 := exA_tr (exA_r σ ad) (moN_r σ) hx3
  have e5 : ad1 10 = ad 10 := hx3 10 (by omega) (by rw [hb]; exact eO_ne (by decide))
  rw [← e5]
  have e6 : ad1 8 = ad 8 := hx3 8 (by omega) h8
  rw [← e6]
  obtain ⟨σ7, hs8⟩ : ∃ s9, s9 = va_up σ (20) (eR G 3 24 (fun _ => none)) := ⟨_, rfl⟩
  rw [← hs8]
  have mo9 : moN σ σ7 := by rw [hs8]; exact moN_up (moN_r σ) _ eR_ne
  have hf10 : σ7 (10) = eO 4 [.int (iv (0)), .null, .null, .null, .null, .null] := (show σ7 (10) = σ (10) by rw [hs8, va_up_ne _ _ (by omega)]).trans hb
  have hf11 : σ7 (8) ≠ fNo := by rw [show σ7 (8) = σ (8) by rw [hs8, va_up_ne _ _ (by omega)]]; exact h8
  have hf12 : σ7 (21) = fNo := (show σ7 (21) = σ (21) by rw [hs8, va_up_ne _ _ (by omega)]).trans (hn 21 (by omega))
  have hf13 : σ7 (22) = fNo := (show σ7 (22) = σ (22) by rw [hs8, va_up_ne _ _ (by omega)]).trans (hn 22 (by omega))
  have hf14 : σ7 (23) = fNo := (show σ7 (23) = σ (23) by rw [hs8, va_up_ne _ _ (by omega)]).trans (hn 23 (by omega))
  have hf15 : σ7 (20) = eR G 3 24 (fun _ => none) := by rw [hs8, va_up_self]
  refine g_putF (i := 10) (fs' := [.int (iv (0)), .ref (ad1 20), .null, .null, .null, .null]) hX hj2 pF_Pru_11 rfl d_Pru_init_10 (by omega) hf10 rfl rfl (Nat.le_of_ble_eq_true rfl) rfl ?_
  obtain ⟨σ16, hs17⟩ : ∃ s9, s9 = va_up σ7 (10) (eO 4 [.int (iv (0)), .ref (ad1 20), .null, .null, .null, .null]) := ⟨_, rfl⟩
  rw [← hs17]
  have mo18 : moN σ σ16 := by rw [hs17]; exact moN_up mo9 _ (eO_ne (by decide))
  have hf19 : σ16 (8) ≠ fNo := by rw [show σ16 (8) = σ7 (8) by rw [hs17, va_up_ne _ _ (by omega)]]; exact hf11
  have hf20 : σ16 (21) = fNo := (show σ16 (21) = σ7 (21) by rw [hs17, va_up_ne _ _ (by omega)]).trans hf12
  have hf21 : σ16 (22) = fNo := (show σ16 (22) = σ7 (22) by rw [hs17, va_up_ne _ _ (by omega)]).trans hf13
  have hf22 : σ16 (23) = fNo := (show σ16 (23) = σ7 (23) by rw [hs17, va_up_ne _ _ (by omega)]).trans hf14
  have hf23 : σ16 (20) = eR G 3 24 (fun _ => none) := (show σ16 (20) = σ7 (20) by rw [hs17, va_up_ne _ _ (by omega)]).trans hf15
  have hf24 : σ16 (10) = eO 4 [.int (iv (0)), .ref (ad1 20), .null, .null, .null, .null] := by rw [hs17, va_up_self]
  refine v_aload_n hX d_Pru_init_13 0 rfl ?_
  refine v_bipush hX (24) d_Pru_init_14 rfl ?_
  refine g_newJ hX hj2 (g := 21) (by omega) hf20 24 (mT 97 (by decide +kernel) rfl) d_Pru_init_16 rfl (by decide) ⟨by decide, by decide⟩ (fun ad25 hj26 hx27 => ?_)
  have ex28 : exA σ ad ad25 := exA_tr ex4 mo18 hx27
  have e29 : ad25 10 = ad1 10 := hx27 10 (by omega) (by rw [hf24]; exact eO_ne (by decide))
  rw [← e29]
  have e30 : ad25 8 = ad1 8 := hx27 8 (by omega) hf19
  rw [← e30]
  have t31 : ad25 20 = ad1 20 := (hx27 20 (by omega) (by rw [hf23]; exact eR_ne))
  obtain ⟨σ32, hs33⟩ : ∃ s9, s9 = va_up σ16 (21) (eJ G 24 (fun _ => 0)) := ⟨_, rfl⟩
  rw [← hs33]
  have mo34 : moN σ σ32 := by rw [hs33]; exact moN_up mo18 _ eJ_ne
  have hf35 : σ32 (8) ≠ fNo := by rw [show σ32 (8) = σ16 (8) by rw [hs33, va_up_ne _ _ (by omega)]]; exact hf19
  have hf36 : σ32 (22) = fNo := (show σ32 (22) = σ16 (22) by rw [hs33, va_up_ne _ _ (by omega)]).trans hf21
  have hf37 : σ32 (23) = fNo := (show σ32 (23) = σ16 (23) by rw [hs33, va_up_ne _ _ (by omega)]).trans hf22
  have hf38 : σ32 (20) = eR G 3 24 (fun _ => none) := (show σ32 (20) = σ16 (20) by rw [hs33, va_up_ne _ _ (by omega)]).trans hf23
  have hf39 : σ32 (10) = eO 4 [.int (iv (0)), .ref (ad1 20), .null, .null, .null, .null] := (show σ32 (10) = σ16 (10) by rw [hs33, va_up_ne _ _ (by omega)]).trans hf24
  have hf40 : σ32 (21) = eJ G 24 (fun _ => 0) := by rw [hs33, va_up_self]
  refine g_putF (i := 10) (fs' := [.int (iv (0)), .ref (ad1 20), .ref (ad25 21), .null, .null, .null]) hX hj26 pF_Pru_17 rfl d_Pru_init_18 (by omega) hf39 rfl rfl (Nat.le_of_ble_eq_true rfl) rfl ?_
  obtain ⟨σ41, hs42⟩ : ∃ s9, s9 = va_up σ32 (10) (eO 4 [.int (iv (0)), .ref (ad1 20), .ref (ad25 21), .null, .null, .null]) := ⟨_, rfl⟩
  rw [← hs42]
  have mo43 : moN σ σ41 := by rw [hs42]; exact moN_up mo34 _ (eO_ne (by decide))
  have hf44 : σ41 (8) ≠ fNo := by rw [show σ41 (8) = σ32 (8) by rw [hs42, va_up_ne _ _ (by omega)]]; exact hf35
  have hf45 : σ41 (22) = fNo := (show σ41 (22) = σ32 (22) by rw [hs42, va_up_ne _ _ (by omega)]).trans hf36
  have hf46 : σ41 (23) = fNo := (show σ41 (23) = σ32 (23) by rw [hs42, va_up_ne _ _ (by omega)]).trans hf37
  have hf47 : σ41 (20) = eR G 3 24 (fun _ => none) := (show σ41 (20) = σ32 (20) by rw [hs42, va_up_ne _ _ (by omega)]).trans hf38
  have hf48 : σ41 (21) = eJ G 24 (fun _ => 0) := (show σ41 (21) = σ32 (21) by rw [hs42, va_up_ne _ _ (by omega)]).trans hf40
  have hf49 : σ41 (10) = eO 4 [.int (iv (0)), .ref (ad1 20), .ref (ad25 21), .null, .null, .null] := by rw [hs42, va_up_self]
  refine v_aload_n hX d_Pru_init_21 0 rfl ?_
  refine v_bipush hX (24) d_Pru_init_22 rfl ?_
  refine g_newJ hX hj26 (g := 22) (by omega) hf45 24 (mT 97 (by decide +kernel) rfl) d_Pru_init_24 rfl (by decide) ⟨by decide, by decide⟩ (fun ad50 hj51 hx52 => ?_)
  have ex53 : exA σ ad ad50 := exA_tr ex28 mo43 hx52
  have e54 : ad50 10 = ad25 10 := hx52 10 (by omega) (by rw [hf49]; exact eO_ne (by decide))
  rw [← e54]
  have e55 : ad50 8 = ad25 8 := hx52 8 (by omega) hf44
  rw [← e55]
  have t56 : ad50 20 = ad1 20 := (hx52 20 (by omega) (by rw [hf47]; exact eR_ne)).trans t31
  have t57 : ad50 21 = ad25 21 := (hx52 21 (by omega) (by rw [hf48]; exact eJ_ne))
  obtain ⟨σ58, hs59⟩ : ∃ s9, s9 = va_up σ41 (22) (eJ G 24 (fun _ => 0)) := ⟨_, rfl⟩
  rw [← hs59]
  have mo60 : moN σ σ58 := by rw [hs59]; exact moN_up mo43 _ eJ_ne
  have hf61 : σ58 (8) ≠ fNo := by rw [show σ58 (8) = σ41 (8) by rw [hs59, va_up_ne _ _ (by omega)]]; exact hf44
  have hf62 : σ58 (23) = fNo := (show σ58 (23) = σ41 (23) by rw [hs59, va_up_ne _ _ (by omega)]).trans hf46
  have hf63 : σ58 (20) = eR G 3 24 (fun _ => none) := (show σ58 (20) = σ41 (20) by rw [hs59, va_up_ne _ _ (by omega)]).trans hf47
  have hf64 : σ58 (21) = eJ G 24 (fun _ => 0) := (show σ58 (21) = σ41 (21) by rw [hs59, va_up_ne _ _ (by omega)]).trans hf48
  have hf65 : σ58 (10) = eO 4 [.int (iv (0)), .ref (ad1 20), .ref (ad25 21), .null, .null, .null] := (show σ58 (10) = σ41 (10) by rw [hs59, va_up_ne _ _ (by omega)]).trans hf49
  have hf66 : σ58 (22) = eJ G 24 (fun _ => 0) := by rw [hs59, va_up_self]
  refine g_putF (i := 10) (fs' := [.int (iv (0)), .ref (ad1 20), .ref (ad25 21), .ref (ad50 22), .null, .null]) hX hj51 pF_Pru_21 rfl d_Pru_init_26 (by omega) hf65 rfl rfl (Nat.le_of_ble_eq_true rfl) rfl ?_
  obtain ⟨σ67, hs68⟩ : ∃ s9, s9 = va_up σ58 (10) (eO 4 [.int (iv (0)), .ref (ad1 20), .ref (ad25 21), .ref (ad50 22), .null, .null]) := ⟨_, rfl⟩
  rw [← hs68]
  have mo69 : moN σ σ67 := by rw [hs68]; exact moN_up mo60 _ (eO_ne (by decide))
  have hf70 : σ67 (8) ≠ fNo := by rw [show σ67 (8) = σ58 (8) by rw [hs68, va_up_ne _ _ (by omega)]]; exact hf61
  have hf71 : σ67 (23) = fNo := (show σ67 (23) = σ58 (23) by rw [hs68, va_up_ne _ _ (by omega)]).trans hf62
  have hf72 : σ67 (20) = eR G 3 24 (fun _ => none) := (show σ67 (20) = σ58 (20) by rw [hs68, va_up_ne _ _ (by omega)]).trans hf63
  have hf73 : σ67 (21) = eJ G 24 (fun _ => 0) := (show σ67 (21) = σ58 (21) by rw [hs68, va_up_ne _ _ (by omega)]).trans hf64
  have hf74 : σ67 (22) = eJ G 24 (fun _ => 0) := (show σ67 (22) = σ58 (22) by rw [hs68, va_up_ne _ _ (by omega)]).trans hf66
  have hf75 : σ67 (10) = eO 4 [.int (iv (0)), .ref (ad1 20), .ref (ad25 21), .ref (ad50 22), .null, .null] := by rw [hs68, va_up_self]
  refine v_aload_n hX d_Pru_init_29 0 rfl ?_
  refine g_new hX hj51 (g := 23) (by omega) hf71 nw_Pru_9 d_Pru_init_30 ⟨by decide, by decide⟩ (fun ad76 hj77 hx78 => ?_)
  have ex79 : exA σ ad ad76 := exA_tr ex53 mo69 hx78
  have e80 : ad76 10 = ad50 10 := hx78 10 (by omega) (by rw [hf75]; exact eO_ne (by decide))
  rw [← e80]
  have e81 : ad76 8 = ad50 8 := hx78 8 (by omega) hf70
  rw [← e81]
  have t82 : ad76 20 = ad1 20 := (hx78 20 (by omega) (by rw [hf72]; exact eR_ne)).trans t56
  have t83 : ad76 21 = ad25 21 := (hx78 21 (by omega) (by rw [hf73]; exact eJ_ne)).trans t57
  have t84 : ad76 22 = ad50 22 := (hx78 22 (by omega) (by rw [hf74]; exact eJ_ne))
  obtain ⟨σ85, hs86⟩ : ∃ s9, s9 = va_up σ67 (23) (eO 1 [.int (iv (0)), .int (iv (0))]) := ⟨_, rfl⟩
  rw [← hs86]
  have mo87 : moN σ σ85 := by rw [hs86]; exact moN_up mo69 _ (eO_ne (by decide))
  have hf88 : σ85 (8) ≠ fNo := by rw [show σ85 (8) = σ67 (8) by rw [hs86, va_up_ne _ _ (by omega)]]; exact hf70
  have hf89 : σ85 (20) = eR G 3 24 (fun _ => none) := (show σ85 (20) = σ67 (20) by rw [hs86, va_up_ne _ _ (by omega)]).trans hf72
  have hf90 : σ85 (21) = eJ G 24 (fun _ => 0) := (show σ85 (21) = σ67 (21) by rw [hs86, va_up_ne _ _ (by omega)]).trans hf73
  have hf91 : σ85 (22) = eJ G 24 (fun _ => 0) := (show σ85 (22) = σ67 (22) by rw [hs86, va_up_ne _ _ (by omega)]).trans hf74
  have hf92 : σ85 (10) = eO 4 [.int (iv (0)), .ref (ad1 20), .ref (ad25 21), .ref (ad50 22), .null, .null] := (show σ85 (10) = σ67 (10) by rw [hs86, va_up_ne _ _ (by omega)]).trans hf75
  have hf93 : σ85 (23) = eO 1 [.int (iv (0)), .int (iv (0))] := by rw [hs86, va_up_self]
  refine v_dup hX d_Pru_init_33 rfl ?_
  refine v_callN (As := []) (b := ad76 23) (st := [.ref (ad76 23), .ref (ad76 10)]) hX (fun l => n_Fra hj77 (23) (by omega) hf93 l) cl_Pru_24 d_Pru_init_34 rfl ⟨by decide, by decide⟩ ⟨by decide, by decide⟩ (Nat.le_of_ble_eq_true rfl) (fun f9 hf9 => ?_)
  obtain ⟨σ94, ef9, hp95⟩ := hf9
  subst ef9
  have hf96 : σ94 (8) ≠ fNo := by rw [show σ94 (8) = σ85 (8) by rw [hp95, va_up_ne _ _ (by omega)]]; exact hf88
  have hf97 : σ94 (20) = eR G 3 24 (fun _ => none) := (show σ94 (20) = σ85 (20) by rw [hp95, va_up_ne _ _ (by omega)]).trans hf89
  have hf98 : σ94 (21) = eJ G 24 (fun _ => 0) := (show σ94 (21) = σ85 (21) by rw [hp95, va_up_ne _ _ (by omega)]).trans hf90
  have hf99 : σ94 (22) = eJ G 24 (fun _ => 0) := (show σ94 (22) = σ85 (22) by rw [hp95, va_up_ne _ _ (by omega)]).trans hf91
  have hf100 : σ94 (10) = eO 4 [.int (iv (0)), .ref (ad1 20), .ref (ad25 21), .ref (ad50 22), .null, .null] := (show σ94 (10) = σ85 (10) by rw [hp95, va_up_ne _ _ (by omega)]).trans hf92
  have hf101 : σ94 (23) = eO 1 [.int (iv (0)), .int (iv (1))] := by rw [hp95, va_up_self]
  have mo102 : moN σ σ94 := by rw [hp95]; exact moN_up mo87 _ (eO_ne (by decide))
  refine g_putF (i := 10) (fs' := [.int (iv (0)), .ref (ad1 20), .ref (ad25 21), .ref (ad50 22), .null, .ref (ad76 23)]) hX hj77 pF_Pru_25 rfl d_Pru_init_37 (by omega) hf100 rfl rfl (Nat.le_of_ble_eq_true rfl) rfl ?_
  obtain ⟨σ103, hs104⟩ : ∃ s9, s9 = va_up σ94 (10) (eO 4 [.int (iv (0)), .ref (ad1 20), .ref (ad25 21), .ref (ad50 22), .null, .ref (ad76 23)]) := ⟨_, rfl⟩
  rw [← hs104]
  have mo105 : moN σ σ103 := by rw [hs104]; exact moN_up mo102 _ (eO_ne (by decide))
  have hf106 : σ103 (8) ≠ fNo := by rw [show σ103 (8) = σ94 (8) by rw [hs104, va_up_ne _ _ (by omega)]]; exact hf96
  have hf107 : σ103 (20) = eR G 3 24 (fun _ => none) := (show σ103 (20) = σ94 (20) by rw [hs104, va_up_ne _ _ (by omega)]).trans hf97
  have hf108 : σ103 (21) = eJ G 24 (fun _ => 0) := (show σ103 (21) = σ94 (21) by rw [hs104, va_up_ne _ _ (by omega)]).trans hf98
  have hf109 : σ103 (22) = eJ G 24 (fun _ => 0) := (show σ103 (22) = σ94 (22) by rw [hs104, va_up_ne _ _ (by omega)]).trans hf99
  have hf110 : σ103 (23) = eO 1 [.int (iv (0)), .int (iv (1))] := (show σ103 (23) = σ94 (23) by rw [hs104, va_up_ne _ _ (by omega)]).trans hf101
  have hf111 : σ103 (10) = eO 4 [.int (iv (0)), .ref (ad1 20), .ref (ad25 21), .ref (ad50 22), .null, .ref (ad76 23)] := by rw [hs104, va_up_self]
  refine v_aload_n hX d_Pru_init_40 0 rfl ?_
  refine v_aload_n hX d_Pru_init_41 1 rfl ?_
  refine g_putF (i := 10) (fs' := [.int (iv (0)), .ref (ad1 20), .ref (ad25 21), .ref (ad50 22), .ref (ad76 8), .ref (ad76 23)]) hX hj77 pF_Pru_29 rfl d_Pru_init_42 (by omega) hf111 rfl rfl (Nat.le_of_ble_eq_true rfl) rfl ?_
  obtain ⟨σ112, hs113⟩ : ∃ s9, s9 = va_up σ103 (10) (eO 4 [.int (iv (0)), .ref (ad1 20), .ref (ad25 21), .ref (ad50 22), .ref (ad76 8), .ref (ad76 23)]) := ⟨_, rfl⟩
  rw [← hs113]
  have mo114 : moN σ σ112 := by rw [hs113]; exact moN_up mo105 _ (eO_ne (by decide))
  have hf115 : σ112 (8) ≠ fNo := by rw [show σ112 (8) = σ103 (8) by rw [hs113, va_up_ne _ _ (by omega)]]; exact hf106
  have hf116 : σ112 (20) = eR G 3 24 (fun _ => none) := (show σ112 (20) = σ103 (20) by rw [hs113, va_up_ne _ _ (by omega)]).trans hf107
  have hf117 : σ112 (21) = eJ G 24 (fun _ => 0) := (show σ112 (21) = σ103 (21) by rw [hs113, va_up_ne _ _ (by omega)]).trans hf108
  have hf118 : σ112 (22) = eJ G 24 (fun _ => 0) := (show σ112 (22) = σ103 (22) by rw [hs113, va_up_ne _ _ (by omega)]).trans hf109
  have hf119 : σ112 (23) = eO 1 [.int (iv (0)), .int (iv (1))] := (show σ112 (23) = σ103 (23) by rw [hs113, va_up_ne _ _ (by omega)]).trans hf110
  have hf120 : σ112 (10) = eO 4 [.int (iv (0)), .ref (ad1 20), .ref (ad25 21), .ref (ad50 22), .ref (ad76 8), .ref (ad76 23)] := by rw [hs113, va_up_self]
  refine v_iconst hX (0) d_Pru_init_45 ?_
  refine v_istore_n (lv' := [(2, .int (iv (0))), (0, .ref (ad76 10)), (1, .ref (ad76 8))]) hX d_Pru_init_46 rfl (by decide) rfl ?_
  refine v_widen (kc' := 4 + 0) (ks' := 74 + 2 * 0) (by decide) (by decide) ?_
  have LOOP : ∀ (fuel : Nat) (k : Nat) (σv : xF) (adv : Nat → Nat), 24 - k < fuel → (k ≤ 24) → (prI G σ112 ad76 k σv adv) → vV G X (4 + k) (74 + 2 * k) 47 [(0, .ref (adv 10)), (1, .ref (adv 8)), (2, .int (iv (((k : Nat) : Int))))] [] (ov fZ adv 400 σv) := by
    intro fuel
    induction fuel with
    | zero => intro k σv adv hm; exact absurd hm (Nat.not_lt_zero _)
    | succ fuel ih_LOOP =>
      intro k σv adv hm hk24 hT
      obtain ⟨i1, i2, i3, i4, i5, i6, i7⟩ := id hT
      have exl : exA σ ad adv := exA_tr ex79 mo114 i2
      have mol : moN σ σv := moN_tr mo114 i3
      have th : σv 10 = eO 4 [.int (iv (0)), .ref (ad1 20), .ref (ad25 21), .ref (ad50 22), .ref (ad76 8), .ref (ad76 23)] := (i7 10 (by omega) (by omega)).trans hf120
      have m8 : σv 8 ≠ fNo := by rw [i7 8 (by omega) (by omega)]; exact hf115
      have e20 : adv 20 = ad1 20 := (i2 20 (by omega) (by rw [hf116]; exact eR_ne)).trans t82
      refine v_iload_n hX d_Pru_init_47 2 rfl ?_
      refine v_bipush hX (24) d_Pru_init_48 rfl ?_
      refine v_icmp_ge (tgt := 72) hX d_Pru_init_50 (by decide) (by unfold ir; omega) (by unfold ir; omega) (fun c50_1 => ?_) (fun c50_1 => ?_)
      · have e24 : k = 24 := by omega
        subst e24
        refine v_aload_n hX d_Pru_init_72 0 rfl ?_
        refine v_iconst hX (0) d_Pru_init_73 ?_
        refine g_put (i := 10) (fs' := [.int (iv (0)), .ref (ad1 20), .ref (ad25 21), .ref (ad50 22), .ref (ad76 8), .ref (ad76 23)]) hX i1 pf_Pru_33 d_Pru_init_74 (by omega) th rfl rfl (Nat.le_of_ble_eq_true rfl) rfl ?_
        obtain ⟨σ121, hs122⟩ : ∃ s9, s9 = va_up σv (10) (eO 4 [.int (iv (0)), .ref (ad1 20), .ref (ad25 21), .ref (ad50 22), .ref (ad76 8), .ref (ad76 23)]) := ⟨_, rfl⟩
        rw [← hs122]
        have mo123 : moN σ σ121 := by rw [hs122]; exact moN_up mol _ (eO_ne (by decide))
        have hf124 : σ121 (20) = eR G 3 24 (fun i => if i < 24 then some (adv (52 + i)) else none) := (show σ121 (20) = σv (20) by rw [hs122, va_up_ne _ _ (by omega)]).trans i4
        have hf125 : σ121 (8) ≠ fNo := by rw [show σ121 (8) = σv (8) by rw [hs122, va_up_ne _ _ (by omega)]]; exact m8
        have hf126 : σ121 (10) = eO 4 [.int (iv (0)), .ref (ad1 20), .ref (ad25 21), .ref (ad50 22), .ref (ad76 8), .ref (ad76 23)] := by rw [hs122, va_up_self]
        have e127 : adv 20 = ad1 20 := (i2 20 (by omega) (by rw [hf116]; exact eR_ne)).trans t82
        have e128 : adv 21 = ad25 21 := (i2 21 (by omega) (by rw [hf117]; exact eJ_ne)).trans t83
        have e129 : adv 22 = ad50 22 := (i2 22 (by omega) (by rw [hf118]; exact eJ_ne)).trans t84
        have e130 : adv 8 = ad76 8 := (i2 8 (by omega) hf115)
        have e131 : adv 23 = ad76 23 := (i2 23 (by omega) (by rw [hf119]; exact eO_ne (by decide)))
        have fr9 : ∀ q, q ≠ 10 → σ121 q = σv q := fun q hq => by rw [hs122, va_up_ne _ _ (by omega)]
        have hth : σ121 10 = eO 4 [.int (iv ((0 : Nat) : Int)), .ref (adv 20), .ref (adv 21), .ref (adv 22), .ref (adv 8), .ref (adv 23)] := by rw [e127, e128, e129, e130, e131]; exact hf126
        have hPP : pPru G adv σ121 0 (fun _ => 0) (fun _ => 0) (fun _ => 0) (fun _ => 1) := ⟨hth, (fr9 20 (by omega)).trans i4, (fr9 21 (by omega)).trans ((i7 21 (by omega) (by omega)).trans hf117), (fr9 22 (by omega)).trans ((i7 22 (by omega) (by omega)).trans hf118), ⟨0, 1, (fr9 23 (by omega)).trans ((i7 23 (by omega) (by omega)).trans hf119)⟩, fun s hs => (fr9 _ (by omega)).trans (i5 s hs)⟩
        refine v_widen (kc' := rk_Pru.cells) (ks' := rk_Pru.slots) (by decide) (by decide) ?_
        exact hret _ _ _ d_Pru_init_77 ⟨adv, σ121, i1, exl, rfl, hPP, (fun q hq => by rw [fr9 q (by omega), i7 q (by omega) (by omega)]; exact ((fun q hq => by rw [hs113, va_up_ne _ _ (by omega), hs104, va_up_ne _ _ (by omega), hp95, va_up_ne _ _ (by omega), hs86, va_up_ne _ _ (by omega), hs68, va_up_ne _ _ (by omega), hs59, va_up_ne _ _ (by omega), hs42, va_up_ne _ _ (by omega), hs33, va_up_ne _ _ (by omega), hs17, va_up_ne _ _ (by omega), hs8, va_up_ne _ _ (by omega)]) : ∀ q, (q ≠ 10 ∧ (q < 20 ∨ 23 < q) ∧ (q < 52 ∨ 75 < q)) → σ112 q = σ q) q hq)⟩
      · have hk : k < 24 := by omega
        have no0 := i6 k (Nat.le_refl k) hk
        refine v_aload_n hX d_Pru_init_53 0 rfl ?_
        refine g_get (i := 10) hX i1 fl_Pru_11 d_Pru_init_54 (by omega) th rfl ?_
        rw [← e20]
        refine v_iload_n hX d_Pru_init_57 2 rfl ?_
        refine g_new hX i1 (g := 52 + k) (by omega) no0 nw_Pru_9 d_Pru_init_58 ⟨by show 4 + k + 1 ≤ 28; omega, by show 74 + 2 * k + 2 ≤ 122; omega⟩ (fun ad132 hj133 hx134 => ?_)
        have ex135 : exA σ ad ad132 := exA_tr exl mol hx134
        have ex136 : exA σv adv ad132 := exA_tr (exA_r σv adv) (moN_r σv) hx134
        have e137 : ad132 10 = adv 10 := hx134 10 (by omega) (by rw [th]; exact eO_ne (by decide))
        rw [← e137]
        have e138 : ad132 8 = adv 8 := hx134 8 (by omega) m8
        rw [← e138]
        have e139 : ad132 20 = adv 20 := hx134 20 (by omega) (by rw [i4]; exact eR_ne)
        rw [← e139]
        obtain ⟨σ140, hs141⟩ : ∃ s9, s9 = va_up σv (52 + k) (eO 1 [.int (iv (0)), .int (iv (0))]) := ⟨_, rfl⟩
        rw [← hs141]
        have mo142 : moN σ σ140 := by rw [hs141]; exact moN_up mol _ (eO_ne (by decide))
        have hf143 : σ140 (10) = eO 4 [.int (iv (0)), .ref (ad1 20), .ref (ad25 21), .ref (ad50 22), .ref (ad76 8), .ref (ad76 23)] := (show σ140 (10) = σv (10) by rw [hs141, va_up_ne _ _ (by omega)]).trans th
        have hf144 : σ140 (20) = eR G 3 24 (fun i => if i < k then some (adv (52 + i)) else none) := (show σ140 (20) = σv (20) by rw [hs141, va_up_ne _ _ (by omega)]).trans i4
        have hf145 : σ140 (8) ≠ fNo := by rw [show σ140 (8) = σv (8) by rw [hs141, va_up_ne _ _ (by omega)]]; exact m8
        have hf146 : σ140 (52 + k) = eO 1 [.int (iv (0)), .int (iv (0))] := by rw [hs141, va_up_self]
        have mo147 : moN σv σ140 := by rw [hs141]; exact moN_up (moN_r σv) _ (eO_ne (by decide))
        refine v_dup hX d_Pru_init_61 rfl ?_
        refine v_callN (As := []) (b := ad132 (52 + k)) (st := [.ref (ad132 (52 + k)), .int (iv (((k : Nat) : Int))), .ref (ad132 20)]) hX (fun l => n_Fra hj133 (52 + k) (by omega) hf146 l) cl_Pru_24 d_Pru_init_62 rfl ⟨by decide, by decide⟩ ⟨by show 4 + k + 1 + 0 ≤ 28; omega, by show 74 + 2 * k + 2 + 0 ≤ 122; omega⟩ (Nat.le_of_ble_eq_true rfl) (fun f9 hf9 => ?_)
        obtain ⟨σ148, ef9, hp149⟩ := hf9
        subst ef9
        have hf150 : σ148 (10) = eO 4 [.int (iv (0)), .ref (ad1 20), .ref (ad25 21), .ref (ad50 22), .ref (ad76 8), .ref (ad76 23)] := (show σ148 (10) = σ140 (10) by rw [hp149, va_up_ne _ _ (by omega)]).trans hf143
        have hf151 : σ148 (20) = eR G 3 24 (fun i => if i < k then some (adv (52 + i)) else none) := (show σ148 (20) = σ140 (20) by rw [hp149, va_up_ne _ _ (by omega)]).trans hf144
        have hf152 : σ148 (8) ≠ fNo := by rw [show σ148 (8) = σ140 (8) by rw [hp149, va_up_ne _ _ (by omega)]]; exact hf145
        have hf153 : σ148 (52 + k) = eO 1 [.int (iv (0)), .int (iv (1))] := by rw [hp149, va_up_self]
        have mo154 : moN σ σ148 := by rw [hp149]; exact moN_up mo142 _ (eO_ne (by decide))
        have mo155 : moN σv σ148 := by rw [hp149]; exact moN_up mo147 _ (eO_ne (by decide))
        refine g_aast (i := 20) (v := 52 + k) hX hj133 d_Pru_init_65 (by omega) (by omega) hf151 hf153 rfl (by decide) rfl (by decide) k rfl hk ?_
        obtain ⟨σ156, hs157⟩ : ∃ s9, s9 = va_up σ148 20 (eR G 3 24 (va_up (fun i => if i < k then some (adv (52 + i)) else none) k (some (ad132 (52 + k))))) := ⟨_, rfl⟩
        rw [← hs157]
        refine v_iincN (a := k) (n := 1) (lv' := [(2, .int (iv ((((k + 1) : Nat) : Int)))), (0, .ref (ad132 10)), (1, .ref (ad132 8))]) hX d_Pru_init_66 rfl 2 rfl (by decide) rfl ?_
        refine v_goto (tgt := 47) hX d_Pru_init_69 (by decide) ?_
        refine v_widen (kc' := 4 + (k + 1)) (ks' := 74 + 2 * (k + 1)) (by show 4 + k + 1 + 0 ≤ _; omega) (by show 74 + 2 * k + 2 + 0 ≤ _; omega) ?_
        refine v_lv [1, 2, 0] rfl ?_
        exact ih_LOOP (k + 1) (σ156) (ad132) (by omega) (by omega) (prI_step hT hk hj133 ex136 (by rw [hs157]; exact moN_up mo155 _ eR_ne) (by rw [hs157, va_up_ne _ _ (by omega)]; exact hf153) (by rw [hs157, va_up_self]) (fun q q1 q2 => by rw [hs157, va_up_ne _ _ (by omega), hp149, va_up_ne _ _ (by omega), hs141, va_up_ne _ _ (by omega)]))
  refine v_lv [1, 2, 0] rfl ?_
  exact LOOP _ (0) (σ112) (ad76) (Nat.lt_succ_self _) (Nat.zero_le _) ⟨hj77, exA_r _ _, moN_r _, (by rw [hf116]; exact congrArg (eR G 3 24) (funext fun i => (if_neg (by omega)).symm)), (fun i hi => absurd hi (Nat.not_lt_zero i)), (fun i _ hi => by have e := fun q h => ((fun q hq => by rw [hs113, va_up_ne _ _ (by omega), hs104, va_up_ne _ _ (by omega), hp95, va_up_ne _ _ (by omega), hs86, va_up_ne _ _ (by omega), hs68, va_up_ne _ _ (by omega), hs59, va_up_ne _ _ (by omega), hs42, va_up_ne _ _ (by omega), hs33, va_up_ne _ _ (by omega), hs17, va_up_ne _ _ (by omega), hs8, va_up_ne _ _ (by omega)]) : ∀ q, (52 ≤ q ∧ q ≤ 75) → σ112 q = σ q) q h; rw [e _ (by omega)]; exact hn _ (by omega)), (fun _ _ _ => rfl)⟩
