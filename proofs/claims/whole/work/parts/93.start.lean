/-! THE LAW, from its entry -/
theorem ov_no {ad : Nat → Nat} {q : Nat} : ov fZ ad 400 (fun _ => fNo) q = fNo := by
  unfold ov fZ
  split <;> rfl
set_option maxHeartbeats 4000000 in
set_option maxRecDepth 100000 in
theorem law_start {G : xG} {X : xT} {nm ds : String} {b L : Nat} {xs : Nat → Int32} (hX : xOk G X c_Law_law ⟨R_Law, nm, ds⟩ 4 room_1) (hS : lwX X b L xs) (hL : L ≤ 3072) (hEnd : ∀ (ad : Nat → Nat) lv σ, vV G X 600000 7302250 671 lv [.int (iv 1)] (ov fZ ad 400 σ)) : vV G X 0 0 0 [(0, .ref b)] [] (ov fZ id 400 (fun _ => fNo)) := by
  have hj0 : adOk id 400 := fun i j _ _ h => h
  refine g_new (g := 0) hX hj0 (by decide) rfl nw_Law_7 d_Law_law_0 ⟨by decide, by decide⟩ (fun ad1 hj1 hx1 => ?_)
  obtain ⟨σ1, hs1⟩ : ∃ s9, s9 = va_up (fun _ => fNo) 0 (eO 8 [.null, .null, .null, .null, .null, .null, .null, .int (iv 0), .int (iv 0)]) := ⟨_, rfl⟩
  rw [← hs1]
  have b1 : σ1 0 = eO 8 [.null, .null, .null, .null, .null, .null, .null, .int (iv 0), .int (iv 0)] := by rw [hs1, va_up_self]
  have n1 : ∀ i, 1 ≤ i → σ1 i = fNo := fun i hi => by rw [hs1, va_up_ne _ _ (by omega)]
  refine v_dup hX d_Law_law_3 rfl ?_
  refine g_callN (As := []) (b := ad1 0) (st := [.ref (ad1 0)]) hX (n_Bs hj1 b1 (fun i h _ => n1 i h)) cl_Law_9 d_Law_law_4 rfl ⟨by decide, by decide⟩ ⟨by decide, by decide⟩ (Nat.le_of_ble_eq_true rfl) (fun ad2 σ2 hj2 hx2 hp2 => ?_)
  obtain ⟨hB, hF⟩ := hp2
  have e1 : ad2 0 = ad1 0 := hx2 0 (by decide) (by rw [b1]; exact eO_ne (by decide))
  rw [← e1]
  refine v_astore_n (lv' := [(1, .ref (ad2 0)), (0, .ref b)]) hX d_Law_law_7 rfl (by decide) rfl ?_
  refine g_new (g := 358) hX hj2 (by decide) ((hF 358 (by decide)).trans (n1 358 (by decide))) nw_Law_10 d_Law_law_8 ⟨by decide, by decide⟩ (fun ad3 hj3 hx3 => ?_)
  have e2 : ad3 0 = ad2 0 := hx3 0 (by decide) (bsP_ne hB 0 (by decide))
  rw [← e2]
  have hB3 := bsP_ad hB hx3
  obtain ⟨σ3, hs3⟩ : ∃ s9, s9 = va_up σ2 358 (eO 9 [.null, .int (iv 0), .null, .null, .int (iv 0), .int (iv 0), .int (iv 0), .int (iv 0), .long (jv 0), .long (jv 0), .int (iv 0), .int (iv 0), .int (iv 0), .long (jv 0), .long (jv 0), .int (iv 0), .null, .null, .null, .null, .null, .null, .null, .null, .null, .null, .int (iv 0), .null, .null, .null, .null, .int (iv 0), .int (iv 0)]) := ⟨_, rfl⟩
  rw [← hs3]
  have b3 : σ3 358 = eO 9 [.null, .int (iv 0), .null, .null, .int (iv 0), .int (iv 0), .int (iv 0), .int (iv 0), .long (jv 0), .long (jv 0), .int (iv 0), .int (iv 0), .int (iv 0), .long (jv 0), .long (jv 0), .int (iv 0), .null, .null, .null, .null, .null, .null, .null, .null, .null, .null, .int (iv 0), .null, .null, .null, .null, .int (iv 0), .int (iv 0)] := by rw [hs3, va_up_self]
  have f3 : ∀ i, i ≠ 358 → σ3 i = σ2 i := fun i hi => by rw [hs3, va_up_ne _ _ hi]
  have hB4 := bsP_up hB3 (fun i hi => f3 i (by omega))
  refine v_dup hX d_Law_law_11 rfl ?_
  refine g_callN (As := []) (b := ad3 358) (st := [.ref (ad3 358)]) hX (n_Mo hj3 b3 (fun i h h2 => (f3 i (by omega)).trans ((hF i (by omega)).trans (n1 i (by omega))))) cl_Law_12 d_Law_law_12 rfl ⟨by decide, by decide⟩ ⟨by decide, by decide⟩ (Nat.le_of_ble_eq_true rfl) (fun ad4 σ4 hj4 hx4 hp4 => ?_)
  obtain ⟨hM, hQ, hF4⟩ := hp4
  have e3 : ad4 358 = ad3 358 := hx4 358 (by decide) (by rw [b3]; exact eO_ne (by decide))
  have e4 : ad4 0 = ad3 0 := hx4 0 (by decide) (bsP_ne hB4 0 (by decide))
  rw [← e3, ← e4]
  have hB5 := bsP_up (bsP_ad hB4 hx4) (fun i hi => hF4 i (Or.inl hi))
  have hC : lwC G ad4 σ4 dZ := ⟨dZ_gd, 1, -1, _, _, _, _, _, _, _, _, _, hB5, Or.inl rfl, Or.inl rfl⟩
  have hM2 : lwM G ad4 σ4 dZ := ⟨dZ_gd, _, _, hM, hQ, Or.inl rfl⟩
  refine v_astore_n (lv' := [(2, .ref (ad4 358)), (1, .ref (ad4 0)), (0, .ref b)]) hX d_Law_law_15 rfl (by decide) rfl ?_
  refine v_iconst hX 0 d_Law_law_16 ?_
  refine v_istore_n (lv' := [(3, .int (iv ((0 : Nat) : Int))), (2, .ref (ad4 358)), (1, .ref (ad4 0)), (0, .ref b)]) hX d_Law_law_17 rfl (by decide) rfl ?_
  refine v_widen (kc' := 600000) (ks' := 7302250) (by decide) (by decide) ?_
  exact law_loop hX hS hL hj4 (hEnd ad4) (L + 1) 0 σ4 dZ (Nat.zero_le L) (by omega) hC hM2
set_option maxHeartbeats 4000000 in
set_option maxRecDepth 100000 in
theorem whole_start {p : Program} {e : Env} {s : State} {m : MethodId} {below : List Frame} {meth : Method} {c : Code} (l : Launch) {b L : Nat} {xs : Nat → Int32} (hL : L ≤ 3072) (C0 : lw_At p s m meth c b L xs) : W p l e room_1 s m #[Value.ref b] below meth c s.heap [] 0 0 (lw_Z below #[Value.ref b] s) (entryFrame m ([Value.ref b] : List Value).toArray 4) := by
  obtain ⟨hx, hb, hr, hml, hown, hts0, hX, hbl, hlocks, hgv⟩ := C0
  have hts : ∀ w ∈ zT, w.before #[Value.ref b] s = true := fun w hw => hts0 w (List.mem_filter.mp hw).1
  have hN : ∀ w ∈ zN, va_Nw w s := zN_bare (fun w hw => hts0 w (zN_in w hw))
  obtain ⟨dC, dI, hKc⟩ := cls_of hts
  obtain ⟨g, hKa⟩ := arr_of hts hN
  obtain ⟨G, hG⟩ : ∃ G : xG, G = ((dC, dI), g) := ⟨_, rfl⟩
  have hK : va_K G.1 zCl (xt G) s := by rw [hG]; exact ⟨hKc, hKa (dC, dI)⟩
  obtain ⟨X, hXe⟩ : ∃ X : xT, X = (p, l, e, room_1, s, m, #[Value.ref b], below, meth, c, (fun q => s.heap.size ≤ q), s.heap, 4, lw_Z below #[Value.ref b] s) := ⟨_, rfl⟩
  have hO : xOk G X c_Law_law ⟨R_Law, meth.name, "([I)Z"⟩ 4 room_1 := by
    rw [hXe]
    exact ⟨hx, hb, rfl, hml, hown, hts, hN, hK, fun q h => h, rfl, rfl⟩
  have hSx : lwX X b L xs := by rw [hXe]; exact ⟨hX, hbl, Nat.not_le.mpr hbl⟩
  have hEnd : ∀ (ad : Nat → Nat) lv σ, vV G X 600000 7302250 671 lv [.int (iv 1)] (ov fZ ad 400 σ) := by
    intro ad lv σ
    rw [hXe]
    intro L2 H locs ls h1 h2 h3 h4 h5
    refine va_forget (fun q hq => h4.2.2 q hq) ?_
    exact lw_ret hx hb hr hlocks d_Law_law_671
  have hV : vV G X 0 0 0 [(0, .ref b)] [] (ov fZ id 400 (fun _ => fNo)) := law_start hO hSx hL hEnd
  rw [hXe] at hV
  have hl := lv_entry ([.ref b]) (n := 4) (Nat.le_of_ble_eq_true rfl)
  rw [lg_entry_eq]
  exact hV [] s.heap [] _ (fun a _ => ov_no) (fun k q h => by simp [va_pl] at h) ⟨fun i j p q h => by simp [va_pl] at h, fun k q h => by simp [va_pl] at h⟩ va_S.rf hl
