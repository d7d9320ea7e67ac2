/-! THE REFERENCE'S TREE; by program -/
set_option maxHeartbeats 1000000 in
set_option maxRecDepth 100000 in
theorem m_Mo_cutGain {G : xG} {f0 : xF} {ad : Nat → Nat} (hj : adOk ad 400) {σ : xF} {n : Nat} {val : Nat → Nat → Int} {cl so : Nat → Nat} {de le wo : Nat} {S : Nat → Int} (hM : pMo G ad σ n val cl so de le wo S) (hD : dTab n val cl so) (hle : le ≤ 10) (hGa : ∀ c num side, c < 4 → num ≤ 100 → side ≤ 1 → kMay (mK n val) (mLf n val so) le (2 ^ n - 1) c num side = true → (0 ≤ kAb (mC n cl) (mK n val) (mLf n val so) (2 ^ n - 1) c num side ∧ kAb (mC n cl) (mK n val) (mLf n val so) (2 ^ n - 1) c num side < 2147483648) ∧ 0 < kBe (mK n val) (mLf n val so) (2 ^ n - 1) c num side ∧ kBe (mK n val) (mLf n val so) (2 ^ n - 1) c num side < 2147483648) (c num side p : Int) (hc : ir c) (hnum : ir num) (hside : ir side) (hp : ir p) : ∀ l, gI l G f0 ad 400 y_Mo_cutGain (.code y_Mo_cutGain c_Mo_cutGain 5 (some (.int))) rm_Mo_cutGain [.ref (ad 358), .int (iv (c)), .int (iv (num)), .int (iv (side)), .int (iv (p))] σ (fun z σ' => z = aCutGain so (mC n cl) (mK n val) (mLf n val so) le n c num side p ∧ ∃ S9, pMo G ad σ' n val cl so de le wo S9 ∧ (∀ i, i ≠ 358 → σ' i = σ i) ∧ (∀ i, i ≠ 8 → i ≠ 9 → S9 i = S i)) := by
  intro l
  refine mI_of (rt := .int) (by decide) (Nat.le_of_ble_eq_true rfl) (fun X hX hret => ?_)
  show vV G X 0 0 0 [(0, .ref (ad 358)), (1, .int (iv (c))), (2, .int (iv (num))), (3, .int (iv (side))), (4, .int (iv (p)))] [] (ov f0 ad 400 σ)
  obtain ⟨m0, ⟨sf, m1, m1e⟩, ⟨vf, m2, m2e⟩, ⟨cf, m3, m3e⟩⟩ := id hM
  obtain ⟨d1, d2, d3, d4⟩ := id hD
  have hs : (2 ^ n - 1) < 2 ^ n := by have h2 : 0 < 2 ^ n := Nat.two_pow_pos n; omega
  refine v_iload_n hX d_Mo_cutGain_0 1 rfl ?_
  refine v_if_lt (tgt := 9) hX d_Mo_cutGain_1 (by decide) (by first | assumption | (unfold ir at *; omega)) (fun c1_1 => ?_) (fun c1_1 => ?_)
  · refine v_iconst hX (-1) d_Mo_cutGain_9 ?_
    exact hret _ _ _ _ d_Mo_cutGain_10 (by unfold ir; omega) ⟨_, rfl, aCut_n (by omega), S, hM, (fun _ _ => rfl), (fun _ _ _ => rfl)⟩ rfl
  · refine v_iload_n hX d_Mo_cutGain_4 1 rfl ?_
    refine v_iconst hX (3) d_Mo_cutGain_5 ?_
    refine v_icmp_le (tgt := 11) hX d_Mo_cutGain_6 (by decide) (by first | assumption | (unfold ir at *; omega)) (by first | assumption | (unfold ir at *; omega)) (fun c6_2 => ?_) (fun c6_2 => ?_)
    · refine v_iload_n hX d_Mo_cutGain_11 3 rfl ?_
      refine v_if_lt (tgt := 31) hX d_Mo_cutGain_12 (by decide) (by first | assumption | (unfold ir at *; omega)) (fun c12_3 => ?_) (fun c12_3 => ?_)
      · refine v_bipush hX (-2) d_Mo_cutGain_31 rfl ?_
        exact hret _ _ _ _ d_Mo_cutGain_33 (by unfold ir; omega) ⟨_, rfl, aCut_p (by omega) (by omega), S, hM, (fun _ _ => rfl), (fun _ _ _ => rfl)⟩ rfl
      · refine v_iload_n hX d_Mo_cutGain_15 3 rfl ?_
        refine v_iconst hX (1) d_Mo_cutGain_16 ?_
        refine v_icmp_gt (tgt := 31) hX d_Mo_cutGain_17 (by decide) (by first | assumption | (unfold ir at *; omega)) (by first | assumption | (unfold ir at *; omega)) (fun c17_4 => ?_) (fun c17_4 => ?_)
        · refine v_bipush hX (-2) d_Mo_cutGain_31 rfl ?_
          exact hret _ _ _ _ d_Mo_cutGain_33 (by unfold ir; omega) ⟨_, rfl, aCut_p (by omega) (by omega), S, hM, (fun _ _ => rfl), (fun _ _ _ => rfl)⟩ rfl
        · refine v_iload hX d_Mo_cutGain_20 4 rfl ?_
          refine v_if_lt (tgt := 31) hX d_Mo_cutGain_22 (by decide) (by first | assumption | (unfold ir at *; omega)) (fun c22_5 => ?_) (fun c22_5 => ?_)
          · refine v_bipush hX (-2) d_Mo_cutGain_31 rfl ?_
            exact hret _ _ _ _ d_Mo_cutGain_33 (by unfold ir; omega) ⟨_, rfl, aCut_p (by omega) (by omega), S, hM, (fun _ _ => rfl), (fun _ _ _ => rfl)⟩ rfl
          · refine v_iload hX d_Mo_cutGain_25 4 rfl ?_
            refine v_iconst hX (1) d_Mo_cutGain_27 ?_
            refine v_icmp_le (tgt := 34) hX d_Mo_cutGain_28 (by decide) (by first | assumption | (unfold ir at *; omega)) (by first | assumption | (unfold ir at *; omega)) (fun c28_6 => ?_) (fun c28_6 => ?_)
            · refine v_aload_n hX d_Mo_cutGain_34 0 rfl ?_
              refine v_iconst hX (1) d_Mo_cutGain_35 ?_
              refine v_aload_n hX d_Mo_cutGain_36 0 rfl ?_
              refine g_get (i := 358) hX hj fl_Mo_69 d_Mo_cutGain_37 (by omega) m0 rfl ?_
              refine v_ishl (z := (((2 ^ n) : Nat) : Int)) hX d_Mo_cutGain_40 (iv_shl1 (n) (by omega)) ?_
              refine v_iconst hX (1) d_Mo_cutGain_41 ?_
              refine v_isub hX d_Mo_cutGain_42 ?_
              refine v_top (x' := iv (((2 ^ n - 1) : Nat) : Int)) (congrArg iv (by have h2 : 0 < 2 ^ n := Nat.two_pow_pos n; omega)) ?_
              refine v_iload_n hX d_Mo_cutGain_43 1 rfl ?_
              refine v_iload_n hX d_Mo_cutGain_44 2 rfl ?_
              refine v_iload_n hX d_Mo_cutGain_45 3 rfl ?_
              refine v_eq (st' := [.int (iv (((side.toNat : Nat) : Int))), .int (iv (num)), .int (iv (((c.toNat : Nat) : Int))), .int (iv ((((2 ^ n - 1) : Nat) : Int))), .ref (ad 358)]) (by rw [show ((side.toNat : Nat) : Int) = side by omega, show ((c.toNat : Nat) : Int) = c by omega]) ?_
              refine g_callVI (As := [.int (iv ((((2 ^ n - 1) : Nat) : Int))), .int (iv (((c.toNat : Nat) : Int))), .int (iv (num)), .int (iv (((side.toNat : Nat) : Int)))]) (st := []) hX hj (i := 358) (by omega) m0 (m_Mo_may hj hM hD (2 ^ n - 1) hs c.toNat (by omega) num hnum side.toNat (by omega) hle) cl_Mo_129 d_Mo_cutGain_46 rfl ⟨by decide, by decide⟩ ⟨by decide, by decide⟩ (Nat.le_of_ble_eq_true rfl) (fun z1 σ2 hz3 hp4 => ?_)
              rcases hp4 with ⟨m1, m2, m3, m4⟩ | ⟨m1, m2, m3⟩
              · subst m2
                have hn100 : num.toNat ≤ 100 := by rcases kCan_or m1.1.2 with q | q <;> omega
                obtain ⟨ka, kb0, kb1⟩ := hGa c.toNat num.toNat side.toNat (by omega) hn100 (by omega) m1.2
                obtain ⟨aa, haa⟩ : ∃ aa : Nat, (kAb (mC n cl) (mK n val) (mLf n val so) (2 ^ n - 1) c.toNat num.toNat side.toNat) = aa := ⟨(kAb (mC n cl) (mK n val) (mLf n val so) (2 ^ n - 1) c.toNat num.toNat side.toNat).toNat, by omega⟩
                have hm9 : σ2 358 = eO 9 [.ref (ad 359), .int (iv (((n : Nat) : Int))), .ref (ad 360), .ref (ad 361), .int (iv (((de : Nat) : Int))), .int (iv (((le : Nat) : Int))), .int (iv (((wo : Nat) : Int))), .int (iv ((S 7))), .long (jv (((aa : Nat) : Int))), .long (jv ((((kBe (mK n val) (mLf n val so) (2 ^ n - 1) c.toNat num.toNat side.toNat) : Nat) : Int))), .int (iv ((S 10))), .int (iv ((S 11))), .int (iv ((S 12))), .long (jv ((S 13))), .long (jv ((S 14))), .int (iv ((S 15))), .ref (ad 362), .ref (ad 363), .ref (ad 364), .ref (ad 365), .ref (ad 366), .ref (ad 367), .ref (ad 368), .ref (ad 369), .ref (ad 370), .ref (ad 371), .int (iv ((S 26))), .ref (ad 372), .ref (ad 373), .ref (ad 374), .ref (ad 375), .int (iv ((S 31))), .int (iv ((S 32)))] := by rw [← haa]; exact m3.1
                refine v_if_eq (tgt := 68) hX d_Mo_cutGain_49 (by decide) (by first | assumption | (unfold ir at *; omega)) (fun c9 => absurd c9 (by omega)) (fun c9 => ?_)
                refine v_aload_n hX d_Mo_cutGain_52 0 rfl ?_
                refine g_get (i := 358) hX hj fl_Mo_122 d_Mo_cutGain_53 (by omega) hm9 rfl ?_
                refine v_aload_n hX d_Mo_cutGain_56 0 rfl ?_
                refine g_get (i := 358) hX hj fl_Mo_126 d_Mo_cutGain_57 (by omega) hm9 rfl ?_
                refine v_iload hX d_Mo_cutGain_60 4 rfl ?_
                refine g_callSI (As := [.long (jv (((aa : Nat) : Int))), .long (jv ((((kBe (mK n val) (mLf n val so) (2 ^ n - 1) c.toNat num.toNat side.toNat) : Nat) : Int))), .int (iv (p))]) (st := []) hX (k0_Mo_lowest aa (kBe (mK n val) (mLf n val so) (2 ^ n - 1) c.toNat num.toNat side.toNat) (by omega) kb1 kb0 p (by omega)) cl_Mo_183 d_Mo_cutGain_62 rfl ⟨by decide, by decide⟩ ⟨by decide, by decide⟩ (Nat.le_of_ble_eq_true rfl) (fun z5 hz6 hp7 => ?_)
                refine v_goto (tgt := 70) hX d_Mo_cutGain_65 (by decide) ?_
                exact hret _ _ _ _ d_Mo_cutGain_70 hz6 ⟨_, rfl, aCut_t (by omega) (by omega) m1 (lowT_e haa rfl hp7), _, m3, m4, (fun i h8 h9 => by rw [va_up_ne _ _ h9, va_up_ne _ _ h8])⟩ rfl
              · subst m2
                rw [m3]
                refine v_if_eq (tgt := 68) hX d_Mo_cutGain_49 (by decide) (by first | assumption | (unfold ir at *; omega)) (fun c9 => ?_) (fun c9 => absurd c9 (by omega))
                refine v_bipush hX (-3) d_Mo_cutGain_68 rfl ?_
                exact hret _ _ _ _ d_Mo_cutGain_70 (by unfold ir; omega) ⟨_, rfl, aCut_u (by omega) (by omega) m1, S, hM, (fun _ _ => rfl), (fun _ _ _ => rfl)⟩ rfl
            · refine v_bipush hX (-2) d_Mo_cutGain_31 rfl ?_
              exact hret _ _ _ _ d_Mo_cutGain_33 (by unfold ir; omega) ⟨_, rfl, aCut_p (by omega) (by omega), S, hM, (fun _ _ => rfl), (fun _ _ _ => rfl)⟩ rfl
    · refine v_iconst hX (-1) d_Mo_cutGain_9 ?_
      exact hret _ _ _ _ d_Mo_cutGain_10 (by unfold ir; omega) ⟨_, rfl, aCut_n (by omega), S, hM, (fun _ _ => rfl), (fun _ _ _ => rfl)⟩ rfl

set_option maxHeartbeats 1000000 in
set_option maxRecDepth 100000 in
theorem m_Mo_add {G : xG} {f0 : xF} {ad : Nat → Nat} (hj : adOk ad 400) {σ : xF} {n : Nat} {val : Nat → Nat → Int} {cl so : Nat → Nat} {de le wo : Nat} {S : Nat → Int} (hM : pMo G ad σ n val cl so de le wo S) (hD : dTab n val cl so) {Q : Nat → Nat → Int} (hQ : pMa G σ Q) (sz : Nat) (h15 : S 15 = (sz : Int)) (hsz : sz < 64) (set : Nat) (dep : Int) : ∀ l, gVo l G f0 ad 400 y_Mo_add (.code y_Mo_add c_Mo_add 3 none) rm_Mo_add [.ref (ad 358), .int (iv (((set : Nat) : Int))), .int (iv (dep))] σ (fun σ' => pMo G ad σ' n val cl so de le wo (va_up S 15 ((sz + 1 : Nat) : Int)) ∧ pMa G σ' (adQ Q sz (set : Int) dep) ∧ (∀ i, i ≠ 358 → i ≠ 362 → i ≠ 363 → i ≠ 367 → σ' i = σ i)) := by
  intro l
  refine mV_of (by decide) (Nat.le_of_ble_eq_true rfl) (fun X hX hret => ?_)
  show vV G X 0 0 0 [(0, .ref (ad 358)), (1, .int (iv (((set : Nat) : Int)))), (2, .int (iv (dep)))] [] (ov f0 ad 400 σ)
  obtain ⟨m0, ⟨sf, m1, m1e⟩, ⟨vf, m2, m2e⟩, ⟨cf, m3, m3e⟩⟩ := id hM
  obtain ⟨d1, d2, d3, d4⟩ := id hD
  have hm9 : σ 358 = eO 9 [.ref (ad 359), .int (iv (((n : Nat) : Int))), .ref (ad 360), .ref (ad 361), .int (iv (((de : Nat) : Int))), .int (iv (((le : Nat) : Int))), .int (iv (((wo : Nat) : Int))), .int (iv ((S 7))), .long (jv ((S 8))), .long (jv ((S 9))), .int (iv ((S 10))), .int (iv ((S 11))), .int (iv ((S 12))), .long (jv ((S 13))), .long (jv ((S 14))), .int (iv (((sz : Nat) : Int))), .ref (ad 362), .ref (ad 363), .ref (ad 364), .ref (ad 365), .ref (ad 366), .ref (ad 367), .ref (ad 368), .ref (ad 369), .ref (ad 370), .ref (ad 371), .int (iv ((S 26))), .ref (ad 372), .ref (ad 373), .ref (ad 374), .ref (ad 375), .int (iv ((S 31))), .int (iv ((S 32)))] := by rw [← h15]; exact m0
  refine v_aload_n hX d_Mo_add_0 0 rfl ?_
  refine g_get (i := 358) hX hj fl_Mo_26 d_Mo_add_1 (by omega) hm9 rfl ?_
  refine v_aload_n hX d_Mo_add_4 0 rfl ?_
  refine g_get (i := 358) hX hj fl_Mo_147 d_Mo_add_5 (by omega) hm9 rfl ?_
  refine v_iload_n hX d_Mo_add_8 1 rfl ?_
  refine g_iast (i := 362) hX hj d_Mo_add_9 (by omega) (hQ.1 362 (by decide) (by decide)) (by decide) (sz) rfl (by omega) ?_
  obtain ⟨σ1, hs2⟩ : ∃ s9, s9 = va_up σ (362) (eJ G 64 (va_up (Q 362) (sz) (((set : Nat) : Int)))) := ⟨_, rfl⟩
  rw [← hs2]
  have hf3 := (show σ1 (358) = σ (358) by rw [hs2, va_up_ne _ _ (by omega)]).trans hm9
  have hf4 := (show σ1 (359) = σ (359) by rw [hs2, va_up_ne _ _ (by omega)]).trans m1
  have hf5 := (show σ1 (360) = σ (360) by rw [hs2, va_up_ne _ _ (by omega)]).trans m2
  have hf6 := (show σ1 (361) = σ (361) by rw [hs2, va_up_ne _ _ (by omega)]).trans m3
  have hf7 : σ1 (362) = (eJ G 64 (va_up (Q 362) (sz) (((set : Nat) : Int)))) := by rw [hs2, va_up_self]
  obtain ⟨Q9, eQ10⟩ : ∃ Qq, Qq = va_up Q 362 (va_up (Q 362) (sz) (((set : Nat) : Int))) := ⟨_, rfl⟩
  have hQ8 : pMa G σ1 Q9 := by rw [eQ10]; exact hQ.set 362 (fun i hi => by rw [hs2, va_up_ne _ _ hi]) (fun _ _ => (by rw [hs2, va_up_self])) (fun a b => absurd a (by decide)) (fun a => absurd a (by decide)) (fun a => absurd a (by decide)) (fun a b => absurd a (by decide)) (fun a => absurd a (by decide))
  refine v_aload_n hX d_Mo_add_10 0 rfl ?_
  refine g_get (i := 358) hX hj fl_Mo_29 d_Mo_add_11 (by omega) hf3 rfl ?_
  refine v_aload_n hX d_Mo_add_14 0 rfl ?_
  refine g_get (i := 358) hX hj fl_Mo_147 d_Mo_add_15 (by omega) hf3 rfl ?_
  refine v_iload_n hX d_Mo_add_18 2 rfl ?_
  refine g_iast (i := 363) hX hj d_Mo_add_19 (by omega) (hQ8.1 363 (by decide) (by decide)) (by decide) (sz) rfl (by omega) ?_
  obtain ⟨σ11, hs12⟩ : ∃ s9, s9 = va_up σ1 (363) (eJ G 64 (va_up (Q9 363) (sz) (dep))) := ⟨_, rfl⟩
  rw [← hs12]
  have hf13 := (show σ11 (358) = σ1 (358) by rw [hs12, va_up_ne _ _ (by omega)]).trans hf3
  have hf14 := (show σ11 (359) = σ1 (359) by rw [hs12, va_up_ne _ _ (by omega)]).trans hf4
  have hf15 := (show σ11 (360) = σ1 (360) by rw [hs12, va_up_ne _ _ (by omega)]).trans hf5
  have hf16 := (show σ11 (361) = σ1 (361) by rw [hs12, va_up_ne _ _ (by omega)]).trans hf6
  have hf17 : σ11 (363) = (eJ G 64 (va_up (Q9 363) (sz) (dep))) := by rw [hs12, va_up_self]
  obtain ⟨Q19, eQ20⟩ : ∃ Qq, Qq = va_up Q9 363 (va_up (Q9 363) (sz) (dep)) := ⟨_, rfl⟩
  have hQ18 : pMa G σ11 Q19 := by rw [eQ20]; exact hQ8.set 363 (fun i hi => by rw [hs12, va_up_ne _ _ hi]) (fun _ _ => (by rw [hs12, va_up_self])) (fun a b => absurd a (by decide)) (fun a => absurd a (by decide)) (fun a => absurd a (by decide)) (fun a b => absurd a (by decide)) (fun a => absurd a (by decide))
  refine v_aload_n hX d_Mo_add_20 0 rfl ?_
  refine g_get (i := 358) hX hj fl_Mo_41 d_Mo_add_21 (by omega) hf13 rfl ?_
  refine v_aload_n hX d_Mo_add_24 0 rfl ?_
  refine g_get (i := 358) hX hj fl_Mo_147 d_Mo_add_25 (by omega) hf13 rfl ?_
  refine v_iconst hX (-1) d_Mo_add_28 ?_
  refine g_iast (i := 367) hX hj d_Mo_add_29 (by omega) (hQ18.1 367 (by decide) (by decide)) (by decide) (sz) rfl (by omega) ?_
  obtain ⟨σ21, hs22⟩ : ∃ s9, s9 = va_up σ11 (367) (eJ G 64 (va_up (Q19 367) (sz) ((-1)))) := ⟨_, rfl⟩
  rw [← hs22]
  have hf23 := (show σ21 (358) = σ11 (358) by rw [hs22, va_up_ne _ _ (by omega)]).trans hf13
  have hf24 := (show σ21 (359) = σ11 (359) by rw [hs22, va_up_ne _ _ (by omega)]).trans hf14
  have hf25 := (show σ21 (360) = σ11 (360) by rw [hs22, va_up_ne _ _ (by omega)]).trans hf15
  have hf26 := (show σ21 (361) = σ11 (361) by rw [hs22, va_up_ne _ _ (by omega)]).trans hf16
  have hf27 : σ21 (367) = (eJ G 64 (va_up (Q19 367) (sz) ((-1)))) := by rw [hs22, va_up_self]
  obtain ⟨Q29, eQ30⟩ : ∃ Qq, Qq = va_up Q19 367 (va_up (Q19 367) (sz) ((-1))) := ⟨_, rfl⟩
  have hQ28 : pMa G σ21 Q29 := by rw [eQ30]; exact hQ18.set 367 (fun i hi => by rw [hs22, va_up_ne _ _ hi]) (fun _ _ => (by rw [hs22, va_up_self])) (fun a b => absurd a (by decide)) (fun a => absurd a (by decide)) (fun a => absurd a (by decide)) (fun a b => absurd a (by decide)) (fun a => absurd a (by decide))
  refine v_aload_n hX d_Mo_add_30 0 rfl ?_
  refine v_dup hX d_Mo_add_31 rfl ?_
  refine g_get (i := 358) hX hj fl_Mo_147 d_Mo_add_32 (by omega) hf23 rfl ?_
  refine v_iconst hX (1) d_Mo_add_35 ?_
  refine v_iaddN (a := sz) (b := 1) hX d_Mo_add_36 ?_
  refine g_put (i := 358) (fs' := [.ref (ad 359), .int (iv (((n : Nat) : Int))), .ref (ad 360), .ref (ad 361), .int (iv (((de : Nat) : Int))), .int (iv (((le : Nat) : Int))), .int (iv (((wo : Nat) : Int))), .int (iv ((S 7))), .long (jv ((S 8))), .long (jv ((S 9))), .int (iv ((S 10))), .int (iv ((S 11))), .int (iv ((S 12))), .long (jv ((S 13))), .long (jv ((S 14))), .int (iv ((((sz + 1) : Nat) : Int))), .ref (ad 362), .ref (ad 363), .ref (ad 364), .ref (ad 365), .ref (ad 366), .ref (ad 367), .ref (ad 368), .ref (ad 369), .ref (ad 370), .ref (ad 371), .int (iv ((S 26))), .ref (ad 372), .ref (ad 373), .ref (ad 374), .ref (ad 375), .int (iv ((S 31))), .int (iv ((S 32)))]) hX hj pf_Mo_147 d_Mo_add_37 (by omega) hf23 rfl rfl (Nat.le_of_ble_eq_true rfl) rfl ?_
  obtain ⟨σ31, hs32⟩ : ∃ s9, s9 = va_up σ21 (358) (eO 9 [.ref (ad 359), .int (iv (((n : Nat) : Int))), .ref (ad 360), .ref (ad 361), .int (iv (((de : Nat) : Int))), .int (iv (((le : Nat) : Int))), .int (iv (((wo : Nat) : Int))), .int (iv ((S 7))), .long (jv ((S 8))), .long (jv ((S 9))), .int (iv ((S 10))), .int (iv ((S 11))), .int (iv ((S 12))), .long (jv ((S 13))), .long (jv ((S 14))), .int (iv ((((sz + 1) : Nat) : Int))), .ref (ad 362), .ref (ad 363), .ref (ad 364), .ref (ad 365), .ref (ad 366), .ref (ad 367), .ref (ad 368), .ref (ad 369), .ref (ad 370), .ref (ad 371), .int (iv ((S 26))), .ref (ad 372), .ref (ad 373), .ref (ad 374), .ref (ad 375), .int (iv ((S 31))), .int (iv ((S 32)))]) := ⟨_, rfl⟩
  rw [← hs32]
  have hf34 := (show σ31 (359) = σ21 (359) by rw [hs32, va_up_ne _ _ (by omega)]).trans hf24
  have hf35 := (show σ31 (360) = σ21 (360) by rw [hs32, va_up_ne _ _ (by omega)]).trans hf25
  have hf36 := (show σ31 (361) = σ21 (361) by rw [hs32, va_up_ne _ _ (by omega)]).trans hf26
  have hf37 : σ31 (358) = (eO 9 [.ref (ad 359), .int (iv (((n : Nat) : Int))), .ref (ad 360), .ref (ad 361), .int (iv (((de : Nat) : Int))), .int (iv (((le : Nat) : Int))), .int (iv (((wo : Nat) : Int))), .int (iv ((S 7))), .long (jv ((S 8))), .long (jv ((S 9))), .int (iv ((S 10))), .int (iv ((S 11))), .int (iv ((S 12))), .long (jv ((S 13))), .long (jv ((S 14))), .int (iv ((((sz + 1) : Nat) : Int))), .ref (ad 362), .ref (ad 363), .ref (ad 364), .ref (ad 365), .ref (ad 366), .ref (ad 367), .ref (ad 368), .ref (ad 369), .ref (ad 370), .ref (ad 371), .int (iv ((S 26))), .ref (ad 372), .ref (ad 373), .ref (ad 374), .ref (ad 375), .int (iv ((S 31))), .int (iv ((S 32)))]) := by rw [hs32, va_up_self]
  have hQ38 : pMa G σ31 Q29 := hQ28.oth (fun i h1 h2 => by rw [hs32, va_up_ne _ _ (by omega)])
  have hfr : ∀ i, i ≠ 358 → i ≠ 362 → i ≠ 363 → i ≠ 367 → σ31 i = σ i := fun i i1 i2 i3 i4 => by rw [hs32, va_up_ne _ _ i1, hs22, va_up_ne _ _ i4, hs12, va_up_ne _ _ i3, hs2, va_up_ne _ _ i2]
  have hPm : pMo G ad σ31 n val cl so de le wo (va_up S 15 ((sz + 1 : Nat) : Int)) := hM.up (by rw [hs32, va_up_self]; rfl) (hfr 359 (by decide) (by decide) (by decide) (by decide)) (hfr 360 (by decide) (by decide) (by decide) (by decide)) (hfr 361 (by decide) (by decide) (by decide) (by decide))
  have eQ : Q29 = adQ Q sz (set : Int) dep := by rw [eQ30, eQ20, eQ10]; unfold adQ; rw [va_up_ne _ _ (show (363 : Nat) ≠ 362 by decide), va_up_ne _ _ (show (367 : Nat) ≠ 363 by decide), va_up_ne _ _ (show (367 : Nat) ≠ 362 by decide)]
  rw [eQ] at hQ38
  exact hret _ _ _ d_Mo_add_40 ⟨_, rfl, hPm, hQ38, hfr⟩

set_option maxHeartbeats 1000000 in
set_option maxRecDepth 100000 in
theorem m_Mo_grow {G : xG} {f0 : xF} {ad : Nat → Nat} (hj : adOk ad 400) {σ : xF} {n : Nat} {val : Nat → Nat → Int} {cl so : Nat → Nat} {de le wo : Nat} {S : Nat → Int} (hM : pMo G ad σ n val cl so de le wo S) (hD : dTab n val cl so) {Q : Nat → Nat → Int} (hQ : pMa G σ Q) (hle : le ≤ 10) (hle1 : 1 ≤ le) (hde : de ≤ 5) (hwo : wo ≤ 1000) (set : Nat) (hs : set < 2 ^ n) (T0 : Nat → Nat → Int) (ch0 : Nat → Option Nat) (hto : tOk T0) (hch : chOk 0 ch0) : ∀ l, gVo l G f0 ad 400 y_Mo_grow (.code y_Mo_grow c_Mo_grow 5 none) rm_Mo_grow [.ref (ad 358), .int (iv (((set : Nat) : Int)))] σ (fun σ' => ∃ Sv Qv, pMo G ad σ' n val cl so de le wo Sv ∧ pMa G σ' Qv ∧ Sv 15 = ((gAll so (mC n cl) (mK n val) (mLf n val so) le de wo 0 T0 ch0 set).1 : Int) ∧ moG Qv (gAll so (mC n cl) (mK n val) (mLf n val so) le de wo 0 T0 ch0 set) ∧ (∀ i, i ≠ 358 → (i < 362 ∨ 370 < i) → σ' i = σ i) ∧ (∀ i, i < 8 ∨ 15 < i → Sv i = S i)) := by
  intro l
  refine mV_of (by decide) (Nat.le_of_ble_eq_true rfl) (fun X hX hret => ?_)
  show vV G X 0 0 0 [(0, .ref (ad 358)), (1, .int (iv (((set : Nat) : Int))))] [] (ov f0 ad 400 σ)
  obtain ⟨m0, ⟨sf, m1, m1e⟩, ⟨vf, m2, m2e⟩, ⟨cf, m3, m3e⟩⟩ := id hM
  obtain ⟨d1, d2, d3, d4⟩ := id hD
  have hs24 : set < 16777216 := Nat.lt_of_lt_of_le hs (Nat.pow_le_pow_right (by decide) d1 : 2 ^ n ≤ 2 ^ 24)
  refine v_aload_n hX d_Mo_grow_0 0 rfl ?_
  refine v_iconst hX (0) d_Mo_grow_1 ?_
  refine g_put (i := 358) (fs' := [.ref (ad 359), .int (iv (((n : Nat) : Int))), .ref (ad 360), .ref (ad 361), .int (iv (((de : Nat) : Int))), .int (iv (((le : Nat) : Int))), .int (iv (((wo : Nat) : Int))), .int (iv ((S 7))), .long (jv ((S 8))), .long (jv ((S 9))), .int (iv ((S 10))), .int (iv ((S 11))), .int (iv ((S 12))), .long (jv ((S 13))), .long (jv ((S 14))), .int (iv (0)), .ref (ad 362), .ref (ad 363), .ref (ad 364), .ref (ad 365), .ref (ad 366), .ref (ad 367), .ref (ad 368), .ref (ad 369), .ref (ad 370), .ref (ad 371), .int (iv ((S 26))), .ref (ad 372), .ref (ad 373), .ref (ad 374), .ref (ad 375), .int (iv ((S 31))), .int (iv ((S 32)))]) hX hj pf_Mo_147 d_Mo_grow_2 (by omega) m0 rfl rfl (Nat.le_of_ble_eq_true rfl) rfl ?_
  obtain ⟨σ1, hs2⟩ : ∃ s9, s9 = va_up σ (358) (eO 9 [.ref (ad 359), .int (iv (((n : Nat) : Int))), .ref (ad 360), .ref (ad 361), .int (iv (((de : Nat) : Int))), .int (iv (((le : Nat) : Int))), .int (iv (((wo : Nat) : Int))), .int (iv ((S 7))), .long (jv ((S 8))), .long (jv ((S 9))), .int (iv ((S 10))), .int (iv ((S 11))), .int (iv ((S 12))), .long (jv ((S 13))), .long (jv ((S 14))), .int (iv (0)), .ref (ad 362), .ref (ad 363), .ref (ad 364), .ref (ad 365), .ref (ad 366), .ref (ad 367), .ref (ad 368), .ref (ad 369), .ref (ad 370), .ref (ad 371), .int (iv ((S 26))), .ref (ad 372), .ref (ad 373), .ref (ad 374), .ref (ad 375), .int (iv ((S 31))), .int (iv ((S 32)))]) := ⟨_, rfl⟩
  rw [← hs2]
  have hf4 := (show σ1 (359) = σ (359) by rw [hs2, va_up_ne _ _ (by omega)]).trans m1
  have hf5 := (show σ1 (360) = σ (360) by rw [hs2, va_up_ne _ _ (by omega)]).trans m2
  have hf6 := (show σ1 (361) = σ (361) by rw [hs2, va_up_ne _ _ (by omega)]).trans m3
  have hf7 : σ1 (358) = (eO 9 [.ref (ad 359), .int (iv (((n : Nat) : Int))), .ref (ad 360), .ref (ad 361), .int (iv (((de : Nat) : Int))), .int (iv (((le : Nat) : Int))), .int (iv (((wo : Nat) : Int))), .int (iv ((S 7))), .long (jv ((S 8))), .long (jv ((S 9))), .int (iv ((S 10))), .int (iv ((S 11))), .int (iv ((S 12))), .long (jv ((S 13))), .long (jv ((S 14))), .int (iv (0)), .ref (ad 362), .ref (ad 363), .ref (ad 364), .ref (ad 365), .ref (ad 366), .ref (ad 367), .ref (ad 368), .ref (ad 369), .ref (ad 370), .ref (ad 371), .int (iv ((S 26))), .ref (ad 372), .ref (ad 373), .ref (ad 374), .ref (ad 375), .int (iv ((S 31))), .int (iv ((S 32)))]) := by rw [hs2, va_up_self]
  have hQ8 : pMa G σ1 Q := hQ.oth (fun i h1 h2 => by rw [hs2, va_up_ne _ _ (by omega)])
  refine v_aload_n hX d_Mo_grow_5 0 rfl ?_
  refine v_iload_n hX d_Mo_grow_6 1 rfl ?_
  refine v_iconst hX (0) d_Mo_grow_7 ?_
  have s0f : (∀ i, i ≠ 358 → (i < 362 ∨ 370 < i) → σ1 i = σ i) := fun i i1 _ => by rw [hs2, va_up_ne _ _ i1]
  have s0P : pMo G ad σ1 n val cl so de le wo (va_up S 15 ((0 : Nat) : Int)) := hM.up (by rw [hs2, va_up_self]; rfl) (s0f 359 (by decide) (by omega)) (s0f 360 (by decide) (by omega)) (s0f 361 (by decide) (by omega))
  refine g_callVV (As := [.int (iv (((set : Nat) : Int))), .int (iv (0))]) (st := []) hX hj (i := 358) (by omega) hf7 (m_Mo_add hj s0P hD hQ8 (0) (va_up_self _ _ _) (by omega) set (0)) cl_Mo_153 d_Mo_grow_8 rfl ⟨by decide, by decide⟩ ⟨by decide, by decide⟩ (Nat.le_of_ble_eq_true rfl) (fun σ10 hp12 => ?_)
  obtain ⟨a13P, a13Q, a13F⟩ := hp12
  have a13fr : (∀ i, i ≠ 358 → (i < 362 ∨ 370 < i) → σ10 i = σ i) := fun i i1 i2 => (a13F i i1 (by omega) (by omega) (by omega)).trans (s0f i i1 i2)
  obtain ⟨S14, eS14⟩ : ∃ Sq, Sq = (va_up (va_up S 15 ((0 : Nat) : Int)) 15 ((0 + 1 : Nat) : Int)) := ⟨_, rfl⟩
  rw [← eS14] at a13P
  obtain ⟨Q15, eQ15⟩ : ∃ Qq, Qq = adQ Q (0) (((set : Nat) : Int)) (0) := ⟨_, rfl⟩
  rw [← eQ15] at a13Q
  have a13m : σ10 358 = eO 9 [.ref (ad 359), .int (iv (((n : Nat) : Int))), .ref (ad 360), .ref (ad 361), .int (iv (((de : Nat) : Int))), .int (iv (((le : Nat) : Int))), .int (iv (((wo : Nat) : Int))), .int (iv ((S14 7))), .long (jv ((S14 8))), .long (jv ((S14 9))), .int (iv ((S14 10))), .int (iv ((S14 11))), .int (iv ((S14 12))), .long (jv ((S14 13))), .long (jv ((S14 14))), .int (iv ((((0 + 1) : Nat) : Int))), .ref (ad 362), .ref (ad 363), .ref (ad 364), .ref (ad 365), .ref (ad 366), .ref (ad 367), .ref (ad 368), .ref (ad 369), .ref (ad 370), .ref (ad 371), .int (iv ((S14 26))), .ref (ad 372), .ref (ad 373), .ref (ad 374), .ref (ad 375), .int (iv ((S14 31))), .int (iv ((S14 32)))] := by have h := a13P.1; unfold moE at h; rw [show S14 15 = ((0 + 1 : Nat) : Int) by rw [eS14, va_up_self]] at h; exact h
  refine v_iconst hX (0) d_Mo_grow_11 ?_
  refine v_istore_n (lv' := [(2, .int (iv (0))), (0, .ref (ad 358)), (1, .int (iv (((set : Nat) : Int))))]) hX d_Mo_grow_12 rfl (by decide) rfl ?_
  have LOOP : ∀ (fuel : Nat) (k : Nat) (σv : xF) (Sv : Nat → Int) (Qv : Nat → Nat → Int) (s : gS), 47 - k < fuel → (s = (kItr so (mC n cl) (mK n val) (mLf n val so) le de wo 0 (gStart (mC n cl) T0 ch0 set) k)) → (k ≤ s.1) → (pMo G ad σv n val cl so de le wo Sv) → (pMa G σv Qv) → (Sv 15 = (s.1 : Int)) → (moG Qv s) → ((∀ i, i ≠ 358 → (i < 362 ∨ 370 < i) → σv i = σ i)) → (∀ i, i < 8 ∨ 15 < i → Sv i = S i) → vV G X 0 0 13 [(0, .ref (ad 358)), (1, .int (iv (((set : Nat) : Int)))), (2, .int (iv (((k : Nat) : Int))))] [] (ov f0 ad 400 σv) := by
    intro fuel
    induction fuel with
    | zero => intro k σv Sv Qv s hm; exact absurd hm (Nat.not_lt_zero _)
    | succ fuel ih_LOOP =>
      intro k σv Sv Qv s hm hse hks hP hQv h15 hG hFr hSk
      have hgi := gInv_itr (so := so) (rC := mC n cl) (rK := mK n val) (rL := mLf n val so) (le := le) (de := de) (wo := wo) hde (gInv_start (t := 0) (rC := mC n cl) (rows := set) hto hch hs24) k
      rw [← hse] at hgi
      have hni := nIv_itr (val := val) (de := de) (t := 0) d1 d3 hle1 (nIv_start (so := so) (rC := mC n cl) (rK := mK n val) (rL := mLf n val so) (le := le) (wo := wo) (t := 0) T0 ch0 hs) k
      rw [← hse] at hni
      have hs47 := hgi.1.2.1
      have hs1 := hgi.1.1
      have hm9 : σv 358 = eO 9 [.ref (ad 359), .int (iv (((n : Nat) : Int))), .ref (ad 360), .ref (ad 361), .int (iv (((de : Nat) : Int))), .int (iv (((le : Nat) : Int))), .int (iv (((wo : Nat) : Int))), .int (iv ((Sv 7))), .long (jv ((Sv 8))), .long (jv ((Sv 9))), .int (iv ((Sv 10))), .int (iv ((Sv 11))), .int (iv ((Sv 12))), .long (jv ((Sv 13))), .long (jv ((Sv 14))), .int (iv (((s.1 : Nat) : Int))), .ref (ad 362), .ref (ad 363), .ref (ad 364), .ref (ad 365), .ref (ad 366), .ref (ad 367), .ref (ad 368), .ref (ad 369), .ref (ad 370), .ref (ad 371), .int (iv ((Sv 26))), .ref (ad 372), .ref (ad 373), .ref (ad 374), .ref (ad 375), .int (iv ((Sv 31))), .int (iv ((Sv 32)))] := by rw [← h15]; exact hP.1
      refine v_iload_n hX d_Mo_grow_13 2 rfl ?_
      refine v_aload_n hX d_Mo_grow_14 0 rfl ?_
      refine g_get (i := 358) hX hj fl_Mo_147 d_Mo_grow_15 (by omega) hm9 rfl ?_
      refine v_icmp_ge (tgt := 211) hX d_Mo_grow_18 (by decide) (by first | assumption | (unfold ir; omega)) (by first | assumption | (unfold ir; omega)) (fun c18_1 => ?_) (fun c18_1 => ?_)
      · have hst : s.1 ≤ k := by omega
        have hfin : s = gAll so (mC n cl) (mK n val) (mLf n val so) le de wo 0 T0 ch0 set := by
          have e := kItr_stop (j := 47 - k) (by rw [← hse]; exact hst : (kItr so (mC n cl) (mK n val) (mLf n val so) le de wo 0 (gStart (mC n cl) T0 ch0 set) k).1 ≤ k)
          rw [show k + (47 - k) = 47 by omega] at e
          rw [hse, ← e]; rfl
        rw [hfin] at h15 hG
        exact hret _ _ _ d_Mo_grow_211 ⟨_, rfl, Sv, Qv, hP, hQv, h15, hG, hFr, hSk⟩
      · have hk : k < s.1 := by omega
        obtain ⟨g1, g2, g3⟩ := hG k hk
        obtain ⟨⟨o1, o2⟩, ⟨o3, o4⟩, -⟩ := hgi.1.2.2 k hk
        obtain ⟨x1, x2, -, x5⟩ := hni.1 k hk
        obtain ⟨ro, ero⟩ : ∃ ro : Nat, s.2.1 k 2 = (ro : Int) := ⟨(s.2.1 k 2).toNat, by omega⟩
        obtain ⟨dp, edp⟩ : ∃ dp : Nat, s.2.1 k 3 = (dp : Int) := ⟨(s.2.1 k 3).toNat, by omega⟩
        rw [ero, Int.toNat_natCast] at x2 x5
        have ero5 := x5
        have hw0 := wrI_0 (mC n cl) ro
        have hr47 : ¬ wrI (mC n cl) ro = 0 → s.1 + 2 ≤ 47 := fun q => room47 d1 d3 hni hk (by rw [x5]; exact q)
        have hro24 : ro < 16777216 := by omega
        refine v_aload_n hX d_Mo_grow_21 0 rfl ?_
        refine g_get (i := 358) hX hj fl_Mo_26 d_Mo_grow_22 (by omega) hm9 rfl ?_
        refine v_iload_n hX d_Mo_grow_25 2 rfl ?_
        refine g_iald (i := 362) hX hj d_Mo_grow_26 (by omega) (hQv.1 362 (by decide) (by decide)) (by decide) (k) rfl (by omega) ?_
        refine v_top (x' := iv (((ro : Nat) : Int))) (congrArg iv ((rfl : Qv 362 k = Qv 362 k).trans (g1.trans ero))) ?_
        refine v_istore_n (lv' := [(3, .int (iv (((ro : Nat) : Int)))), (0, .ref (ad 358)), (1, .int (iv (((set : Nat) : Int)))), (2, .int (iv (((k : Nat) : Int))))]) hX d_Mo_grow_27 rfl (by decide) rfl ?_
        refine v_aload_n hX d_Mo_grow_28 1 rfl ?_
        refine v_iload_n hX d_Mo_grow_29 0 rfl ?_
        refine g_callVI (As := [.int (iv (((ro : Nat) : Int)))]) (st := []) hX hj (i := 358) (by omega) hm9 (m_Mo_isMixed hj hP hD ro hro24) cl_Mo_157 d_Mo_grow_30 rfl ⟨by decide, by decide⟩ ⟨by decide, by decide⟩ (Nat.le_of_ble_eq_true rfl) (fun z16 σ17 hz18 hp19 => ?_)
        obtain ⟨he20, hv21⟩ := hp19
        rw [he20]
        by_cases qm : 0 < wrI (mC n cl) ro
        · have z16e : z16 = 1 := hv21.trans (if_pos qm)
          subst z16e
          refine v_if_eq (tgt := 205) hX d_Mo_grow_33 (by decide) (by first | assumption | (unfold ir; omega)) (fun c9 => absurd c9 (by omega)) (fun c9 => ?_)
          refine v_aload_n hX d_Mo_grow_36 1 rfl ?_
          refine g_get (i := 358) hX hj fl_Mo_29 d_Mo_grow_37 (by omega) hm9 rfl ?_
          refine v_iload_n hX d_Mo_grow_40 3 rfl ?_
          refine g_iald (i := 363) hX hj d_Mo_grow_41 (by omega) (hQv.1 363 (by decide) (by decide)) (by decide) (k) rfl (by omega) ?_
          refine v_top (x' := iv (((dp : Nat) : Int))) (congrArg iv ((rfl : Qv 363 k = Qv 363 k).trans (g2.trans edp))) ?_
          refine v_aload_n hX d_Mo_grow_42 1 rfl ?_
          refine g_get (i := 358) hX hj fl_Mo_19 d_Mo_grow_43 (by omega) hm9 rfl ?_
          refine v_icmp_ge (tgt := 205) hX d_Mo_grow_46 (by decide) (by first | assumption | (unfold ir; omega)) (by first | assumption | (unfold ir; omega)) (fun c46_3 => ?_) (fun c46_3 => ?_)
          · refine v_iincN (a := k) (n := 1) (lv' := [(2, .int (iv ((((k + 1) : Nat) : Int)))), (3, .int (iv (((ro : Nat) : Int)))), (0, .ref (ad 358)), (1, .int (iv (((set : Nat) : Int))))]) hX d_Mo_grow_205 rfl 3 rfl (by decide) rfl ?_
            refine v_goto (tgt := 13) hX d_Mo_grow_208 (by decide) ?_
            have hsn : s = (kItr so (mC n cl) (mK n val) (mLf n val so) le de wo 0 (gStart (mC n cl) T0 ch0 set) (k + 1)) := by
              show s = (if k < (kItr so (mC n cl) (mK n val) (mLf n val so) le de wo 0 (gStart (mC n cl) T0 ch0 set) k).1 then kStp so (mC n cl) (mK n val) (mLf n val so) le de wo 0 (kItr so (mC n cl) (mK n val) (mLf n val so) le de wo 0 (gStart (mC n cl) T0 ch0 set) k) k else (kItr so (mC n cl) (mK n val) (mLf n val so) le de wo 0 (gStart (mC n cl) T0 ch0 set) k))
              rw [← hse, if_pos hk]
              unfold kStp
              rw [if_neg (fun q => by obtain ⟨x1, x2, x3⟩ := kDue_of q; rw [ero5, edp, Int.toNat_natCast] at x1; rw [ero, Int.toNat_natCast] at x2 x3; omega)]
            refine v_lv [2, 3, 0] rfl ?_
            exact ih_LOOP (k + 1) (σv) (Sv) (Qv) (s) (by omega) hsn (by omega) hP hQv h15 hG hFr hSk
          · refine v_aload_n hX d_Mo_grow_49 1 rfl ?_
            refine v_iload_n hX d_Mo_grow_50 0 rfl ?_
            refine g_callVI (As := [.int (iv (((ro : Nat) : Int)))]) (st := []) hX hj (i := 358) (by omega) hm9 (m_Mo_findBest hj hP hD ro x2 hle (0, 0, 0, 0, 1)) cl_Mo_161 d_Mo_grow_51 rfl ⟨by decide, by decide⟩ ⟨by decide, by decide⟩ (Nat.le_of_ble_eq_true rfl) (fun z22 σ23 hz24 hp25 => ?_)
            obtain ⟨Sw, B, hBe, ⟨b1, b2, b3, b4⟩, hzz⟩ := hp25
            have hBk : B = kBest so (mC n cl) (mK n val) (mLf n val so) le ro := hBe
            have hfw : (∀ i, i ≠ 358 → (i < 362 ∨ 370 < i) → σ23 i = σ i) := fun i i1 i2 => (b2 i i1).trans (hFr i i1 i2)
            have hQw : pMa G σ23 Qv := hQv.oth (fun i h1 h2 => b2 i (by omega))
            have h15w : Sw 15 = (s.1 : Int) := (b3 15 (by omega)).trans h15
            by_cases q0B : 0 < B.1
            · have z22e : z22 = 1 := hzz.trans (if_pos q0B)
              subst z22e
              obtain ⟨c, num, side, hc, hnu, hsd, hcan, hmay, hB2⟩ := (hBk ▸ kBest_r so (mC n cl) (mK n val) (mLf n val so) le ro : lkR2 so (mC n cl) (mK n val) (mLf n val so) le ro B) q0B
              obtain ⟨v10, v11, v12, v13, v14, r13, r14⟩ := b4 q0B
              rw [hB2] at v10 v11 v12 v13 v14 r13 r14
              have r13 : ir (kAb (mC n cl) (mK n val) (mLf n val so) ro c num side) := r13
              have r14 : ir (((kBe (mK n val) (mLf n val so) ro c num side) : Nat) : Int) := r14
              have hm8 : σ23 358 = eO 9 [.ref (ad 359), .int (iv (((n : Nat) : Int))), .ref (ad 360), .ref (ad 361), .int (iv (((de : Nat) : Int))), .int (iv (((le : Nat) : Int))), .int (iv (((wo : Nat) : Int))), .int (iv ((Sw 7))), .long (jv ((Sw 8))), .long (jv ((Sw 9))), .int (iv (((c : Nat) : Int))), .int (iv (((num : Nat) : Int))), .int (iv (((side : Nat) : Int))), .long (jv ((kAb (mC n cl) (mK n val) (mLf n val so) ro c num side))), .long (jv ((((kBe (mK n val) (mLf n val so) ro c num side) : Nat) : Int))), .int (iv (((s.1 : Nat) : Int))), .ref (ad 362), .ref (ad 363), .ref (ad 364), .ref (ad 365), .ref (ad 366), .ref (ad 367), .ref (ad 368), .ref (ad 369), .ref (ad 370), .ref (ad 371), .int (iv ((Sw 26))), .ref (ad 372), .ref (ad 373), .ref (ad 374), .ref (ad 375), .int (iv ((Sw 31))), .int (iv ((Sw 32)))] := by have h := b1.1; unfold moE at h; rw [v10, v11, v12, v13, v14, h15w] at h; exact h
              have hnl := can_lst hcan
              refine v_if_eq (tgt := 205) hX d_Mo_grow_54 (by decide) (by first | assumption | (unfold ir; omega)) (fun c9 => absurd c9 (by omega)) (fun c9 => ?_)
              refine v_ldc2 hX (100) d_Mo_grow_57 (mT 854 (by decide +kernel) rfl) rfl ?_
              refine v_aload_n hX d_Mo_grow_60 1 rfl ?_
              refine g_get (i := 358) hX hj fl_Mo_135 d_Mo_grow_61 (by omega) hm8 rfl ?_
              refine v_lmul hX d_Mo_grow_64 ?_
              refine v_aload_n hX d_Mo_grow_65 1 rfl ?_
              refine g_get (i := 358) hX hj fl_Mo_80 d_Mo_grow_66 (by omega) hm8 rfl ?_
              refine v_i2l hX d_Mo_grow_69 (by first | assumption | (unfold ir; omega)) ?_
              refine v_aload_n hX d_Mo_grow_70 1 rfl ?_
              refine g_get (i := 358) hX hj fl_Mo_132 d_Mo_grow_71 (by omega) hm8 rfl ?_
              refine v_lmul hX d_Mo_grow_74 ?_
              refine v_lcmp hX d_Mo_grow_75 (jr_mul (by unfold ir; omega) r13) (jr_mul (by unfold ir; omega) r14) ?_
              obtain ⟨z26, hz26, hz26r, hz26a, hz26b, hz26c⟩ := cmp_ex ((100 * (kAb (mC n cl) (mK n val) (mLf n val so) ro c num side))) ((((wo : Nat) : Int) * (((kBe (mK n val) (mLf n val so) ro c num side) : Nat) : Int)))
              rw [← hz26]
              refine v_if_gt (tgt := 82) hX d_Mo_grow_76 (by decide) (by first | assumption | (unfold ir; omega)) (fun c76_5 => ?_) (fun c76_5 => ?_)
              · have hwn : ¬ wrI (mC n cl) ro = 0 := by omega
                have hz47 := hr47 hwn
                refine v_aload_n hX d_Mo_grow_82 1 rfl ?_
                refine g_get (i := 358) hX hj fl_Mo_32 d_Mo_grow_83 (by omega) hm8 rfl ?_
                refine v_iload_n hX d_Mo_grow_86 3 rfl ?_
                refine v_aload_n hX d_Mo_grow_87 1 rfl ?_
                refine g_get (i := 358) hX hj fl_Mo_138 d_Mo_grow_88 (by omega) hm8 rfl ?_
                refine g_iast (i := 364) hX hj d_Mo_grow_91 (by omega) (hQw.1 364 (by decide) (by decide)) (by decide) (k) rfl (by omega) ?_
                obtain ⟨σ27, hs28⟩ : ∃ s9, s9 = va_up σ23 (364) (eJ G 64 (va_up (Qv 364) (k) (((c : Nat) : Int)))) := ⟨_, rfl⟩
                rw [← hs28]
                have hf29 := (show σ27 (358) = σ23 (358) by rw [hs28, va_up_ne _ _ (by omega)]).trans hm8
                have hf30 : σ27 (364) = (eJ G 64 (va_up (Qv 364) (k) (((c : Nat) : Int)))) := by rw [hs28, va_up_self]
                obtain ⟨Q32, eQ33⟩ : ∃ Qq, Qq = va_up Qv 364 (va_up (Qv 364) (k) (((c : Nat) : Int))) := ⟨_, rfl⟩
                have hQ31 : pMa G σ27 Q32 := by rw [eQ33]; exact hQw.set 364 (fun i hi => by rw [hs28, va_up_ne _ _ hi]) (fun _ _ => (by rw [hs28, va_up_self])) (fun a b => absurd a (by decide)) (fun a => absurd a (by decide)) (fun a => absurd a (by decide)) (fun a b => absurd a (by decide)) (fun a => absurd a (by decide))
                refine v_aload_n hX d_Mo_grow_92 1 rfl ?_
                refine g_get (i := 358) hX hj fl_Mo_35 d_Mo_grow_93 (by omega) hf29 rfl ?_
                refine v_iload_n hX d_Mo_grow_96 3 rfl ?_
                refine v_aload_n hX d_Mo_grow_97 1 rfl ?_
                refine g_get (i := 358) hX hj fl_Mo_141 d_Mo_grow_98 (by omega) hf29 rfl ?_
                refine g_iast (i := 365) hX hj d_Mo_grow_101 (by omega) (hQ31.1 365 (by decide) (by decide)) (by decide) (k) rfl (by omega) ?_
                obtain ⟨σ34, hs35⟩ : ∃ s9, s9 = va_up σ27 (365) (eJ G 64 (va_up (Q32 365) (k) (((num : Nat) : Int)))) := ⟨_, rfl⟩
                rw [← hs35]
                have hf36 := (show σ34 (358) = σ27 (358) by rw [hs35, va_up_ne _ _ (by omega)]).trans hf29
                have hf37 : σ34 (365) = (eJ G 64 (va_up (Q32 365) (k) (((num : Nat) : Int)))) := by rw [hs35, va_up_self]
                obtain ⟨Q39, eQ40⟩ : ∃ Qq, Qq = va_up Q32 365 (va_up (Q32 365) (k) (((num : Nat) : Int))) := ⟨_, rfl⟩
                have hQ38 : pMa G σ34 Q39 := by rw [eQ40]; exact hQ31.set 365 (fun i hi => by rw [hs35, va_up_ne _ _ hi]) (fun _ _ => (by rw [hs35, va_up_self])) (fun a b => absurd a (by decide)) (fun a => absurd a (by decide)) (fun a => absurd a (by decide)) (fun a b => absurd a (by decide)) (fun a => absurd a (by decide))
                refine v_aload_n hX d_Mo_grow_102 1 rfl ?_
                refine g_get (i := 358) hX hj fl_Mo_38 d_Mo_grow_103 (by omega) hf36 rfl ?_
                refine v_iload_n hX d_Mo_grow_106 3 rfl ?_
                refine v_aload_n hX d_Mo_grow_107 1 rfl ?_
                refine g_get (i := 358) hX hj fl_Mo_144 d_Mo_grow_108 (by omega) hf36 rfl ?_
                refine g_iast (i := 366) hX hj d_Mo_grow_111 (by omega) (hQ38.1 366 (by decide) (by decide)) (by decide) (k) rfl (by omega) ?_
                obtain ⟨σ41, hs42⟩ : ∃ s9, s9 = va_up σ34 (366) (eJ G 64 (va_up (Q39 366) (k) (((side : Nat) : Int)))) := ⟨_, rfl⟩
                rw [← hs42]
                have hf43 := (show σ41 (358) = σ34 (358) by rw [hs42, va_up_ne _ _ (by omega)]).trans hf36
                have hf44 : σ41 (366) = (eJ G 64 (va_up (Q39 366) (k) (((side : Nat) : Int)))) := by rw [hs42, va_up_self]
                obtain ⟨Q46, eQ47⟩ : ∃ Qq, Qq = va_up Q39 366 (va_up (Q39 366) (k) (((side : Nat) : Int))) := ⟨_, rfl⟩
                have hQ45 : pMa G σ41 Q46 := by rw [eQ47]; exact hQ38.set 366 (fun i hi => by rw [hs42, va_up_ne _ _ hi]) (fun _ _ => (by rw [hs42, va_up_self])) (fun a b => absurd a (by decide)) (fun a => absurd a (by decide)) (fun a => absurd a (by decide)) (fun a b => absurd a (by decide)) (fun a => absurd a (by decide))
                refine v_aload_n hX d_Mo_grow_112 1 rfl ?_
                refine g_get (i := 358) hX hj fl_Mo_47 d_Mo_grow_113 (by omega) hf43 rfl ?_
                refine v_iload_n hX d_Mo_grow_116 3 rfl ?_
                refine v_aload_n hX d_Mo_grow_117 1 rfl ?_
                refine g_get (i := 358) hX hj fl_Mo_135 d_Mo_grow_118 (by omega) hf43 rfl ?_
                refine g_last (i := 369) hX hj d_Mo_grow_121 (by omega) (hQ45.2.1 369 (by decide) (by decide)) (by decide) (k) rfl (by omega) ?_
                obtain ⟨σ48, hs49⟩ : ∃ s9, s9 = va_up σ41 (369) (eL G 64 (va_up (Q46 369) (k) ((kAb (mC n cl) (mK n val) (mLf n val so) ro c num side)))) := ⟨_, rfl⟩
                rw [← hs49]
                have hf50 := (show σ48 (358) = σ41 (358) by rw [hs49, va_up_ne _ _ (by omega)]).trans hf43
                have hf51 : σ48 (369) = (eL G 64 (va_up (Q46 369) (k) ((kAb (mC n cl) (mK n val) (mLf n val so) ro c num side)))) := by rw [hs49, va_up_self]
                obtain ⟨Q53, eQ54⟩ : ∃ Qq, Qq = va_up Q46 369 (va_up (Q46 369) (k) ((kAb (mC n cl) (mK n val) (mLf n val so) ro c num side))) := ⟨_, rfl⟩
                have hQ52 : pMa G σ48 Q53 := by rw [eQ54]; exact hQ45.set 369 (fun i hi => by rw [hs49, va_up_ne _ _ hi]) (fun a b => absurd b (by decide)) (fun _ _ => (by rw [hs49, va_up_self])) (fun a => absurd a (by decide)) (fun a => absurd a (by decide)) (fun a b => absurd a (by decide)) (fun a => absurd a (by decide))
                refine v_aload_n hX d_Mo_grow_122 1 rfl ?_
                refine g_get (i := 358) hX hj fl_Mo_51 d_Mo_grow_123 (by omega) hf50 rfl ?_
                refine v_iload_n hX d_Mo_grow_126 3 rfl ?_
                refine v_aload_n hX d_Mo_grow_127 1 rfl ?_
                refine g_get (i := 358) hX hj fl_Mo_132 d_Mo_grow_128 (by omega) hf50 rfl ?_
                refine g_last (i := 370) hX hj d_Mo_grow_131 (by omega) (hQ52.2.1 370 (by decide) (by decide)) (by decide) (k) rfl (by omega) ?_
                obtain ⟨σ55, hs56⟩ : ∃ s9, s9 = va_up σ48 (370) (eL G 64 (va_up (Q53 370) (k) ((((kBe (mK n val) (mLf n val so) ro c num side) : Nat) : Int)))) := ⟨_, rfl⟩
                rw [← hs56]
                have hf57 := (show σ55 (358) = σ48 (358) by rw [hs56, va_up_ne _ _ (by omega)]).trans hf50
                have hf58 : σ55 (370) = (eL G 64 (va_up (Q53 370) (k) ((((kBe (mK n val) (mLf n val so) ro c num side) : Nat) : Int)))) := by rw [hs56, va_up_self]
                obtain ⟨Q60, eQ61⟩ : ∃ Qq, Qq = va_up Q53 370 (va_up (Q53 370) (k) ((((kBe (mK n val) (mLf n val so) ro c num side) : Nat) : Int))) := ⟨_, rfl⟩
                have hQ59 : pMa G σ55 Q60 := by rw [eQ61]; exact hQ52.set 370 (fun i hi => by rw [hs56, va_up_ne _ _ hi]) (fun a b => absurd b (by decide)) (fun _ _ => (by rw [hs56, va_up_self])) (fun a => absurd a (by decide)) (fun a => absurd a (by decide)) (fun a b => absurd a (by decide)) (fun a => absurd a (by decide))
                refine v_aload_n hX d_Mo_grow_132 1 rfl ?_
                refine v_iload_n hX d_Mo_grow_133 0 rfl ?_
                refine v_aload_n hX d_Mo_grow_134 1 rfl ?_
                refine g_get (i := 358) hX hj fl_Mo_138 d_Mo_grow_135 (by omega) hf57 rfl ?_
                refine v_aload_n hX d_Mo_grow_138 1 rfl ?_
                refine g_get (i := 358) hX hj fl_Mo_141 d_Mo_grow_139 (by omega) hf57 rfl ?_
                refine v_aload_n hX d_Mo_grow_142 1 rfl ?_
                refine g_get (i := 358) hX hj fl_Mo_144 d_Mo_grow_143 (by omega) hf57 rfl ?_
                have p62f : ∀ i, i ≠ 364 → i ≠ 365 → i ≠ 366 → i ≠ 367 → i ≠ 368 → i ≠ 369 → i ≠ 370 → σ55 i = σ23 i := fun i i4 i5 i6 i7 i8 i9 i0 => by rw [hs56, va_up_ne _ _ (by omega), hs49, va_up_ne _ _ (by omega), hs42, va_up_ne _ _ (by omega), hs35, va_up_ne _ _ (by omega), hs28, va_up_ne _ _ (by omega)]
                have p62 : pMo G ad σ55 n val cl so de le wo Sw := b1.up ((p62f 358 (by decide) (by decide) (by decide) (by decide) (by decide) (by decide) (by decide)).trans b1.1) (p62f 359 (by decide) (by decide) (by decide) (by decide) (by decide) (by decide) (by decide)) (p62f 360 (by decide) (by decide) (by decide) (by decide) (by decide) (by decide) (by decide)) (p62f 361 (by decide) (by decide) (by decide) (by decide) (by decide) (by decide) (by decide))
                have p62r : (∀ i, i ≠ 358 → (i < 362 ∨ 370 < i) → σ55 i = σ i) := fun i i1 i2 => (p62f i (by omega) (by omega) (by omega) (by omega) (by omega) (by omega) (by omega)).trans (hfw i i1 i2)
                refine g_callVI (As := [.int (iv (((ro : Nat) : Int))), .int (iv (((c : Nat) : Int))), .int (iv (((num : Nat) : Int))), .int (iv (((side : Nat) : Int)))]) (st := []) hX hj (i := 358) (by omega) hf57 (m_Mo_leftOf hj p62 hD ro x2 c num side hc hnl hsd) cl_Mo_114 d_Mo_grow_146 rfl ⟨by decide, by decide⟩ ⟨by decide, by decide⟩ (Nat.le_of_ble_eq_true rfl) (fun z63 σ64 hz65 hp66 => ?_)
                obtain ⟨he67, hv68⟩ := hp66
                rw [he67]
                subst hv68
                refine v_istore (lv' := [(4, .int (iv ((((kLeft (mK n val) (mLf n val so) ro c num side) : Nat) : Int)))), (3, .int (iv (((ro : Nat) : Int)))), (0, .ref (ad 358)), (1, .int (iv (((set : Nat) : Int)))), (2, .int (iv (((k : Nat) : Int))))]) hX d_Mo_grow_149 (by decide) rfl ?_
                refine v_aload_n hX d_Mo_grow_151 2 rfl ?_
                refine g_get (i := 358) hX hj fl_Mo_41 d_Mo_grow_152 (by omega) hf57 rfl ?_
                refine v_iload_n hX d_Mo_grow_155 4 rfl ?_
                refine v_aload_n hX d_Mo_grow_156 2 rfl ?_
                refine g_get (i := 358) hX hj fl_Mo_147 d_Mo_grow_157 (by omega) hf57 rfl ?_
                refine g_iast (i := 367) hX hj d_Mo_grow_160 (by omega) (hQ59.1 367 (by decide) (by decide)) (by decide) (k) rfl (by omega) ?_
                obtain ⟨σ69, hs70⟩ : ∃ s9, s9 = va_up σ55 (367) (eJ G 64 (va_up (Q60 367) (k) (((s.1 : Nat) : Int)))) := ⟨_, rfl⟩
                rw [← hs70]
                have hf71 := (show σ69 (358) = σ55 (358) by rw [hs70, va_up_ne _ _ (by omega)]).trans hf57
                have hf72 : σ69 (367) = (eJ G 64 (va_up (Q60 367) (k) (((s.1 : Nat) : Int)))) := by rw [hs70, va_up_self]
                obtain ⟨Q74, eQ75⟩ : ∃ Qq, Qq = va_up Q60 367 (va_up (Q60 367) (k) (((s.1 : Nat) : Int))) := ⟨_, rfl⟩
                have hQ73 : pMa G σ69 Q74 := by rw [eQ75]; exact hQ59.set 367 (fun i hi => by rw [hs70, va_up_ne _ _ hi]) (fun _ _ => (by rw [hs70, va_up_self])) (fun a b => absurd a (by decide)) (fun a => absurd a (by decide)) (fun a => absurd a (by decide)) (fun a b => absurd a (by decide)) (fun a => absurd a (by decide))
                refine v_aload_n hX d_Mo_grow_161 2 rfl ?_
                refine g_get (i := 358) hX hj fl_Mo_44 d_Mo_grow_162 (by omega) hf71 rfl ?_
                refine v_iload_n hX d_Mo_grow_165 4 rfl ?_
                refine v_aload_n hX d_Mo_grow_166 2 rfl ?_
                refine g_get (i := 358) hX hj fl_Mo_147 d_Mo_grow_167 (by omega) hf71 rfl ?_
                refine v_iconst hX (1) d_Mo_grow_170 ?_
                refine v_iaddN (a := s.1) (b := 1) hX d_Mo_grow_171 ?_
                refine g_iast (i := 368) hX hj d_Mo_grow_172 (by omega) (hQ73.1 368 (by decide) (by decide)) (by decide) (k) rfl (by omega) ?_
                obtain ⟨σ76, hs77⟩ : ∃ s9, s9 = va_up σ69 (368) (eJ G 64 (va_up (Q74 368) (k) ((((s.1 + 1) : Nat) : Int)))) := ⟨_, rfl⟩
                rw [← hs77]
                have hf78 := (show σ76 (358) = σ69 (358) by rw [hs77, va_up_ne _ _ (by omega)]).trans hf71
                have hf79 : σ76 (368) = (eJ G 64 (va_up (Q74 368) (k) ((((s.1 + 1) : Nat) : Int)))) := by rw [hs77, va_up_self]
                obtain ⟨Q81, eQ82⟩ : ∃ Qq, Qq = va_up Q74 368 (va_up (Q74 368) (k) ((((s.1 + 1) : Nat) : Int))) := ⟨_, rfl⟩
                have hQ80 : pMa G σ76 Q81 := by rw [eQ82]; exact hQ73.set 368 (fun i hi => by rw [hs77, va_up_ne _ _ hi]) (fun _ _ => (by rw [hs77, va_up_self])) (fun a b => absurd a (by decide)) (fun a => absurd a (by decide)) (fun a => absurd a (by decide)) (fun a b => absurd a (by decide)) (fun a => absurd a (by decide))
                refine v_aload_n hX d_Mo_grow_173 2 rfl ?_
                refine v_iload hX d_Mo_grow_174 0 rfl ?_
                refine v_aload_n hX d_Mo_grow_176 2 rfl ?_
                refine g_get (i := 358) hX hj fl_Mo_29 d_Mo_grow_177 (by omega) hf78 rfl ?_
                refine v_iload_n hX d_Mo_grow_180 4 rfl ?_
                refine g_iald (i := 363) hX hj d_Mo_grow_181 (by omega) (hQ80.1 363 (by decide) (by decide)) (by decide) (k) rfl (by omega) ?_
                refine v_top (x' := iv (((dp : Nat) : Int))) (congrArg iv ((by rw [eQ82, va_up_ne _ _ (by decide), eQ75, va_up_ne _ _ (by decide), eQ61, va_up_ne _ _ (by decide), eQ54, va_up_ne _ _ (by decide), eQ47, va_up_ne _ _ (by decide), eQ40, va_up_ne _ _ (by decide), eQ33, va_up_ne _ _ (by decide)] : Q81 363 k = Qv 363 k).trans (g2.trans edp))) ?_
                refine v_iconst hX (1) d_Mo_grow_182 ?_
                refine v_iaddN (a := dp) (b := 1) hX d_Mo_grow_183 ?_
                have p83f : ∀ i, i ≠ 364 → i ≠ 365 → i ≠ 366 → i ≠ 367 → i ≠ 368 → i ≠ 369 → i ≠ 370 → σ76 i = σ23 i := fun i i4 i5 i6 i7 i8 i9 i0 => by rw [hs77, va_up_ne _ _ (by omega), hs70, va_up_ne _ _ (by omega), hs56, va_up_ne _ _ (by omega), hs49, va_up_ne _ _ (by omega), hs42, va_up_ne _ _ (by omega), hs35, va_up_ne _ _ (by omega), hs28, va_up_ne _ _ (by omega)]
                have p83 : pMo G ad σ76 n val cl so de le wo Sw := b1.up ((p83f 358 (by decide) (by decide) (by decide) (by decide) (by decide) (by decide) (by decide)).trans b1.1) (p83f 359 (by decide) (by decide) (by decide) (by decide) (by decide) (by decide) (by decide)) (p83f 360 (by decide) (by decide) (by decide) (by decide) (by decide) (by decide) (by decide)) (p83f 361 (by decide) (by decide) (by decide) (by decide) (by decide) (by decide) (by decide))
                have p83r : (∀ i, i ≠ 358 → (i < 362 ∨ 370 < i) → σ76 i = σ i) := fun i i1 i2 => (p83f i (by omega) (by omega) (by omega) (by omega) (by omega) (by omega) (by omega)).trans (hfw i i1 i2)
                refine g_callVV (As := [.int (iv ((((kLeft (mK n val) (mLf n val so) ro c num side) : Nat) : Int))), .int (iv ((((dp + 1) : Nat) : Int)))]) (st := []) hX hj (i := 358) (by omega) hf78 (m_Mo_add hj p83 hD hQ80 (s.1) h15w (by omega) (kLeft (mK n val) (mLf n val so) ro c num side) ((((dp + 1) : Nat) : Int))) cl_Mo_153 d_Mo_grow_184 rfl ⟨by decide, by decide⟩ ⟨by decide, by decide⟩ (Nat.le_of_ble_eq_true rfl) (fun σ85 hp87 => ?_)
                obtain ⟨a88P, a88Q, a88F⟩ := hp87
                have a88fr : (∀ i, i ≠ 358 → (i < 362 ∨ 370 < i) → σ85 i = σ i) := fun i i1 i2 => (a88F i i1 (by omega) (by omega) (by omega)).trans (p83r i i1 i2)
                obtain ⟨S89, eS89⟩ : ∃ Sq, Sq = (va_up Sw 15 ((s.1 + 1 : Nat) : Int)) := ⟨_, rfl⟩
                rw [← eS89] at a88P
                obtain ⟨Q90, eQ90⟩ : ∃ Qq, Qq = adQ Q81 (s.1) ((((kLeft (mK n val) (mLf n val so) ro c num side) : Nat) : Int)) ((((dp + 1) : Nat) : Int)) := ⟨_, rfl⟩
                rw [← eQ90] at a88Q
                have a88m : σ85 358 = eO 9 [.ref (ad 359), .int (iv (((n : Nat) : Int))), .ref (ad 360), .ref (ad 361), .int (iv (((de : Nat) : Int))), .int (iv (((le : Nat) : Int))), .int (iv (((wo : Nat) : Int))), .int (iv ((S89 7))), .long (jv ((S89 8))), .long (jv ((S89 9))), .int (iv ((S89 10))), .int (iv ((S89 11))), .int (iv ((S89 12))), .long (jv ((S89 13))), .long (jv ((S89 14))), .int (iv ((((s.1 + 1) : Nat) : Int))), .ref (ad 362), .ref (ad 363), .ref (ad 364), .ref (ad 365), .ref (ad 366), .ref (ad 367), .ref (ad 368), .ref (ad 369), .ref (ad 370), .ref (ad 371), .int (iv ((S89 26))), .ref (ad 372), .ref (ad 373), .ref (ad 374), .ref (ad 375), .int (iv ((S89 31))), .int (iv ((S89 32)))] := by have h := a88P.1; unfold moE at h; rw [show S89 15 = ((s.1 + 1 : Nat) : Int) by rw [eS89, va_up_self]] at h; exact h
                refine v_aload_n hX d_Mo_grow_187 2 rfl ?_
                refine v_iload_n hX d_Mo_grow_188 1 rfl ?_
                refine v_iload hX d_Mo_grow_189 0 rfl ?_
                refine v_iconst hX (-1) d_Mo_grow_191 ?_
                refine v_ixor (z := (-1 - (((kLeft (mK n val) (mLf n val so) ro c num side) : Nat) : Int))) hX d_Mo_grow_192 (iv_not ((kLeft (mK n val) (mLf n val so) ro c num side))) ?_
                refine v_iand (z := (((nd ro (kLeft (mK n val) (mLf n val so) ro c num side)) : Nat) : Int)) hX d_Mo_grow_193 (iv_andnot (ro) ((kLeft (mK n val) (mLf n val so) ro c num side))) ?_
                refine v_aload_n hX d_Mo_grow_194 2 rfl ?_
                refine g_get (i := 358) hX hj fl_Mo_29 d_Mo_grow_195 (by omega) a88m rfl ?_
                refine v_iload_n hX d_Mo_grow_198 4 rfl ?_
                refine g_iald (i := 363) hX hj d_Mo_grow_199 (by omega) (a88Q.1 363 (by decide) (by decide)) (by decide) (k) rfl (by omega) ?_
                refine v_top (x' := iv (((dp : Nat) : Int))) (congrArg iv ((by rw [eQ90, adQ_3, va_up_ne _ _ (by omega), eQ82, va_up_ne _ _ (by decide), eQ75, va_up_ne _ _ (by decide), eQ61, va_up_ne _ _ (by decide), eQ54, va_up_ne _ _ (by decide), eQ47, va_up_ne _ _ (by decide), eQ40, va_up_ne _ _ (by decide), eQ33, va_up_ne _ _ (by decide)] : Q90 363 k = Qv 363 k).trans (g2.trans edp))) ?_
                refine v_iconst hX (1) d_Mo_grow_200 ?_
                refine v_iaddN (a := dp) (b := 1) hX d_Mo_grow_201 ?_
                refine g_callVV (As := [.int (iv ((((nd ro (kLeft (mK n val) (mLf n val so) ro c num side)) : Nat) : Int))), .int (iv ((((dp + 1) : Nat) : Int)))]) (st := []) hX hj (i := 358) (by omega) a88m (m_Mo_add hj a88P hD a88Q ((s.1 + 1)) (by rw [eS89, va_up_self]) (by omega) (nd ro (kLeft (mK n val) (mLf n val so) ro c num side)) ((((dp + 1) : Nat) : Int))) cl_Mo_153 d_Mo_grow_202 rfl ⟨by decide, by decide⟩ ⟨by decide, by decide⟩ (Nat.le_of_ble_eq_true rfl) (fun σ92 hp94 => ?_)
                obtain ⟨a95P, a95Q, a95F⟩ := hp94
                have a95fr : (∀ i, i ≠ 358 → (i < 362 ∨ 370 < i) → σ92 i = σ i) := fun i i1 i2 => (a95F i i1 (by omega) (by omega) (by omega)).trans (a88fr i i1 i2)
                obtain ⟨S96, eS96⟩ : ∃ Sq, Sq = (va_up S89 15 (((s.1 + 1) + 1 : Nat) : Int)) := ⟨_, rfl⟩
                rw [← eS96] at a95P
                obtain ⟨Q97, eQ97⟩ : ∃ Qq, Qq = adQ Q90 ((s.1 + 1)) ((((nd ro (kLeft (mK n val) (mLf n val so) ro c num side)) : Nat) : Int)) ((((dp + 1) : Nat) : Int)) := ⟨_, rfl⟩
                rw [← eQ97] at a95Q
                have a95m : σ92 358 = eO 9 [.ref (ad 359), .int (iv (((n : Nat) : Int))), .ref (ad 360), .ref (ad 361), .int (iv (((de : Nat) : Int))), .int (iv (((le : Nat) : Int))), .int (iv (((wo : Nat) : Int))), .int (iv ((S96 7))), .long (jv ((S96 8))), .long (jv ((S96 9))), .int (iv ((S96 10))), .int (iv ((S96 11))), .int (iv ((S96 12))), .long (jv ((S96 13))), .long (jv ((S96 14))), .int (iv (((((s.1 + 1) + 1) : Nat) : Int))), .ref (ad 362), .ref (ad 363), .ref (ad 364), .ref (ad 365), .ref (ad 366), .ref (ad 367), .ref (ad 368), .ref (ad 369), .ref (ad 370), .ref (ad 371), .int (iv ((S96 26))), .ref (ad 372), .ref (ad 373), .ref (ad 374), .ref (ad 375), .int (iv ((S96 31))), .int (iv ((S96 32)))] := by have h := a95P.1; unfold moE at h; rw [show S96 15 = (((s.1 + 1) + 1 : Nat) : Int) by rw [eS96, va_up_self]] at h; exact h
                refine v_iincN (a := k) (n := 1) (lv' := [(2, .int (iv ((((k + 1) : Nat) : Int)))), (4, .int (iv ((((kLeft (mK n val) (mLf n val so) ro c num side) : Nat) : Int)))), (3, .int (iv (((ro : Nat) : Int)))), (0, .ref (ad 358)), (1, .int (iv (((set : Nat) : Int))))]) hX d_Mo_grow_205 rfl 4 rfl (by decide) rfl ?_
                refine v_goto (tgt := 13) hX d_Mo_grow_208 (by decide) ?_
                have hGn := moG_put (rC := mC n cl) (rK := mK n val) (rL := mLf n val so) (f := B.1) (Q1 := Q81) hG hk ero edp (by rw [eQ82, va_up_ne _ _ (by decide), eQ75, va_up_ne _ _ (by decide), eQ61, va_up_ne _ _ (by decide), eQ54, va_up_ne _ _ (by decide), eQ47, va_up_ne _ _ (by decide), eQ40, va_up_ne _ _ (by decide), eQ33, va_up_ne _ _ (by decide)]) (by rw [eQ82, va_up_ne _ _ (by decide), eQ75, va_up_ne _ _ (by decide), eQ61, va_up_ne _ _ (by decide), eQ54, va_up_ne _ _ (by decide), eQ47, va_up_ne _ _ (by decide), eQ40, va_up_ne _ _ (by decide), eQ33, va_up_ne _ _ (by decide)]) (by rw [eQ82, va_up_ne _ _ (by decide), eQ75, va_up_ne _ _ (by decide), eQ61, va_up_ne _ _ (by decide), eQ54, va_up_ne _ _ (by decide), eQ47, va_up_ne _ _ (by decide), eQ40, va_up_ne _ _ (by decide), eQ33, va_up_self]) (by rw [eQ82, va_up_ne _ _ (by decide), eQ75, va_up_ne _ _ (by decide), eQ61, va_up_ne _ _ (by decide), eQ54, va_up_ne _ _ (by decide), eQ47, va_up_ne _ _ (by decide), eQ40, va_up_self, eQ33, va_up_ne _ _ (by decide)]) (by rw [eQ82, va_up_ne _ _ (by decide), eQ75, va_up_ne _ _ (by decide), eQ61, va_up_ne _ _ (by decide), eQ54, va_up_ne _ _ (by decide), eQ47, va_up_self, eQ40, va_up_ne _ _ (by decide), eQ33, va_up_ne _ _ (by decide)]) (by rw [eQ82, va_up_ne _ _ (by decide), eQ75, va_up_self, eQ61, va_up_ne _ _ (by decide), eQ54, va_up_ne _ _ (by decide), eQ47, va_up_ne _ _ (by decide), eQ40, va_up_ne _ _ (by decide), eQ33, va_up_ne _ _ (by decide)]) (by rw [eQ82, va_up_self, eQ75, va_up_ne _ _ (by decide), eQ61, va_up_ne _ _ (by decide), eQ54, va_up_ne _ _ (by decide), eQ47, va_up_ne _ _ (by decide), eQ40, va_up_ne _ _ (by decide), eQ33, va_up_ne _ _ (by decide)]) (by rw [eQ82, va_up_ne _ _ (by decide), eQ75, va_up_ne _ _ (by decide), eQ61, va_up_ne _ _ (by decide), eQ54, va_up_self, eQ47, va_up_ne _ _ (by decide), eQ40, va_up_ne _ _ (by decide), eQ33, va_up_ne _ _ (by decide)]) (by rw [eQ82, va_up_ne _ _ (by decide), eQ75, va_up_ne _ _ (by decide), eQ61, va_up_self, eQ54, va_up_ne _ _ (by decide), eQ47, va_up_ne _ _ (by decide), eQ40, va_up_ne _ _ (by decide), eQ33, va_up_ne _ _ (by decide)]) (c := c) (num := num) (side := side) (ab := (kAb (mC n cl) (mK n val) (mLf n val so) ro c num side)) (be := (((kBe (mK n val) (mLf n val so) ro c num side) : Nat) : Int))
                have hsn : kPut (mC n cl) (mK n val) (mLf n val so) 0 s k (B.1, (c : Int), (num : Int), (side : Int), (kAb (mC n cl) (mK n val) (mLf n val so) ro c num side), (((kBe (mK n val) (mLf n val so) ro c num side) : Nat) : Int)) = (kItr so (mC n cl) (mK n val) (mLf n val so) le de wo 0 (gStart (mC n cl) T0 ch0 set) (k + 1)) := by
                  show _ = (if k < (kItr so (mC n cl) (mK n val) (mLf n val so) le de wo 0 (gStart (mC n cl) T0 ch0 set) k).1 then kStp so (mC n cl) (mK n val) (mLf n val so) le de wo 0 (kItr so (mC n cl) (mK n val) (mLf n val so) le de wo 0 (gStart (mC n cl) T0 ch0 set) k) k else (kItr so (mC n cl) (mK n val) (mLf n val so) le de wo 0 (gStart (mC n cl) T0 ch0 set) k))
                  rw [← hse, if_pos hk]
                  unfold kStp
                  rw [if_pos (kDue_t (by rw [ero5, edp, Int.toNat_natCast]; omega) (by rw [ero, Int.toNat_natCast, ← hBk]; exact q0B) (by rw [ero, Int.toNat_natCast, ← hBk, hB2]; show (wo : Int) * (((kBe (mK n val) (mLf n val so) ro c num side) : Nat) : Int) < 100 * (kAb (mC n cl) (mK n val) (mLf n val so) ro c num side); omega)), ero, Int.toNat_natCast, ← hBk, ← hB2]
                refine v_lv [3, 4, 0] rfl ?_
                exact ih_LOOP (k + 1) (σ92) (S96) (Q97) ((kPut (mC n cl) (mK n val) (mLf n val so) 0 s k (B.1, (c : Int), (num : Int), (side : Int), (kAb (mC n cl) (mK n val) (mLf n val so) ro c num side), (((kBe (mK n val) (mLf n val so) ro c num side) : Nat) : Int)))) (by omega) hsn (by show k + 1 ≤ s.1 + 2; omega) a95P a95Q (by rw [eS96, va_up_self]; rfl) (by rw [eQ97, eQ90]; exact hGn) a95fr (fun i hi => by rw [eS96, va_up_ne _ _ (by omega), eS89, va_up_ne _ _ (by omega)]; exact (b3 i (by omega)).trans (hSk i hi))
              · refine v_goto (tgt := 205) hX d_Mo_grow_79 (by decide) ?_
                refine v_iincN (a := k) (n := 1) (lv' := [(2, .int (iv ((((k + 1) : Nat) : Int)))), (3, .int (iv (((ro : Nat) : Int)))), (0, .ref (ad 358)), (1, .int (iv (((set : Nat) : Int))))]) hX d_Mo_grow_205 rfl 3 rfl (by decide) rfl ?_
                refine v_goto (tgt := 13) hX d_Mo_grow_208 (by decide) ?_
                have hsn : s = (kItr so (mC n cl) (mK n val) (mLf n val so) le de wo 0 (gStart (mC n cl) T0 ch0 set) (k + 1)) := by
                  show s = (if k < (kItr so (mC n cl) (mK n val) (mLf n val so) le de wo 0 (gStart (mC n cl) T0 ch0 set) k).1 then kStp so (mC n cl) (mK n val) (mLf n val so) le de wo 0 (kItr so (mC n cl) (mK n val) (mLf n val so) le de wo 0 (gStart (mC n cl) T0 ch0 set) k) k else (kItr so (mC n cl) (mK n val) (mLf n val so) le de wo 0 (gStart (mC n cl) T0 ch0 set) k))
                  rw [← hse, if_pos hk]
                  unfold kStp
                  rw [if_neg (fun q => by obtain ⟨x1, x2, x3⟩ := kDue_of q; rw [ero5, edp, Int.toNat_natCast] at x1; rw [ero, Int.toNat_natCast] at x2 x3; rw [← hBk, hB2] at x3; have x3 : (wo : Int) * (((kBe (mK n val) (mLf n val so) ro c num side) : Nat) : Int) < 100 * (kAb (mC n cl) (mK n val) (mLf n val so) ro c num side) := x3; omega)]
                refine v_lv [2, 3, 0] rfl ?_
                exact ih_LOOP (k + 1) (σ23) (Sw) (Qv) (s) (by omega) hsn (by omega) b1 hQw h15w hG hfw (fun i hi => (b3 i (by omega)).trans (hSk i hi))
            · have z22e : z22 = 0 := hzz.trans (if_neg q0B)
              subst z22e
              have hm8 : σ23 358 = eO 9 [.ref (ad 359), .int (iv (((n : Nat) : Int))), .ref (ad 360), .ref (ad 361), .int (iv (((de : Nat) : Int))), .int (iv (((le : Nat) : Int))), .int (iv (((wo : Nat) : Int))), .int (iv ((Sw 7))), .long (jv ((Sw 8))), .long (jv ((Sw 9))), .int (iv ((Sw 10))), .int (iv ((Sw 11))), .int (iv ((Sw 12))), .long (jv ((Sw 13))), .long (jv ((Sw 14))), .int (iv ((Sw 15))), .ref (ad 362), .ref (ad 363), .ref (ad 364), .ref (ad 365), .ref (ad 366), .ref (ad 367), .ref (ad 368), .ref (ad 369), .ref (ad 370), .ref (ad 371), .int (iv ((Sw 26))), .ref (ad 372), .ref (ad 373), .ref (ad 374), .ref (ad 375), .int (iv ((Sw 31))), .int (iv ((Sw 32)))] := b1.1
              refine v_if_eq (tgt := 205) hX d_Mo_grow_54 (by decide) (by first | assumption | (unfold ir; omega)) (fun c9 => ?_) (fun c9 => absurd c9 (by omega))
              refine v_iincN (a := k) (n := 1) (lv' := [(2, .int (iv ((((k + 1) : Nat) : Int)))), (3, .int (iv (((ro : Nat) : Int)))), (0, .ref (ad 358)), (1, .int (iv (((set : Nat) : Int))))]) hX d_Mo_grow_205 rfl 3 rfl (by decide) rfl ?_
              refine v_goto (tgt := 13) hX d_Mo_grow_208 (by decide) ?_
              have hsn : s = (kItr so (mC n cl) (mK n val) (mLf n val so) le de wo 0 (gStart (mC n cl) T0 ch0 set) (k + 1)) := by
                show s = (if k < (kItr so (mC n cl) (mK n val) (mLf n val so) le de wo 0 (gStart (mC n cl) T0 ch0 set) k).1 then kStp so (mC n cl) (mK n val) (mLf n val so) le de wo 0 (kItr so (mC n cl) (mK n val) (mLf n val so) le de wo 0 (gStart (mC n cl) T0 ch0 set) k) k else (kItr so (mC n cl) (mK n val) (mLf n val so) le de wo 0 (gStart (mC n cl) T0 ch0 set) k))
                rw [← hse, if_pos hk]
                unfold kStp
                rw [if_neg (fun q => by obtain ⟨x1, x2, x3⟩ := kDue_of q; rw [ero5, edp, Int.toNat_natCast] at x1; rw [ero, Int.toNat_natCast] at x2 x3; rw [← hBk] at x2; exact q0B x2)]
              refine v_lv [2, 3, 0] rfl ?_
              exact ih_LOOP (k + 1) (σ23) (Sw) (Qv) (s) (by omega) hsn (by omega) b1 hQw h15w hG hfw (fun i hi => (b3 i (by omega)).trans (hSk i hi))
        · have z16e : z16 = 0 := hv21.trans (if_neg qm)
          subst z16e
          refine v_if_eq (tgt := 205) hX d_Mo_grow_33 (by decide) (by first | assumption | (unfold ir; omega)) (fun c9 => ?_) (fun c9 => absurd c9 (by omega))
          refine v_iincN (a := k) (n := 1) (lv' := [(2, .int (iv ((((k + 1) : Nat) : Int)))), (3, .int (iv (((ro : Nat) : Int)))), (0, .ref (ad 358)), (1, .int (iv (((set : Nat) : Int))))]) hX d_Mo_grow_205 rfl 3 rfl (by decide) rfl ?_
          refine v_goto (tgt := 13) hX d_Mo_grow_208 (by decide) ?_
          have hsn : s = (kItr so (mC n cl) (mK n val) (mLf n val so) le de wo 0 (gStart (mC n cl) T0 ch0 set) (k + 1)) := by
            show s = (if k < (kItr so (mC n cl) (mK n val) (mLf n val so) le de wo 0 (gStart (mC n cl) T0 ch0 set) k).1 then kStp so (mC n cl) (mK n val) (mLf n val so) le de wo 0 (kItr so (mC n cl) (mK n val) (mLf n val so) le de wo 0 (gStart (mC n cl) T0 ch0 set) k) k else (kItr so (mC n cl) (mK n val) (mLf n val so) le de wo 0 (gStart (mC n cl) T0 ch0 set) k))
            rw [← hse, if_pos hk]
            unfold kStp
            rw [if_neg (fun q => by obtain ⟨x1, x2, x3⟩ := kDue_of q; rw [ero5, edp, Int.toNat_natCast] at x1; rw [ero, Int.toNat_natCast] at x2 x3; omega)]
          refine v_lv [2, 3, 0] rfl ?_
          exact ih_LOOP (k + 1) (σv) (Sv) (Qv) (s) (by omega) hsn (by omega) hP hQv h15 hG hFr hSk
  refine v_lv [1, 2, 0] rfl ?_
  exact LOOP _ (0) (σ10) (S14) (Q15) ((gStart (mC n cl) T0 ch0 set)) (Nat.lt_succ_self _) rfl (Nat.zero_le _) a13P a13Q (by rw [eS14, va_up_self]; rfl) (by rw [eQ15]; exact moG_start (mC n cl) _ T0 ch0 set) a13fr (fun i hi => by rw [eS14, va_up_ne _ _ (by omega), va_up_ne _ _ (by omega)])
