/-! THE REFERENCE LOOKS FOR CUTS; by program -/
set_option maxHeartbeats 1000000 in
set_option maxRecDepth 100000 in
theorem m_Mo_may {G : xG} {f0 : xF} {ad : Nat → Nat} (hj : adOk ad 400) {σ : xF} {n : Nat} {val : Nat → Nat → Int} {cl so : Nat → Nat} {de le wo : Nat} {S : Nat → Int} (hM : pMo G ad σ n val cl so de le wo S) (hD : dTab n val cl so) (set : Nat) (hs : set < 2 ^ n) (c : Nat) (hc : c < 4) (num : Int) (hnum : ir num) (side : Nat) (hsd : side ≤ 1) (hle : le ≤ 10) : ∀ l, gI l G f0 ad 400 y_Mo_may (.code y_Mo_may c_Mo_may 13 (some (.boolean))) rm_Mo_may [.ref (ad 358), .int (iv (((set : Nat) : Int))), .int (iv (((c : Nat) : Int))), .int (iv (num)), .int (iv (((side : Nat) : Int)))] σ (fun z σ' => (((0 ≤ num ∧ kCan so (mK n val) (mLf n val so) set c num.toNat = true) ∧ kMay (mK n val) (mLf n val so) le set c num.toNat side = true) ∧ z = 1 ∧ pMo G ad σ' n val cl so de le wo (va_up (va_up S 8 (kAb (mC n cl) (mK n val) (mLf n val so) set c num.toNat side)) 9 (((kBe (mK n val) (mLf n val so) set c num.toNat side) : Nat) : Int)) ∧ (∀ i, i ≠ 358 → σ' i = σ i)) ∨ (¬ ((0 ≤ num ∧ kCan so (mK n val) (mLf n val so) set c num.toNat = true) ∧ kMay (mK n val) (mLf n val so) le set c num.toNat side = true) ∧ z = 0 ∧ σ' = σ)) := by
  intro l
  refine mI_of (rt := .boolean) (by decide) (Nat.le_of_ble_eq_true rfl) (fun X hX hret => ?_)
  show vV G X 0 0 0 [(0, .ref (ad 358)), (1, .int (iv (((set : Nat) : Int)))), (2, .int (iv (((c : Nat) : Int)))), (3, .int (iv (num))), (4, .int (iv (((side : Nat) : Int))))] [] (ov f0 ad 400 σ)
  obtain ⟨m0, ⟨sf, m1, m1e⟩, ⟨vf, m2, m2e⟩, ⟨cf, m3, m3e⟩⟩ := id hM
  obtain ⟨d1, d2, d3, d4⟩ := id hD
  have hs24 : set < 16777216 := Nat.lt_of_lt_of_le hs (Nat.pow_le_pow_right (by decide) d1 : 2 ^ n ≤ 2 ^ 24)
  refine v_aload_n hX d_Mo_may_0 0 rfl ?_
  refine v_iload_n hX d_Mo_may_1 1 rfl ?_
  refine v_iload_n hX d_Mo_may_2 2 rfl ?_
  refine v_iload_n hX d_Mo_may_3 3 rfl ?_
  refine v_iload hX d_Mo_may_4 4 rfl ?_
  refine g_callVI (As := [.int (iv (((set : Nat) : Int))), .int (iv (((c : Nat) : Int))), .int (iv (num)), .int (iv (((side : Nat) : Int)))]) (st := []) hX hj (i := 358) (by omega) m0 (m_Mo_isCut hj hM hD set hs c hc num hnum side hsd) cl_Mo_111 d_Mo_may_6 rfl ⟨by decide, by decide⟩ ⟨by decide, by decide⟩ (Nat.le_of_ble_eq_true rfl) (fun z1 σ2 hz3 hp4 => ?_)
  obtain ⟨he5, hv6⟩ := hp4
  rw [he5]
  by_cases qc : (side = 1 → nd set (mK n val c) ≠ 0) ∧ 0 ≤ num ∧ kCan so (mK n val) (mLf n val so) set c num.toNat = true
  · have z1e : z1 = 1 := hv6.trans (if_pos qc)
    subst z1e
    have hnl := can_lst qc.2.2
    have hl24 : (kLeft (mK n val) (mLf n val so) set c num.toNat side) < 16777216 := kLeft_lt hs24
    have hr24 : (nd set (kLeft (mK n val) (mLf n val so) set c num.toNat side)) < 16777216 := Nat.lt_of_le_of_lt (nd_le _ _) hs24
    have cl24 := cnt_le (kLeft (mK n val) (mLf n val so) set c num.toNat side)
    have cr24 := cnt_le (nd set (kLeft (mK n val) (mLf n val so) set c num.toNat side))
    refine v_if_ne (tgt := 14) hX d_Mo_may_9 (by decide) (by first | assumption | (unfold ir; omega)) (fun c9 => ?_) (fun c9 => absurd c9 (by omega))
    refine v_aload_n hX d_Mo_may_14 0 rfl ?_
    refine v_iload_n hX d_Mo_may_15 1 rfl ?_
    refine v_iload_n hX d_Mo_may_16 2 rfl ?_
    refine v_iload_n hX d_Mo_may_17 3 rfl ?_
    refine v_iload hX d_Mo_may_18 4 rfl ?_
    refine v_eq (st' := [.int (iv (((side : Nat) : Int))), .int (iv (((num.toNat : Nat) : Int))), .int (iv (((c : Nat) : Int))), .int (iv (((set : Nat) : Int))), .ref (ad 358)]) (by rw [show ((num.toNat : Nat) : Int) = num by omega]) ?_
    refine g_callVI (As := [.int (iv (((set : Nat) : Int))), .int (iv (((c : Nat) : Int))), .int (iv (((num.toNat : Nat) : Int))), .int (iv (((side : Nat) : Int)))]) (st := []) hX hj (i := 358) (by omega) m0 (m_Mo_leftOf hj hM hD set hs c num.toNat side hc hnl hsd) cl_Mo_114 d_Mo_may_20 rfl ⟨by decide, by decide⟩ ⟨by decide, by decide⟩ (Nat.le_of_ble_eq_true rfl) (fun z7 σ8 hz9 hp10 => ?_)
    obtain ⟨he11, hv12⟩ := hp10
    rw [he11]
    subst hv12
    refine v_istore (lv' := [(5, .int (iv ((((kLeft (mK n val) (mLf n val so) set c num.toNat side) : Nat) : Int)))), (0, .ref (ad 358)), (1, .int (iv (((set : Nat) : Int)))), (2, .int (iv (((c : Nat) : Int)))), (3, .int (iv (num))), (4, .int (iv (((side : Nat) : Int))))]) hX d_Mo_may_23 (by decide) rfl ?_
    refine v_iload_n hX d_Mo_may_25 2 rfl ?_
    refine v_iload hX d_Mo_may_26 0 rfl ?_
    refine v_iconst hX (-1) d_Mo_may_28 ?_
    refine v_ixor (z := (-1 - (((kLeft (mK n val) (mLf n val so) set c num.toNat side) : Nat) : Int))) hX d_Mo_may_29 (iv_not ((kLeft (mK n val) (mLf n val so) set c num.toNat side))) ?_
    refine v_iand (z := (((nd set (kLeft (mK n val) (mLf n val so) set c num.toNat side)) : Nat) : Int)) hX d_Mo_may_30 (iv_andnot (set) ((kLeft (mK n val) (mLf n val so) set c num.toNat side))) ?_
    refine v_istore (lv' := [(6, .int (iv ((((nd set (kLeft (mK n val) (mLf n val so) set c num.toNat side)) : Nat) : Int)))), (5, .int (iv ((((kLeft (mK n val) (mLf n val so) set c num.toNat side) : Nat) : Int)))), (0, .ref (ad 358)), (1, .int (iv (((set : Nat) : Int)))), (2, .int (iv (((c : Nat) : Int)))), (3, .int (iv (num))), (4, .int (iv (((side : Nat) : Int))))]) hX d_Mo_may_31 (by decide) rfl ?_
    refine v_aload_n hX d_Mo_may_33 2 rfl ?_
    refine v_iload hX d_Mo_may_34 1 rfl ?_
    refine g_callVI (As := [.int (iv ((((kLeft (mK n val) (mLf n val so) set c num.toNat side) : Nat) : Int)))]) (st := []) hX hj (i := 358) (by omega) m0 (m_Mo_many hj hM hD (kLeft (mK n val) (mLf n val so) set c num.toNat side) (by first | exact hl24 | exact hr24)) cl_Mo_87 d_Mo_may_36 rfl ⟨by decide, by decide⟩ ⟨by decide, by decide⟩ (Nat.le_of_ble_eq_true rfl) (fun z13 σ14 hz15 hp16 => ?_)
    obtain ⟨he17, hv18⟩ := hp16
    rw [he17]
    subst hv18
    refine v_i2l hX d_Mo_may_39 (by first | assumption | (unfold ir; omega)) ?_
    refine v_lstore (lv' := [(7, .long (jv ((((cnt (kLeft (mK n val) (mLf n val so) set c num.toNat side)) : Nat) : Int)))), (6, .int (iv ((((nd set (kLeft (mK n val) (mLf n val so) set c num.toNat side)) : Nat) : Int)))), (5, .int (iv ((((kLeft (mK n val) (mLf n val so) set c num.toNat side) : Nat) : Int)))), (0, .ref (ad 358)), (1, .int (iv (((set : Nat) : Int)))), (2, .int (iv (((c : Nat) : Int)))), (3, .int (iv (num))), (4, .int (iv (((side : Nat) : Int))))]) hX d_Mo_may_40 (by decide) rfl ?_
    refine v_aload_n hX d_Mo_may_42 3 rfl ?_
    refine v_iload hX d_Mo_may_43 1 rfl ?_
    refine g_callVI (As := [.int (iv ((((nd set (kLeft (mK n val) (mLf n val so) set c num.toNat side)) : Nat) : Int)))]) (st := []) hX hj (i := 358) (by omega) m0 (m_Mo_many hj hM hD (nd set (kLeft (mK n val) (mLf n val so) set c num.toNat side)) (by first | exact hl24 | exact hr24)) cl_Mo_87 d_Mo_may_45 rfl ⟨by decide, by decide⟩ ⟨by decide, by decide⟩ (Nat.le_of_ble_eq_true rfl) (fun z19 σ20 hz21 hp22 => ?_)
    obtain ⟨he23, hv24⟩ := hp22
    rw [he23]
    subst hv24
    refine v_i2l hX d_Mo_may_48 (by first | assumption | (unfold ir; omega)) ?_
    refine v_lstore (lv' := [(9, .long (jv ((((cnt (nd set (kLeft (mK n val) (mLf n val so) set c num.toNat side))) : Nat) : Int)))), (7, .long (jv ((((cnt (kLeft (mK n val) (mLf n val so) set c num.toNat side)) : Nat) : Int)))), (6, .int (iv ((((nd set (kLeft (mK n val) (mLf n val so) set c num.toNat side)) : Nat) : Int)))), (5, .int (iv ((((kLeft (mK n val) (mLf n val so) set c num.toNat side) : Nat) : Int)))), (0, .ref (ad 358)), (1, .int (iv (((set : Nat) : Int)))), (2, .int (iv (((c : Nat) : Int)))), (3, .int (iv (num))), (4, .int (iv (((side : Nat) : Int))))]) hX d_Mo_may_49 (by decide) rfl ?_
    refine v_lload hX d_Mo_may_51 1 rfl ?_
    refine v_lload hX d_Mo_may_53 0 rfl ?_
    refine v_ladd hX d_Mo_may_55 ?_
    refine v_lstore (lv' := [(11, .long (jv (((((cnt (kLeft (mK n val) (mLf n val so) set c num.toNat side)) : Nat) : Int) + (((cnt (nd set (kLeft (mK n val) (mLf n val so) set c num.toNat side))) : Nat) : Int))))), (9, .long (jv ((((cnt (nd set (kLeft (mK n val) (mLf n val so) set c num.toNat side))) : Nat) : Int)))), (7, .long (jv ((((cnt (kLeft (mK n val) (mLf n val so) set c num.toNat side)) : Nat) : Int)))), (6, .int (iv ((((nd set (kLeft (mK n val) (mLf n val so) set c num.toNat side)) : Nat) : Int)))), (5, .int (iv ((((kLeft (mK n val) (mLf n val so) set c num.toNat side) : Nat) : Int)))), (0, .ref (ad 358)), (1, .int (iv (((set : Nat) : Int)))), (2, .int (iv (((c : Nat) : Int)))), (3, .int (iv (num))), (4, .int (iv (((side : Nat) : Int))))]) hX d_Mo_may_56 (by decide) rfl ?_
    refine v_lload hX d_Mo_may_58 2 rfl ?_
    refine v_aload_n hX d_Mo_may_60 5 rfl ?_
    refine g_get (i := 358) hX hj fl_Mo_23 d_Mo_may_61 (by omega) m0 rfl ?_
    refine v_i2l hX d_Mo_may_64 (by first | assumption | (unfold ir; omega)) ?_
    refine v_lcmp hX d_Mo_may_65 (by unfold jr; omega) (by unfold jr; omega) ?_
    obtain ⟨z25, hz25, hz25r, hz25a, hz25b, hz25c⟩ := cmp_ex ((((cnt (kLeft (mK n val) (mLf n val so) set c num.toNat side)) : Nat) : Int)) (((le : Nat) : Int))
    rw [← hz25]
    refine v_if_lt (tgt := 80) hX d_Mo_may_66 (by decide) (by first | assumption | (unfold ir; omega)) (fun c66_2 => ?_) (fun c66_2 => ?_)
    · refine v_iconst hX (0) d_Mo_may_80 ?_
      exact hret _ _ _ _ d_Mo_may_81 (by unfold ir; omega) ⟨_, rfl, Or.inr ⟨(fun q => by obtain ⟨x1, x2, x3⟩ := kMay_of q.2; first | exact qc ⟨x1, q.1⟩ | omega), rfl, rfl⟩⟩ rfl
    · refine v_lload hX d_Mo_may_69 1 rfl ?_
      refine v_aload_n hX d_Mo_may_71 5 rfl ?_
      refine g_get (i := 358) hX hj fl_Mo_23 d_Mo_may_72 (by omega) m0 rfl ?_
      refine v_i2l hX d_Mo_may_75 (by first | assumption | (unfold ir; omega)) ?_
      refine v_lcmp hX d_Mo_may_76 (by unfold jr; omega) (by unfold jr; omega) ?_
      obtain ⟨z26, hz26, hz26r, hz26a, hz26b, hz26c⟩ := cmp_ex ((((cnt (nd set (kLeft (mK n val) (mLf n val so) set c num.toNat side))) : Nat) : Int)) (((le : Nat) : Int))
      rw [← hz26]
      refine v_if_ge (tgt := 82) hX d_Mo_may_77 (by decide) (by first | assumption | (unfold ir; omega)) (fun c77_3 => ?_) (fun c77_3 => ?_)
      · refine v_aload_n hX d_Mo_may_82 5 rfl ?_
        refine v_aload_n hX d_Mo_may_83 5 rfl ?_
        refine v_iload hX d_Mo_may_84 4 rfl ?_
        refine g_callVL (As := [.int (iv ((((kLeft (mK n val) (mLf n val so) set c num.toNat side) : Nat) : Int)))]) (st := [.ref (ad 358)]) hX hj (i := 358) (by omega) m0 (m_Mo_squares hj hM hD (kLeft (mK n val) (mLf n val so) set c num.toNat side) (by first | exact hl24 | exact hr24 | exact hs24)) cl_Mo_118 d_Mo_may_86 rfl ⟨by decide, by decide⟩ ⟨by decide, by decide⟩ (Nat.le_of_ble_eq_true rfl) (fun z27 σ28 hz29 hp30 => ?_)
        obtain ⟨he31, hv32⟩ := hp30
        rw [he31]
        subst hv32
        refine v_lload hX d_Mo_may_89 1 rfl ?_
        refine v_lmul hX d_Mo_may_91 ?_
        refine v_lload hX d_Mo_may_92 0 rfl ?_
        refine v_lmul hX d_Mo_may_94 ?_
        refine v_aload_n hX d_Mo_may_95 5 rfl ?_
        refine v_iload hX d_Mo_may_96 3 rfl ?_
        refine g_callVL (As := [.int (iv ((((nd set (kLeft (mK n val) (mLf n val so) set c num.toNat side)) : Nat) : Int)))]) (st := [.long (jv ((((((kSq (mC n cl) (kLeft (mK n val) (mLf n val so) set c num.toNat side)) : Nat) : Int) * (((cnt (nd set (kLeft (mK n val) (mLf n val so) set c num.toNat side))) : Nat) : Int)) * ((((cnt (kLeft (mK n val) (mLf n val so) set c num.toNat side)) : Nat) : Int) + (((cnt (nd set (kLeft (mK n val) (mLf n val so) set c num.toNat side))) : Nat) : Int))))), .ref (ad 358)]) hX hj (i := 358) (by omega) m0 (m_Mo_squares hj hM hD (nd set (kLeft (mK n val) (mLf n val so) set c num.toNat side)) (by first | exact hl24 | exact hr24 | exact hs24)) cl_Mo_118 d_Mo_may_98 rfl ⟨by decide, by decide⟩ ⟨by decide, by decide⟩ (Nat.le_of_ble_eq_true rfl) (fun z33 σ34 hz35 hp36 => ?_)
        obtain ⟨he37, hv38⟩ := hp36
        rw [he37]
        subst hv38
        refine v_lload hX d_Mo_may_101 2 rfl ?_
        refine v_lmul hX d_Mo_may_103 ?_
        refine v_lload hX d_Mo_may_104 0 rfl ?_
        refine v_lmul hX d_Mo_may_106 ?_
        refine v_ladd hX d_Mo_may_107 ?_
        refine v_aload_n hX d_Mo_may_108 5 rfl ?_
        refine v_iload_n hX d_Mo_may_109 6 rfl ?_
        refine g_callVL (As := [.int (iv (((set : Nat) : Int)))]) (st := [.long (jv (((((((kSq (mC n cl) (kLeft (mK n val) (mLf n val so) set c num.toNat side)) : Nat) : Int) * (((cnt (nd set (kLeft (mK n val) (mLf n val so) set c num.toNat side))) : Nat) : Int)) * ((((cnt (kLeft (mK n val) (mLf n val so) set c num.toNat side)) : Nat) : Int) + (((cnt (nd set (kLeft (mK n val) (mLf n val so) set c num.toNat side))) : Nat) : Int))) + (((((kSq (mC n cl) (nd set (kLeft (mK n val) (mLf n val so) set c num.toNat side))) : Nat) : Int) * (((cnt (kLeft (mK n val) (mLf n val so) set c num.toNat side)) : Nat) : Int)) * ((((cnt (kLeft (mK n val) (mLf n val so) set c num.toNat side)) : Nat) : Int) + (((cnt (nd set (kLeft (mK n val) (mLf n val so) set c num.toNat side))) : Nat) : Int)))))), .ref (ad 358)]) hX hj (i := 358) (by omega) m0 (m_Mo_squares hj hM hD set (by first | exact hl24 | exact hr24 | exact hs24)) cl_Mo_118 d_Mo_may_110 rfl ⟨by decide, by decide⟩ ⟨by decide, by decide⟩ (Nat.le_of_ble_eq_true rfl) (fun z39 σ40 hz41 hp42 => ?_)
        obtain ⟨he43, hv44⟩ := hp42
        rw [he43]
        subst hv44
        refine v_lload hX d_Mo_may_113 2 rfl ?_
        refine v_lmul hX d_Mo_may_115 ?_
        refine v_lload hX d_Mo_may_116 1 rfl ?_
        refine v_lmul hX d_Mo_may_118 ?_
        refine v_lsub hX d_Mo_may_119 ?_
        refine v_topl (x' := jv (kAb (mC n cl) (mK n val) (mLf n val so) set c num.toNat side)) (congrArg jv (kAb_x _ _ _ _ _)) ?_
        refine g_put (i := 358) (fs' := [.ref (ad 359), .int (iv (((n : Nat) : Int))), .ref (ad 360), .ref (ad 361), .int (iv (((de : Nat) : Int))), .int (iv (((le : Nat) : Int))), .int (iv (((wo : Nat) : Int))), .int (iv ((S 7))), .long (jv ((kAb (mC n cl) (mK n val) (mLf n val so) set c num.toNat side))), .long (jv ((S 9))), .int (iv ((S 10))), .int (iv ((S 11))), .int (iv ((S 12))), .long (jv ((S 13))), .long (jv ((S 14))), .int (iv ((S 15))), .ref (ad 362), .ref (ad 363), .ref (ad 364), .ref (ad 365), .ref (ad 366), .ref (ad 367), .ref (ad 368), .ref (ad 369), .ref (ad 370), .ref (ad 371), .int (iv ((S 26))), .ref (ad 372), .ref (ad 373), .ref (ad 374), .ref (ad 375), .int (iv ((S 31))), .int (iv ((S 32)))]) hX hj pf_Mo_122 d_Mo_may_120 (by omega) m0 rfl rfl (Nat.le_of_ble_eq_true rfl) rfl ?_
        obtain ⟨σ45, hs46⟩ : ∃ s9, s9 = va_up σ (358) (eO 9 [.ref (ad 359), .int (iv (((n : Nat) : Int))), .ref (ad 360), .ref (ad 361), .int (iv (((de : Nat) : Int))), .int (iv (((le : Nat) : Int))), .int (iv (((wo : Nat) : Int))), .int (iv ((S 7))), .long (jv ((kAb (mC n cl) (mK n val) (mLf n val so) set c num.toNat side))), .long (jv ((S 9))), .int (iv ((S 10))), .int (iv ((S 11))), .int (iv ((S 12))), .long (jv ((S 13))), .long (jv ((S 14))), .int (iv ((S 15))), .ref (ad 362), .ref (ad 363), .ref (ad 364), .ref (ad 365), .ref (ad 366), .ref (ad 367), .ref (ad 368), .ref (ad 369), .ref (ad 370), .ref (ad 371), .int (iv ((S 26))), .ref (ad 372), .ref (ad 373), .ref (ad 374), .ref (ad 375), .int (iv ((S 31))), .int (iv ((S 32)))]) := ⟨_, rfl⟩
        rw [← hs46]
        have hf48 := (show σ45 (359) = σ (359) by rw [hs46, va_up_ne _ _ (by omega)]).trans m1
        have hf49 := (show σ45 (360) = σ (360) by rw [hs46, va_up_ne _ _ (by omega)]).trans m2
        have hf50 := (show σ45 (361) = σ (361) by rw [hs46, va_up_ne _ _ (by omega)]).trans m3
        have hf51 : σ45 (358) = (eO 9 [.ref (ad 359), .int (iv (((n : Nat) : Int))), .ref (ad 360), .ref (ad 361), .int (iv (((de : Nat) : Int))), .int (iv (((le : Nat) : Int))), .int (iv (((wo : Nat) : Int))), .int (iv ((S 7))), .long (jv ((kAb (mC n cl) (mK n val) (mLf n val so) set c num.toNat side))), .long (jv ((S 9))), .int (iv ((S 10))), .int (iv ((S 11))), .int (iv ((S 12))), .long (jv ((S 13))), .long (jv ((S 14))), .int (iv ((S 15))), .ref (ad 362), .ref (ad 363), .ref (ad 364), .ref (ad 365), .ref (ad 366), .ref (ad 367), .ref (ad 368), .ref (ad 369), .ref (ad 370), .ref (ad 371), .int (iv ((S 26))), .ref (ad 372), .ref (ad 373), .ref (ad 374), .ref (ad 375), .int (iv ((S 31))), .int (iv ((S 32)))]) := by rw [hs46, va_up_self]
        refine v_aload_n hX d_Mo_may_123 5 rfl ?_
        refine v_lload hX d_Mo_may_124 2 rfl ?_
        refine v_lload hX d_Mo_may_126 1 rfl ?_
        refine v_lmul hX d_Mo_may_128 ?_
        refine v_lload hX d_Mo_may_129 0 rfl ?_
        refine v_lmul hX d_Mo_may_131 ?_
        refine v_topl (x' := jv (((kBe (mK n val) (mLf n val so) set c num.toNat side) : Nat) : Int)) (congrArg jv (by unfold kBe; simp only [Int.natCast_mul, Int.natCast_add])) ?_
        refine g_put (i := 358) (fs' := [.ref (ad 359), .int (iv (((n : Nat) : Int))), .ref (ad 360), .ref (ad 361), .int (iv (((de : Nat) : Int))), .int (iv (((le : Nat) : Int))), .int (iv (((wo : Nat) : Int))), .int (iv ((S 7))), .long (jv ((kAb (mC n cl) (mK n val) (mLf n val so) set c num.toNat side))), .long (jv ((((kBe (mK n val) (mLf n val so) set c num.toNat side) : Nat) : Int))), .int (iv ((S 10))), .int (iv ((S 11))), .int (iv ((S 12))), .long (jv ((S 13))), .long (jv ((S 14))), .int (iv ((S 15))), .ref (ad 362), .ref (ad 363), .ref (ad 364), .ref (ad 365), .ref (ad 366), .ref (ad 367), .ref (ad 368), .ref (ad 369), .ref (ad 370), .ref (ad 371), .int (iv ((S 26))), .ref (ad 372), .ref (ad 373), .ref (ad 374), .ref (ad 375), .int (iv ((S 31))), .int (iv ((S 32)))]) hX hj pf_Mo_126 d_Mo_may_132 (by omega) hf51 rfl rfl (Nat.le_of_ble_eq_true rfl) rfl ?_
        obtain ⟨σ52, hs53⟩ : ∃ s9, s9 = va_up σ45 (358) (eO 9 [.ref (ad 359), .int (iv (((n : Nat) : Int))), .ref (ad 360), .ref (ad 361), .int (iv (((de : Nat) : Int))), .int (iv (((le : Nat) : Int))), .int (iv (((wo : Nat) : Int))), .int (iv ((S 7))), .long (jv ((kAb (mC n cl) (mK n val) (mLf n val so) set c num.toNat side))), .long (jv ((((kBe (mK n val) (mLf n val so) set c num.toNat side) : Nat) : Int))), .int (iv ((S 10))), .int (iv ((S 11))), .int (iv ((S 12))), .long (jv ((S 13))), .long (jv ((S 14))), .int (iv ((S 15))), .ref (ad 362), .ref (ad 363), .ref (ad 364), .ref (ad 365), .ref (ad 366), .ref (ad 367), .ref (ad 368), .ref (ad 369), .ref (ad 370), .ref (ad 371), .int (iv ((S 26))), .ref (ad 372), .ref (ad 373), .ref (ad 374), .ref (ad 375), .int (iv ((S 31))), .int (iv ((S 32)))]) := ⟨_, rfl⟩
        rw [← hs53]
        have hf54 := (show σ52 (359) = σ45 (359) by rw [hs53, va_up_ne _ _ (by omega)]).trans hf48
        have hf55 := (show σ52 (360) = σ45 (360) by rw [hs53, va_up_ne _ _ (by omega)]).trans hf49
        have hf56 := (show σ52 (361) = σ45 (361) by rw [hs53, va_up_ne _ _ (by omega)]).trans hf50
        have hf58 : σ52 (358) = (eO 9 [.ref (ad 359), .int (iv (((n : Nat) : Int))), .ref (ad 360), .ref (ad 361), .int (iv (((de : Nat) : Int))), .int (iv (((le : Nat) : Int))), .int (iv (((wo : Nat) : Int))), .int (iv ((S 7))), .long (jv ((kAb (mC n cl) (mK n val) (mLf n val so) set c num.toNat side))), .long (jv ((((kBe (mK n val) (mLf n val so) set c num.toNat side) : Nat) : Int))), .int (iv ((S 10))), .int (iv ((S 11))), .int (iv ((S 12))), .long (jv ((S 13))), .long (jv ((S 14))), .int (iv ((S 15))), .ref (ad 362), .ref (ad 363), .ref (ad 364), .ref (ad 365), .ref (ad 366), .ref (ad 367), .ref (ad 368), .ref (ad 369), .ref (ad 370), .ref (ad 371), .int (iv ((S 26))), .ref (ad 372), .ref (ad 373), .ref (ad 374), .ref (ad 375), .int (iv ((S 31))), .int (iv ((S 32)))]) := by rw [hs53, va_up_self]
        refine v_iconst hX (1) d_Mo_may_135 ?_
        have hfr : ∀ i, i ≠ 358 → σ52 i = σ i := fun i i1 => by rw [hs53, va_up_ne _ _ i1, hs46, va_up_ne _ _ i1]
        have hPm : pMo G ad σ52 n val cl so de le wo (va_up (va_up S 8 (kAb (mC n cl) (mK n val) (mLf n val so) set c num.toNat side)) 9 (((kBe (mK n val) (mLf n val so) set c num.toNat side) : Nat) : Int)) := hM.up (by rw [hs53, hs46, bx_uu, va_up_self]; rfl) (hfr 359 (by decide)) (hfr 360 (by decide)) (hfr 361 (by decide))
        exact hret _ _ _ _ d_Mo_may_136 (by unfold ir; omega) ⟨_, rfl, Or.inl ⟨⟨qc.2, kMay_t qc.1 (by omega) (by omega)⟩, rfl, hPm, hfr⟩⟩ rfl
      · refine v_iconst hX (0) d_Mo_may_80 ?_
        exact hret _ _ _ _ d_Mo_may_81 (by unfold ir; omega) ⟨_, rfl, Or.inr ⟨(fun q => by obtain ⟨x1, x2, x3⟩ := kMay_of q.2; first | exact qc ⟨x1, q.1⟩ | omega), rfl, rfl⟩⟩ rfl
  · have z1e : z1 = 0 := hv6.trans (if_neg qc)
    subst z1e
    refine v_if_ne (tgt := 14) hX d_Mo_may_9 (by decide) (by first | assumption | (unfold ir; omega)) (fun c9 => absurd c9 (by omega)) (fun c9 => ?_)
    refine v_iconst hX (0) d_Mo_may_12 ?_
    exact hret _ _ _ _ d_Mo_may_13 (by unfold ir; omega) ⟨_, rfl, Or.inr ⟨(fun q => by obtain ⟨x1, x2, x3⟩ := kMay_of q.2; first | exact qc ⟨x1, q.1⟩ | omega), rfl, rfl⟩⟩ rfl

set_option maxHeartbeats 1000000 in
set_option maxRecDepth 100000 in
theorem m_Mo_findBest {G : xG} {f0 : xF} {ad : Nat → Nat} (hj : adOk ad 400) {σ : xF} {n : Nat} {val : Nat → Nat → Int} {cl so : Nat → Nat} {de le wo : Nat} {S : Nat → Int} (hM : pMo G ad σ n val cl so de le wo S) (hD : dTab n val cl so) (set : Nat) (hs : set < 2 ^ n) (hle : le ≤ 10) (B0 : Int × Int × Int × Int × Int) : ∀ l, gI l G f0 ad 400 y_Mo_findBest (.code y_Mo_findBest c_Mo_findBest 6 (some (.boolean))) rm_Mo_findBest [.ref (ad 358), .int (iv (((set : Nat) : Int)))] σ (fun z σ' => ∃ Sv B, B = lk0 so (mC n cl) (mK n val) (mLf n val so) le set 4 (0, B0) ∧ fbI G ad σ σ' n val cl so de le wo S Sv B ∧ z = pI (0 < B.1)) := by
  intro l
  refine mI_of (rt := .boolean) (by decide) (Nat.le_of_ble_eq_true rfl) (fun X hX hret => ?_)
  show vV G X 0 0 0 [(0, .ref (ad 358)), (1, .int (iv (((set : Nat) : Int))))] [] (ov f0 ad 400 σ)
  obtain ⟨m0, ⟨sf, m1, m1e⟩, ⟨vf, m2, m2e⟩, ⟨cf, m3, m3e⟩⟩ := id hM
  obtain ⟨d1, d2, d3, d4⟩ := id hD
  have hs24 : set < 16777216 := Nat.lt_of_lt_of_le hs (Nat.pow_le_pow_right (by decide) d1 : 2 ^ n ≤ 2 ^ 24)
  refine v_iconst hX (0) d_Mo_findBest_0 ?_
  refine v_istore_n (lv' := [(2, .int (iv (0))), (0, .ref (ad 358)), (1, .int (iv (((set : Nat) : Int))))]) hX d_Mo_findBest_1 rfl (by decide) rfl ?_
  refine v_iconst hX (0) d_Mo_findBest_2 ?_
  refine v_istore_n (lv' := [(3, .int (iv (0))), (2, .int (iv (0))), (0, .ref (ad 358)), (1, .int (iv (((set : Nat) : Int))))]) hX d_Mo_findBest_3 rfl (by decide) rfl ?_
  have LC : ∀ (fuel : Nat) (c : Nat) (σv : xF) (Sv : Nat → Int) (B : lkB) (y : Int), 4 - c < fuel → (c ≤ 4) → (B = lk0 so (mC n cl) (mK n val) (mLf n val so) le set c (0, B0)) → (fbI G ad σ σv n val cl so de le wo S Sv B) → (y = pI (0 < B.1)) → vV G X 0 0 4 [(0, .ref (ad 358)), (1, .int (iv (((set : Nat) : Int)))), (2, .int (iv (y))), (3, .int (iv (((c : Nat) : Int))))] [] (ov f0 ad 400 σv) := by
    intro fuel
    induction fuel with
    | zero => intro c σv Sv B y hm; exact absurd hm (Nat.not_lt_zero _)
    | succ fuel ih_LC =>
      intro c σv Sv B y hm hc hBe hI hy
      refine v_iload_n hX d_Mo_findBest_4 3 rfl ?_
      refine v_iconst hX (4) d_Mo_findBest_5 ?_
      refine v_icmp_ge (tgt := 120) hX d_Mo_findBest_6 (by decide) (by first | assumption | (unfold ir at *; omega)) (by first | assumption | (unfold ir at *; omega)) (fun c6_1 => ?_) (fun c6_1 => ?_)
      · refine v_iload_n hX d_Mo_findBest_120 2 rfl ?_
        have e : c = 4 := by omega
        subst e
        by_cases q : 0 < B.1
        · have y1 : y = 1 := hy.trans (if_pos q)
          subst y1
          exact hret _ _ _ _ d_Mo_findBest_121 (by unfold ir; omega) ⟨_, rfl, Sv, B, hBe, hI, hy⟩ rfl
        · have y1 : y = 0 := hy.trans (if_neg q)
          subst y1
          exact hret _ _ _ _ d_Mo_findBest_121 (by unfold ir; omega) ⟨_, rfl, Sv, B, hBe, hI, hy⟩ rfl
      · refine v_iconst hX (0) d_Mo_findBest_9 ?_
        refine v_istore (lv' := [(4, .int (iv (0))), (0, .ref (ad 358)), (1, .int (iv (((set : Nat) : Int)))), (2, .int (iv (y))), (3, .int (iv (((c : Nat) : Int))))]) hX d_Mo_findBest_10 (by decide) rfl ?_
        have LN : ∀ (fuel : Nat) (k : Nat) (σw : xF) (Sw : Nat → Int) (Dd : lkB) (y : Int), 100 - k < fuel → (k ≤ 100) → (Dd = lk1 so (mC n cl) (mK n val) (mLf n val so) le set c k B) → (fbI G ad σ σw n val cl so de le wo S Sw Dd) → (y = pI (0 < Dd.1)) → vV G X 0 0 12 [(0, .ref (ad 358)), (1, .int (iv (((set : Nat) : Int)))), (2, .int (iv (y))), (3, .int (iv (((c : Nat) : Int)))), (4, .int (iv (((k : Nat) : Int))))] [] (ov f0 ad 400 σw) := by
          intro fuel
          induction fuel with
          | zero => intro k σw Sw Dd y hm; exact absurd hm (Nat.not_lt_zero _)
          | succ fuel ih_LN =>
            intro k σw Sw Dd y hm hk hDe hI hy
            refine v_iload hX d_Mo_findBest_12 4 rfl ?_
            refine v_bipush hX (100) d_Mo_findBest_14 rfl ?_
            refine v_icmp_ge (tgt := 114) hX d_Mo_findBest_16 (by decide) (by first | assumption | (unfold ir at *; omega)) (by first | assumption | (unfold ir at *; omega)) (fun c16_2 => ?_) (fun c16_2 => ?_)
            · refine v_iincN (a := c) (n := 1) (lv' := [(3, .int (iv ((((c + 1) : Nat) : Int)))), (0, .ref (ad 358)), (1, .int (iv (((set : Nat) : Int)))), (2, .int (iv (y))), (4, .int (iv (((k : Nat) : Int))))]) hX d_Mo_findBest_114 rfl 3 rfl (by decide) rfl ?_
              refine v_goto (tgt := 4) hX d_Mo_findBest_117 (by decide) ?_
              refine v_lv [1, 2, 3, 0] rfl ?_
              exact ih_LC (c + 1) (σw) (Sw) (Dd) (y) (by omega) (by omega) (by have e : k = 100 := (by omega); subst e; rw [hDe, hBe]; show _ = lk2 so (mC n cl) (mK n val) (mLf n val so) le set c 100 (lk1 so (mC n cl) (mK n val) (mLf n val so) le set c 100 (lk0 so (mC n cl) (mK n val) (mLf n val so) le set c (0, B0))); unfold lk2; rw [if_neg (can_100 hD hs (by omega))]) hI hy
            · refine v_iconst hX (0) d_Mo_findBest_19 ?_
              refine v_istore (lv' := [(5, .int (iv (0))), (0, .ref (ad 358)), (1, .int (iv (((set : Nat) : Int)))), (2, .int (iv (y))), (3, .int (iv (((c : Nat) : Int)))), (4, .int (iv (((k : Nat) : Int))))]) hX d_Mo_findBest_20 (by decide) rfl ?_
              have LS : ∀ (fuel : Nat) (d : Nat) (σx : xF) (Sx : Nat → Int) (E : lkB) (y : Int), 2 - d < fuel → (d ≤ 2) → (E = lkT n val cl so le set c k d Dd) → (fbI G ad σ σx n val cl so de le wo S Sx E) → (y = pI (0 < E.1)) → vV G X 0 0 22 [(0, .ref (ad 358)), (1, .int (iv (((set : Nat) : Int)))), (2, .int (iv (y))), (3, .int (iv (((c : Nat) : Int)))), (4, .int (iv (((k : Nat) : Int)))), (5, .int (iv (((d : Nat) : Int))))] [] (ov f0 ad 400 σx) := by
                intro fuel
                induction fuel with
                | zero => intro d σx Sx E y hm; exact absurd hm (Nat.not_lt_zero _)
                | succ fuel ih_LS =>
                  intro d σx Sx E y hm hdd hEe hI hy
                  obtain ⟨i1, i2, i3, i4⟩ := id hI
                  have hyr : ir y := by rw [hy]; exact pI_ir _
                  refine v_iload hX d_Mo_findBest_22 5 rfl ?_
                  refine v_iconst hX (2) d_Mo_findBest_24 ?_
                  refine v_icmp_ge (tgt := 108) hX d_Mo_findBest_25 (by decide) (by first | assumption | (unfold ir at *; omega)) (by first | assumption | (unfold ir at *; omega)) (fun c25_3 => ?_) (fun c25_3 => ?_)
                  · refine v_iincN (a := k) (n := 1) (lv' := [(4, .int (iv ((((k + 1) : Nat) : Int)))), (0, .ref (ad 358)), (1, .int (iv (((set : Nat) : Int)))), (2, .int (iv (y))), (3, .int (iv (((c : Nat) : Int)))), (5, .int (iv (((d : Nat) : Int))))]) hX d_Mo_findBest_108 rfl 4 rfl (by decide) rfl ?_
                    refine v_goto (tgt := 12) hX d_Mo_findBest_111 (by decide) ?_
                    refine v_lv [1, 2, 3, 4, 0] rfl ?_
                    exact ih_LN (k + 1) (σx) (Sx) (E) (y) (by omega) (by omega) (by have e : d = 2 := (by omega); subst e; rw [hEe, lkT_2, hDe]; rfl) hI hy
                  · refine v_aload_n hX d_Mo_findBest_28 0 rfl ?_
                    refine v_iload_n hX d_Mo_findBest_29 1 rfl ?_
                    refine v_iload_n hX d_Mo_findBest_30 3 rfl ?_
                    refine v_iload hX d_Mo_findBest_31 4 rfl ?_
                    refine v_iload hX d_Mo_findBest_33 5 rfl ?_
                    refine g_callVI (As := [.int (iv (((set : Nat) : Int))), .int (iv (((c : Nat) : Int))), .int (iv (((k : Nat) : Int))), .int (iv (((d : Nat) : Int)))]) (st := []) hX hj (i := 358) (by omega) i1.1 (m_Mo_may hj i1 hD set hs c (by omega) (k : Int) (ir_n (by omega)) d (by omega) hle) cl_Mo_129 d_Mo_findBest_35 rfl ⟨by decide, by decide⟩ ⟨by decide, by decide⟩ (Nat.le_of_ble_eq_true rfl) (fun z1 σ2 hz3 hp4 => ?_)
                    rcases hp4 with ⟨m1, m2, m3, m4⟩ | ⟨m1, m2, m3⟩
                    · subst m2
                      rw [Int.toNat_natCast] at m1 m3
                      have hm9 : σ2 358 = eO 9 [.ref (ad 359), .int (iv (((n : Nat) : Int))), .ref (ad 360), .ref (ad 361), .int (iv (((de : Nat) : Int))), .int (iv (((le : Nat) : Int))), .int (iv (((wo : Nat) : Int))), .int (iv ((Sx 7))), .long (jv ((kAb (mC n cl) (mK n val) (mLf n val so) set c k d))), .long (jv ((((kBe (mK n val) (mLf n val so) set c k d) : Nat) : Int))), .int (iv ((Sx 10))), .int (iv ((Sx 11))), .int (iv ((Sx 12))), .long (jv ((Sx 13))), .long (jv ((Sx 14))), .int (iv ((Sx 15))), .ref (ad 362), .ref (ad 363), .ref (ad 364), .ref (ad 365), .ref (ad 366), .ref (ad 367), .ref (ad 368), .ref (ad 369), .ref (ad 370), .ref (ad 371), .int (iv ((Sx 26))), .ref (ad 372), .ref (ad 373), .ref (ad 374), .ref (ad 375), .int (iv ((Sx 31))), .int (iv ((Sx 32)))] := m3.1
                      have rab : ir (kAb (mC n cl) (mK n val) (mLf n val so) set c k d) := kAb_ir _ _ _ _ _ _ _
                      have rbe : ir (((kBe (mK n val) (mLf n val so) set c k d) : Nat) : Int) := ir_n (by have := kBe_le (mK n val) (mLf n val so) set c k d; omega)
                      refine v_if_eq (tgt := 102) hX d_Mo_findBest_38 (by decide) (by first | assumption | (unfold ir at *; omega)) (fun c9 => absurd c9 (by omega)) (fun c9 => ?_)
                      refine v_iload_n hX d_Mo_findBest_41 2 rfl ?_
                      refine v_if_eq (tgt := 67) hX d_Mo_findBest_42 (by decide) (by first | assumption | (unfold ir at *; omega)) (fun c42_5 => ?_) (fun c42_5 => ?_)
                      · refine v_iconst hX (1) d_Mo_findBest_67 ?_
                        refine v_istore_n (lv' := [(2, .int (iv (1))), (0, .ref (ad 358)), (1, .int (iv (((set : Nat) : Int)))), (3, .int (iv (((c : Nat) : Int)))), (4, .int (iv (((k : Nat) : Int)))), (5, .int (iv (((d : Nat) : Int))))]) hX d_Mo_findBest_68 rfl (by decide) rfl ?_
                        refine v_aload_n hX d_Mo_findBest_69 1 rfl ?_
                        refine v_iload_n hX d_Mo_findBest_70 3 rfl ?_
                        refine g_put (i := 358) (fs' := [.ref (ad 359), .int (iv (((n : Nat) : Int))), .ref (ad 360), .ref (ad 361), .int (iv (((de : Nat) : Int))), .int (iv (((le : Nat) : Int))), .int (iv (((wo : Nat) : Int))), .int (iv ((Sx 7))), .long (jv ((kAb (mC n cl) (mK n val) (mLf n val so) set c k d))), .long (jv ((((kBe (mK n val) (mLf n val so) set c k d) : Nat) : Int))), .int (iv (((c : Nat) : Int))), .int (iv ((Sx 11))), .int (iv ((Sx 12))), .long (jv ((Sx 13))), .long (jv ((Sx 14))), .int (iv ((Sx 15))), .ref (ad 362), .ref (ad 363), .ref (ad 364), .ref (ad 365), .ref (ad 366), .ref (ad 367), .ref (ad 368), .ref (ad 369), .ref (ad 370), .ref (ad 371), .int (iv ((Sx 26))), .ref (ad 372), .ref (ad 373), .ref (ad 374), .ref (ad 375), .int (iv ((Sx 31))), .int (iv ((Sx 32)))]) hX hj pf_Mo_138 d_Mo_findBest_71 (by omega) hm9 rfl rfl (Nat.le_of_ble_eq_true rfl) rfl ?_
                        obtain ⟨σ5, hs6⟩ : ∃ s9, s9 = va_up σ2 (358) (eO 9 [.ref (ad 359), .int (iv (((n : Nat) : Int))), .ref (ad 360), .ref (ad 361), .int (iv (((de : Nat) : Int))), .int (iv (((le : Nat) : Int))), .int (iv (((wo : Nat) : Int))), .int (iv ((Sx 7))), .long (jv ((kAb (mC n cl) (mK n val) (mLf n val so) set c k d))), .long (jv ((((kBe (mK n val) (mLf n val so) set c k d) : Nat) : Int))), .int (iv (((c : Nat) : Int))), .int (iv ((Sx 11))), .int (iv ((Sx 12))), .long (jv ((Sx 13))), .long (jv ((Sx 14))), .int (iv ((Sx 15))), .ref (ad 362), .ref (ad 363), .ref (ad 364), .ref (ad 365), .ref (ad 366), .ref (ad 367), .ref (ad 368), .ref (ad 369), .ref (ad 370), .ref (ad 371), .int (iv ((Sx 26))), .ref (ad 372), .ref (ad 373), .ref (ad 374), .ref (ad 375), .int (iv ((Sx 31))), .int (iv ((Sx 32)))]) := ⟨_, rfl⟩
                        rw [← hs6]
                        have hf8 : σ5 (358) = (eO 9 [.ref (ad 359), .int (iv (((n : Nat) : Int))), .ref (ad 360), .ref (ad 361), .int (iv (((de : Nat) : Int))), .int (iv (((le : Nat) : Int))), .int (iv (((wo : Nat) : Int))), .int (iv ((Sx 7))), .long (jv ((kAb (mC n cl) (mK n val) (mLf n val so) set c k d))), .long (jv ((((kBe (mK n val) (mLf n val so) set c k d) : Nat) : Int))), .int (iv (((c : Nat) : Int))), .int (iv ((Sx 11))), .int (iv ((Sx 12))), .long (jv ((Sx 13))), .long (jv ((Sx 14))), .int (iv ((Sx 15))), .ref (ad 362), .ref (ad 363), .ref (ad 364), .ref (ad 365), .ref (ad 366), .ref (ad 367), .ref (ad 368), .ref (ad 369), .ref (ad 370), .ref (ad 371), .int (iv ((Sx 26))), .ref (ad 372), .ref (ad 373), .ref (ad 374), .ref (ad 375), .int (iv ((Sx 31))), .int (iv ((Sx 32)))]) := by rw [hs6, va_up_self]
                        refine v_aload_n hX d_Mo_findBest_74 1 rfl ?_
                        refine v_iload hX d_Mo_findBest_75 4 rfl ?_
                        refine g_put (i := 358) (fs' := [.ref (ad 359), .int (iv (((n : Nat) : Int))), .ref (ad 360), .ref (ad 361), .int (iv (((de : Nat) : Int))), .int (iv (((le : Nat) : Int))), .int (iv (((wo : Nat) : Int))), .int (iv ((Sx 7))), .long (jv ((kAb (mC n cl) (mK n val) (mLf n val so) set c k d))), .long (jv ((((kBe (mK n val) (mLf n val so) set c k d) : Nat) : Int))), .int (iv (((c : Nat) : Int))), .int (iv (((k : Nat) : Int))), .int (iv ((Sx 12))), .long (jv ((Sx 13))), .long (jv ((Sx 14))), .int (iv ((Sx 15))), .ref (ad 362), .ref (ad 363), .ref (ad 364), .ref (ad 365), .ref (ad 366), .ref (ad 367), .ref (ad 368), .ref (ad 369), .ref (ad 370), .ref (ad 371), .int (iv ((Sx 26))), .ref (ad 372), .ref (ad 373), .ref (ad 374), .ref (ad 375), .int (iv ((Sx 31))), .int (iv ((Sx 32)))]) hX hj pf_Mo_141 d_Mo_findBest_77 (by omega) hf8 rfl rfl (Nat.le_of_ble_eq_true rfl) rfl ?_
                        obtain ⟨σ9, hs10⟩ : ∃ s9, s9 = va_up σ5 (358) (eO 9 [.ref (ad 359), .int (iv (((n : Nat) : Int))), .ref (ad 360), .ref (ad 361), .int (iv (((de : Nat) : Int))), .int (iv (((le : Nat) : Int))), .int (iv (((wo : Nat) : Int))), .int (iv ((Sx 7))), .long (jv ((kAb (mC n cl) (mK n val) (mLf n val so) set c k d))), .long (jv ((((kBe (mK n val) (mLf n val so) set c k d) : Nat) : Int))), .int (iv (((c : Nat) : Int))), .int (iv (((k : Nat) : Int))), .int (iv ((Sx 12))), .long (jv ((Sx 13))), .long (jv ((Sx 14))), .int (iv ((Sx 15))), .ref (ad 362), .ref (ad 363), .ref (ad 364), .ref (ad 365), .ref (ad 366), .ref (ad 367), .ref (ad 368), .ref (ad 369), .ref (ad 370), .ref (ad 371), .int (iv ((Sx 26))), .ref (ad 372), .ref (ad 373), .ref (ad 374), .ref (ad 375), .int (iv ((Sx 31))), .int (iv ((Sx 32)))]) := ⟨_, rfl⟩
                        rw [← hs10]
                        have hf12 : σ9 (358) = (eO 9 [.ref (ad 359), .int (iv (((n : Nat) : Int))), .ref (ad 360), .ref (ad 361), .int (iv (((de : Nat) : Int))), .int (iv (((le : Nat) : Int))), .int (iv (((wo : Nat) : Int))), .int (iv ((Sx 7))), .long (jv ((kAb (mC n cl) (mK n val) (mLf n val so) set c k d))), .long (jv ((((kBe (mK n val) (mLf n val so) set c k d) : Nat) : Int))), .int (iv (((c : Nat) : Int))), .int (iv (((k : Nat) : Int))), .int (iv ((Sx 12))), .long (jv ((Sx 13))), .long (jv ((Sx 14))), .int (iv ((Sx 15))), .ref (ad 362), .ref (ad 363), .ref (ad 364), .ref (ad 365), .ref (ad 366), .ref (ad 367), .ref (ad 368), .ref (ad 369), .ref (ad 370), .ref (ad 371), .int (iv ((Sx 26))), .ref (ad 372), .ref (ad 373), .ref (ad 374), .ref (ad 375), .int (iv ((Sx 31))), .int (iv ((Sx 32)))]) := by rw [hs10, va_up_self]
                        refine v_aload_n hX d_Mo_findBest_80 1 rfl ?_
                        refine v_iload hX d_Mo_findBest_81 5 rfl ?_
                        refine g_put (i := 358) (fs' := [.ref (ad 359), .int (iv (((n : Nat) : Int))), .ref (ad 360), .ref (ad 361), .int (iv (((de : Nat) : Int))), .int (iv (((le : Nat) : Int))), .int (iv (((wo : Nat) : Int))), .int (iv ((Sx 7))), .long (jv ((kAb (mC n cl) (mK n val) (mLf n val so) set c k d))), .long (jv ((((kBe (mK n val) (mLf n val so) set c k d) : Nat) : Int))), .int (iv (((c : Nat) : Int))), .int (iv (((k : Nat) : Int))), .int (iv (((d : Nat) : Int))), .long (jv ((Sx 13))), .long (jv ((Sx 14))), .int (iv ((Sx 15))), .ref (ad 362), .ref (ad 363), .ref (ad 364), .ref (ad 365), .ref (ad 366), .ref (ad 367), .ref (ad 368), .ref (ad 369), .ref (ad 370), .ref (ad 371), .int (iv ((Sx 26))), .ref (ad 372), .ref (ad 373), .ref (ad 374), .ref (ad 375), .int (iv ((Sx 31))), .int (iv ((Sx 32)))]) hX hj pf_Mo_144 d_Mo_findBest_83 (by omega) hf12 rfl rfl (Nat.le_of_ble_eq_true rfl) rfl ?_
                        obtain ⟨σ13, hs14⟩ : ∃ s9, s9 = va_up σ9 (358) (eO 9 [.ref (ad 359), .int (iv (((n : Nat) : Int))), .ref (ad 360), .ref (ad 361), .int (iv (((de : Nat) : Int))), .int (iv (((le : Nat) : Int))), .int (iv (((wo : Nat) : Int))), .int (iv ((Sx 7))), .long (jv ((kAb (mC n cl) (mK n val) (mLf n val so) set c k d))), .long (jv ((((kBe (mK n val) (mLf n val so) set c k d) : Nat) : Int))), .int (iv (((c : Nat) : Int))), .int (iv (((k : Nat) : Int))), .int (iv (((d : Nat) : Int))), .long (jv ((Sx 13))), .long (jv ((Sx 14))), .int (iv ((Sx 15))), .ref (ad 362), .ref (ad 363), .ref (ad 364), .ref (ad 365), .ref (ad 366), .ref (ad 367), .ref (ad 368), .ref (ad 369), .ref (ad 370), .ref (ad 371), .int (iv ((Sx 26))), .ref (ad 372), .ref (ad 373), .ref (ad 374), .ref (ad 375), .int (iv ((Sx 31))), .int (iv ((Sx 32)))]) := ⟨_, rfl⟩
                        rw [← hs14]
                        have hf16 : σ13 (358) = (eO 9 [.ref (ad 359), .int (iv (((n : Nat) : Int))), .ref (ad 360), .ref (ad 361), .int (iv (((de : Nat) : Int))), .int (iv (((le : Nat) : Int))), .int (iv (((wo : Nat) : Int))), .int (iv ((Sx 7))), .long (jv ((kAb (mC n cl) (mK n val) (mLf n val so) set c k d))), .long (jv ((((kBe (mK n val) (mLf n val so) set c k d) : Nat) : Int))), .int (iv (((c : Nat) : Int))), .int (iv (((k : Nat) : Int))), .int (iv (((d : Nat) : Int))), .long (jv ((Sx 13))), .long (jv ((Sx 14))), .int (iv ((Sx 15))), .ref (ad 362), .ref (ad 363), .ref (ad 364), .ref (ad 365), .ref (ad 366), .ref (ad 367), .ref (ad 368), .ref (ad 369), .ref (ad 370), .ref (ad 371), .int (iv ((Sx 26))), .ref (ad 372), .ref (ad 373), .ref (ad 374), .ref (ad 375), .int (iv ((Sx 31))), .int (iv ((Sx 32)))]) := by rw [hs14, va_up_self]
                        refine v_aload_n hX d_Mo_findBest_86 1 rfl ?_
                        refine v_aload_n hX d_Mo_findBest_87 1 rfl ?_
                        refine g_get (i := 358) hX hj fl_Mo_122 d_Mo_findBest_88 (by omega) hf16 rfl ?_
                        refine g_put (i := 358) (fs' := [.ref (ad 359), .int (iv (((n : Nat) : Int))), .ref (ad 360), .ref (ad 361), .int (iv (((de : Nat) : Int))), .int (iv (((le : Nat) : Int))), .int (iv (((wo : Nat) : Int))), .int (iv ((Sx 7))), .long (jv ((kAb (mC n cl) (mK n val) (mLf n val so) set c k d))), .long (jv ((((kBe (mK n val) (mLf n val so) set c k d) : Nat) : Int))), .int (iv (((c : Nat) : Int))), .int (iv (((k : Nat) : Int))), .int (iv (((d : Nat) : Int))), .long (jv ((kAb (mC n cl) (mK n val) (mLf n val so) set c k d))), .long (jv ((Sx 14))), .int (iv ((Sx 15))), .ref (ad 362), .ref (ad 363), .ref (ad 364), .ref (ad 365), .ref (ad 366), .ref (ad 367), .ref (ad 368), .ref (ad 369), .ref (ad 370), .ref (ad 371), .int (iv ((Sx 26))), .ref (ad 372), .ref (ad 373), .ref (ad 374), .ref (ad 375), .int (iv ((Sx 31))), .int (iv ((Sx 32)))]) hX hj pf_Mo_135 d_Mo_findBest_91 (by omega) hf16 rfl rfl (Nat.le_of_ble_eq_true rfl) rfl ?_
                        obtain ⟨σ17, hs18⟩ : ∃ s9, s9 = va_up σ13 (358) (eO 9 [.ref (ad 359), .int (iv (((n : Nat) : Int))), .ref (ad 360), .ref (ad 361), .int (iv (((de : Nat) : Int))), .int (iv (((le : Nat) : Int))), .int (iv (((wo : Nat) : Int))), .int (iv ((Sx 7))), .long (jv ((kAb (mC n cl) (mK n val) (mLf n val so) set c k d))), .long (jv ((((kBe (mK n val) (mLf n val so) set c k d) : Nat) : Int))), .int (iv (((c : Nat) : Int))), .int (iv (((k : Nat) : Int))), .int (iv (((d : Nat) : Int))), .long (jv ((kAb (mC n cl) (mK n val) (mLf n val so) set c k d))), .long (jv ((Sx 14))), .int (iv ((Sx 15))), .ref (ad 362), .ref (ad 363), .ref (ad 364), .ref (ad 365), .ref (ad 366), .ref (ad 367), .ref (ad 368), .ref (ad 369), .ref (ad 370), .ref (ad 371), .int (iv ((Sx 26))), .ref (ad 372), .ref (ad 373), .ref (ad 374), .ref (ad 375), .int (iv ((Sx 31))), .int (iv ((Sx 32)))]) := ⟨_, rfl⟩
                        rw [← hs18]
                        have hf20 : σ17 (358) = (eO 9 [.ref (ad 359), .int (iv (((n : Nat) : Int))), .ref (ad 360), .ref (ad 361), .int (iv (((de : Nat) : Int))), .int (iv (((le : Nat) : Int))), .int (iv (((wo : Nat) : Int))), .int (iv ((Sx 7))), .long (jv ((kAb (mC n cl) (mK n val) (mLf n val so) set c k d))), .long (jv ((((kBe (mK n val) (mLf n val so) set c k d) : Nat) : Int))), .int (iv (((c : Nat) : Int))), .int (iv (((k : Nat) : Int))), .int (iv (((d : Nat) : Int))), .long (jv ((kAb (mC n cl) (mK n val) (mLf n val so) set c k d))), .long (jv ((Sx 14))), .int (iv ((Sx 15))), .ref (ad 362), .ref (ad 363), .ref (ad 364), .ref (ad 365), .ref (ad 366), .ref (ad 367), .ref (ad 368), .ref (ad 369), .ref (ad 370), .ref (ad 371), .int (iv ((Sx 26))), .ref (ad 372), .ref (ad 373), .ref (ad 374), .ref (ad 375), .int (iv ((Sx 31))), .int (iv ((Sx 32)))]) := by rw [hs18, va_up_self]
                        refine v_aload_n hX d_Mo_findBest_94 1 rfl ?_
                        refine v_aload_n hX d_Mo_findBest_95 1 rfl ?_
                        refine g_get (i := 358) hX hj fl_Mo_126 d_Mo_findBest_96 (by omega) hf20 rfl ?_
                        refine g_put (i := 358) (fs' := [.ref (ad 359), .int (iv (((n : Nat) : Int))), .ref (ad 360), .ref (ad 361), .int (iv (((de : Nat) : Int))), .int (iv (((le : Nat) : Int))), .int (iv (((wo : Nat) : Int))), .int (iv ((Sx 7))), .long (jv ((kAb (mC n cl) (mK n val) (mLf n val so) set c k d))), .long (jv ((((kBe (mK n val) (mLf n val so) set c k d) : Nat) : Int))), .int (iv (((c : Nat) : Int))), .int (iv (((k : Nat) : Int))), .int (iv (((d : Nat) : Int))), .long (jv ((kAb (mC n cl) (mK n val) (mLf n val so) set c k d))), .long (jv ((((kBe (mK n val) (mLf n val so) set c k d) : Nat) : Int))), .int (iv ((Sx 15))), .ref (ad 362), .ref (ad 363), .ref (ad 364), .ref (ad 365), .ref (ad 366), .ref (ad 367), .ref (ad 368), .ref (ad 369), .ref (ad 370), .ref (ad 371), .int (iv ((Sx 26))), .ref (ad 372), .ref (ad 373), .ref (ad 374), .ref (ad 375), .int (iv ((Sx 31))), .int (iv ((Sx 32)))]) hX hj pf_Mo_132 d_Mo_findBest_99 (by omega) hf20 rfl rfl (Nat.le_of_ble_eq_true rfl) rfl ?_
                        obtain ⟨σ21, hs22⟩ : ∃ s9, s9 = va_up σ17 (358) (eO 9 [.ref (ad 359), .int (iv (((n : Nat) : Int))), .ref (ad 360), .ref (ad 361), .int (iv (((de : Nat) : Int))), .int (iv (((le : Nat) : Int))), .int (iv (((wo : Nat) : Int))), .int (iv ((Sx 7))), .long (jv ((kAb (mC n cl) (mK n val) (mLf n val so) set c k d))), .long (jv ((((kBe (mK n val) (mLf n val so) set c k d) : Nat) : Int))), .int (iv (((c : Nat) : Int))), .int (iv (((k : Nat) : Int))), .int (iv (((d : Nat) : Int))), .long (jv ((kAb (mC n cl) (mK n val) (mLf n val so) set c k d))), .long (jv ((((kBe (mK n val) (mLf n val so) set c k d) : Nat) : Int))), .int (iv ((Sx 15))), .ref (ad 362), .ref (ad 363), .ref (ad 364), .ref (ad 365), .ref (ad 366), .ref (ad 367), .ref (ad 368), .ref (ad 369), .ref (ad 370), .ref (ad 371), .int (iv ((Sx 26))), .ref (ad 372), .ref (ad 373), .ref (ad 374), .ref (ad 375), .int (iv ((Sx 31))), .int (iv ((Sx 32)))]) := ⟨_, rfl⟩
                        rw [← hs22]
                        have hf24 : σ21 (358) = (eO 9 [.ref (ad 359), .int (iv (((n : Nat) : Int))), .ref (ad 360), .ref (ad 361), .int (iv (((de : Nat) : Int))), .int (iv (((le : Nat) : Int))), .int (iv (((wo : Nat) : Int))), .int (iv ((Sx 7))), .long (jv ((kAb (mC n cl) (mK n val) (mLf n val so) set c k d))), .long (jv ((((kBe (mK n val) (mLf n val so) set c k d) : Nat) : Int))), .int (iv (((c : Nat) : Int))), .int (iv (((k : Nat) : Int))), .int (iv (((d : Nat) : Int))), .long (jv ((kAb (mC n cl) (mK n val) (mLf n val so) set c k d))), .long (jv ((((kBe (mK n val) (mLf n val so) set c k d) : Nat) : Int))), .int (iv ((Sx 15))), .ref (ad 362), .ref (ad 363), .ref (ad 364), .ref (ad 365), .ref (ad 366), .ref (ad 367), .ref (ad 368), .ref (ad 369), .ref (ad 370), .ref (ad 371), .int (iv ((Sx 26))), .ref (ad 372), .ref (ad 373), .ref (ad 374), .ref (ad 375), .int (iv ((Sx 31))), .int (iv ((Sx 32)))]) := by rw [hs22, va_up_self]
                        refine v_iincN (a := d) (n := 1) (lv' := [(5, .int (iv ((((d + 1) : Nat) : Int)))), (2, .int (iv (1))), (0, .ref (ad 358)), (1, .int (iv (((set : Nat) : Int)))), (3, .int (iv (((c : Nat) : Int)))), (4, .int (iv (((k : Nat) : Int))))]) hX d_Mo_findBest_102 rfl 5 rfl (by decide) rfl ?_
                        refine v_goto (tgt := 22) hX d_Mo_findBest_105 (by decide) ?_
                        have hfr5 : ∀ i, i ≠ 358 → σ21 i = σx i := (fun i i1 => by rw [hs22, va_up_ne _ _ i1, hs18, va_up_ne _ _ i1, hs14, va_up_ne _ _ i1, hs10, va_up_ne _ _ i1, hs6, va_up_ne _ _ i1]; exact m4 i i1)
                        refine v_lv [2, 3, 1, 4, 5, 0] rfl ?_
                        exact ih_LS (d + 1) (σ21) ((va_up (va_up (va_up (va_up (va_up (va_up (va_up Sx 8 (kAb (mC n cl) (mK n val) (mLf n val so) set c k d)) 9 (((kBe (mK n val) (mLf n val so) set c k d) : Nat) : Int)) 10 ((c : Nat) : Int)) 11 ((k : Nat) : Int)) 12 ((d : Nat) : Int)) 13 (kAb (mC n cl) (mK n val) (mLf n val so) set c k d)) 14 (((kBe (mK n val) (mLf n val so) set c k d) : Nat) : Int))) ((E.1 + 1, (c : Int), (k : Int), (d : Int), (kAb (mC n cl) (mK n val) (mLf n val so) set c k d), ((kBe (mK n val) (mLf n val so) set c k d) : Int))) (1) (by omega) (by omega) (lkT_a m1.1.2 m1.2 hEe (by first | (left; have q9 := pI_0 (by omega : pI (0 < E.1) = 0); omega) | (right; have q9 := i4 (pI_1 (by omega : ¬ pI (0 < E.1) = 0)); rw [← q9.2.2.2.1, ← q9.2.2.2.2.1]; omega))).symm ⟨(m3.up (by rw [hs22, hs18, hs14, hs10, hs6, bx_uu, bx_uu, bx_uu, bx_uu, va_up_self]; rfl) ((hfr5 359 (by decide)).trans (m4 359 (by decide)).symm) ((hfr5 360 (by decide)).trans (m4 360 (by decide)).symm) ((hfr5 361 (by decide)).trans (m4 361 (by decide)).symm)), fun i i1 => (hfr5 i i1).trans (i2 i i1), fun i hi => by rw [va_up_ne _ _ (by omega), va_up_ne _ _ (by omega), va_up_ne _ _ (by omega), va_up_ne _ _ (by omega), va_up_ne _ _ (by omega), va_up_ne _ _ (by omega), va_up_ne _ _ (by omega)]; exact i3 i hi, fun _ => ⟨rfl, rfl, rfl, rfl, rfl, rab, rbe⟩⟩ (pI_t (Nat.succ_pos _))
                      · have q8 := pI_1 (by omega : ¬ pI (0 < E.1) = 0)
                        have q9 := i4 q8
                        have r13 : ir (Sx 13) := by rw [q9.2.2.2.1]; exact q9.2.2.2.2.2.1
                        have r14 : ir (Sx 14) := by rw [q9.2.2.2.2.1]; exact q9.2.2.2.2.2.2
                        refine v_aload_n hX d_Mo_findBest_45 0 rfl ?_
                        refine g_get (i := 358) hX hj fl_Mo_122 d_Mo_findBest_46 (by omega) hm9 rfl ?_
                        refine v_aload_n hX d_Mo_findBest_49 0 rfl ?_
                        refine g_get (i := 358) hX hj fl_Mo_132 d_Mo_findBest_50 (by omega) hm9 rfl ?_
                        refine v_lmul hX d_Mo_findBest_53 ?_
                        refine v_aload_n hX d_Mo_findBest_54 0 rfl ?_
                        refine g_get (i := 358) hX hj fl_Mo_135 d_Mo_findBest_55 (by omega) hm9 rfl ?_
                        refine v_aload_n hX d_Mo_findBest_58 0 rfl ?_
                        refine g_get (i := 358) hX hj fl_Mo_126 d_Mo_findBest_59 (by omega) hm9 rfl ?_
                        refine v_lmul hX d_Mo_findBest_62 ?_
                        refine v_lcmp hX d_Mo_findBest_63 (jr_mul rab r14) (jr_mul r13 rbe) ?_
                        obtain ⟨z25, hz25, hz25r, hz25a, hz25b, hz25c⟩ := cmp_ex (((kAb (mC n cl) (mK n val) (mLf n val so) set c k d) * (Sx 14))) (((Sx 13) * (((kBe (mK n val) (mLf n val so) set c k d) : Nat) : Int)))
                        rw [← hz25]
                        refine v_if_le (tgt := 102) hX d_Mo_findBest_64 (by decide) (by first | assumption | (unfold ir at *; omega)) (fun c64_6 => ?_) (fun c64_6 => ?_)
                        · refine v_iincN (a := d) (n := 1) (lv' := [(5, .int (iv ((((d + 1) : Nat) : Int)))), (0, .ref (ad 358)), (1, .int (iv (((set : Nat) : Int)))), (2, .int (iv (y))), (3, .int (iv (((c : Nat) : Int)))), (4, .int (iv (((k : Nat) : Int))))]) hX d_Mo_findBest_102 rfl 5 rfl (by decide) rfl ?_
                          refine v_goto (tgt := 22) hX d_Mo_findBest_105 (by decide) ?_
                          refine v_lv [1, 2, 3, 4, 5, 0] rfl ?_
                          exact ih_LS (d + 1) (σ2) ((va_up (va_up Sx 8 (kAb (mC n cl) (mK n val) (mLf n val so) set c k d)) 9 (((kBe (mK n val) (mLf n val so) set c k d) : Nat) : Int))) ((E.1 + 1, E.2)) (y) (by omega) (by omega) (lkT_b m1.1.2 m1.2 hEe (fun q => by have q8 := pI_1 (by omega : ¬ pI (0 < E.1) = 0); have q9 := i4 q8; rw [← q9.2.2.2.1, ← q9.2.2.2.2.1] at q; rcases q with q | q <;> omega)).symm ⟨m3, fun i i1 => (m4 i i1).trans (i2 i i1), fun i hi => by rw [va_up_ne _ _ (by omega), va_up_ne _ _ (by omega)]; exact i3 i hi, fun _ => (by have q8 := pI_1 (by omega : ¬ pI (0 < E.1) = 0); have q9 := i4 q8; rw [va_up_ne _ _ (by decide), va_up_ne _ _ (by decide), va_up_ne _ _ (by decide), va_up_ne _ _ (by decide), va_up_ne _ _ (by decide), va_up_ne _ _ (by decide), va_up_ne _ _ (by decide), va_up_ne _ _ (by decide), va_up_ne _ _ (by decide), va_up_ne _ _ (by decide)]; exact q9)⟩ (by rw [hy]; have q8 := pI_1 (by omega : ¬ pI (0 < E.1) = 0); exact (if_pos q8).trans (if_pos (show 0 < E.1 + 1 by omega)).symm)
                        · refine v_iconst hX (1) d_Mo_findBest_67 ?_
                          refine v_istore_n (lv' := [(2, .int (iv (1))), (0, .ref (ad 358)), (1, .int (iv (((set : Nat) : Int)))), (3, .int (iv (((c : Nat) : Int)))), (4, .int (iv (((k : Nat) : Int)))), (5, .int (iv (((d : Nat) : Int))))]) hX d_Mo_findBest_68 rfl (by decide) rfl ?_
                          refine v_aload_n hX d_Mo_findBest_69 1 rfl ?_
                          refine v_iload_n hX d_Mo_findBest_70 3 rfl ?_
                          refine g_put (i := 358) (fs' := [.ref (ad 359), .int (iv (((n : Nat) : Int))), .ref (ad 360), .ref (ad 361), .int (iv (((de : Nat) : Int))), .int (iv (((le : Nat) : Int))), .int (iv (((wo : Nat) : Int))), .int (iv ((Sx 7))), .long (jv ((kAb (mC n cl) (mK n val) (mLf n val so) set c k d))), .long (jv ((((kBe (mK n val) (mLf n val so) set c k d) : Nat) : Int))), .int (iv (((c : Nat) : Int))), .int (iv ((Sx 11))), .int (iv ((Sx 12))), .long (jv ((Sx 13))), .long (jv ((Sx 14))), .int (iv ((Sx 15))), .ref (ad 362), .ref (ad 363), .ref (ad 364), .ref (ad 365), .ref (ad 366), .ref (ad 367), .ref (ad 368), .ref (ad 369), .ref (ad 370), .ref (ad 371), .int (iv ((Sx 26))), .ref (ad 372), .ref (ad 373), .ref (ad 374), .ref (ad 375), .int (iv ((Sx 31))), .int (iv ((Sx 32)))]) hX hj pf_Mo_138 d_Mo_findBest_71 (by omega) hm9 rfl rfl (Nat.le_of_ble_eq_true rfl) rfl ?_
                          obtain ⟨σ26, hs27⟩ : ∃ s9, s9 = va_up σ2 (358) (eO 9 [.ref (ad 359), .int (iv (((n : Nat) : Int))), .ref (ad 360), .ref (ad 361), .int (iv (((de : Nat) : Int))), .int (iv (((le : Nat) : Int))), .int (iv (((wo : Nat) : Int))), .int (iv ((Sx 7))), .long (jv ((kAb (mC n cl) (mK n val) (mLf n val so) set c k d))), .long (jv ((((kBe (mK n val) (mLf n val so) set c k d) : Nat) : Int))), .int (iv (((c : Nat) : Int))), .int (iv ((Sx 11))), .int (iv ((Sx 12))), .long (jv ((Sx 13))), .long (jv ((Sx 14))), .int (iv ((Sx 15))), .ref (ad 362), .ref (ad 363), .ref (ad 364), .ref (ad 365), .ref (ad 366), .ref (ad 367), .ref (ad 368), .ref (ad 369), .ref (ad 370), .ref (ad 371), .int (iv ((Sx 26))), .ref (ad 372), .ref (ad 373), .ref (ad 374), .ref (ad 375), .int (iv ((Sx 31))), .int (iv ((Sx 32)))]) := ⟨_, rfl⟩
                          rw [← hs27]
                          have hf29 : σ26 (358) = (eO 9 [.ref (ad 359), .int (iv (((n : Nat) : Int))), .ref (ad 360), .ref (ad 361), .int (iv (((de : Nat) : Int))), .int (iv (((le : Nat) : Int))), .int (iv (((wo : Nat) : Int))), .int (iv ((Sx 7))), .long (jv ((kAb (mC n cl) (mK n val) (mLf n val so) set c k d))), .long (jv ((((kBe (mK n val) (mLf n val so) set c k d) : Nat) : Int))), .int (iv (((c : Nat) : Int))), .int (iv ((Sx 11))), .int (iv ((Sx 12))), .long (jv ((Sx 13))), .long (jv ((Sx 14))), .int (iv ((Sx 15))), .ref (ad 362), .ref (ad 363), .ref (ad 364), .ref (ad 365), .ref (ad 366), .ref (ad 367), .ref (ad 368), .ref (ad 369), .ref (ad 370), .ref (ad 371), .int (iv ((Sx 26))), .ref (ad 372), .ref (ad 373), .ref (ad 374), .ref (ad 375), .int (iv ((Sx 31))), .int (iv ((Sx 32)))]) := by rw [hs27, va_up_self]
                          refine v_aload_n hX d_Mo_findBest_74 1 rfl ?_
                          refine v_iload hX d_Mo_findBest_75 4 rfl ?_
                          refine g_put (i := 358) (fs' := [.ref (ad 359), .int (iv (((n : Nat) : Int))), .ref (ad 360), .ref (ad 361), .int (iv (((de : Nat) : Int))), .int (iv (((le : Nat) : Int))), .int (iv (((wo : Nat) : Int))), .int (iv ((Sx 7))), .long (jv ((kAb (mC n cl) (mK n val) (mLf n val so) set c k d))), .long (jv ((((kBe (mK n val) (mLf n val so) set c k d) : Nat) : Int))), .int (iv (((c : Nat) : Int))), .int (iv (((k : Nat) : Int))), .int (iv ((Sx 12))), .long (jv ((Sx 13))), .long (jv ((Sx 14))), .int (iv ((Sx 15))), .ref (ad 362), .ref (ad 363), .ref (ad 364), .ref (ad 365), .ref (ad 366), .ref (ad 367), .ref (ad 368), .ref (ad 369), .ref (ad 370), .ref (ad 371), .int (iv ((Sx 26))), .ref (ad 372), .ref (ad 373), .ref (ad 374), .ref (ad 375), .int (iv ((Sx 31))), .int (iv ((Sx 32)))]) hX hj pf_Mo_141 d_Mo_findBest_77 (by omega) hf29 rfl rfl (Nat.le_of_ble_eq_true rfl) rfl ?_
                          obtain ⟨σ30, hs31⟩ : ∃ s9, s9 = va_up σ26 (358) (eO 9 [.ref (ad 359), .int (iv (((n : Nat) : Int))), .ref (ad 360), .ref (ad 361), .int (iv (((de : Nat) : Int))), .int (iv (((le : Nat) : Int))), .int (iv (((wo : Nat) : Int))), .int (iv ((Sx 7))), .long (jv ((kAb (mC n cl) (mK n val) (mLf n val so) set c k d))), .long (jv ((((kBe (mK n val) (mLf n val so) set c k d) : Nat) : Int))), .int (iv (((c : Nat) : Int))), .int (iv (((k : Nat) : Int))), .int (iv ((Sx 12))), .long (jv ((Sx 13))), .long (jv ((Sx 14))), .int (iv ((Sx 15))), .ref (ad 362), .ref (ad 363), .ref (ad 364), .ref (ad 365), .ref (ad 366), .ref (ad 367), .ref (ad 368), .ref (ad 369), .ref (ad 370), .ref (ad 371), .int (iv ((Sx 26))), .ref (ad 372), .ref (ad 373), .ref (ad 374), .ref (ad 375), .int (iv ((Sx 31))), .int (iv ((Sx 32)))]) := ⟨_, rfl⟩
                          rw [← hs31]
                          have hf33 : σ30 (358) = (eO 9 [.ref (ad 359), .int (iv (((n : Nat) : Int))), .ref (ad 360), .ref (ad 361), .int (iv (((de : Nat) : Int))), .int (iv (((le : Nat) : Int))), .int (iv (((wo : Nat) : Int))), .int (iv ((Sx 7))), .long (jv ((kAb (mC n cl) (mK n val) (mLf n val so) set c k d))), .long (jv ((((kBe (mK n val) (mLf n val so) set c k d) : Nat) : Int))), .int (iv (((c : Nat) : Int))), .int (iv (((k : Nat) : Int))), .int (iv ((Sx 12))), .long (jv ((Sx 13))), .long (jv ((Sx 14))), .int (iv ((Sx 15))), .ref (ad 362), .ref (ad 363), .ref (ad 364), .ref (ad 365), .ref (ad 366), .ref (ad 367), .ref (ad 368), .ref (ad 369), .ref (ad 370), .ref (ad 371), .int (iv ((Sx 26))), .ref (ad 372), .ref (ad 373), .ref (ad 374), .ref (ad 375), .int (iv ((Sx 31))), .int (iv ((Sx 32)))]) := by rw [hs31, va_up_self]
                          refine v_aload_n hX d_Mo_findBest_80 1 rfl ?_
                          refine v_iload hX d_Mo_findBest_81 5 rfl ?_
                          refine g_put (i := 358) (fs' := [.ref (ad 359), .int (iv (((n : Nat) : Int))), .ref (ad 360), .ref (ad 361), .int (iv (((de : Nat) : Int))), .int (iv (((le : Nat) : Int))), .int (iv (((wo : Nat) : Int))), .int (iv ((Sx 7))), .long (jv ((kAb (mC n cl) (mK n val) (mLf n val so) set c k d))), .long (jv ((((kBe (mK n val) (mLf n val so) set c k d) : Nat) : Int))), .int (iv (((c : Nat) : Int))), .int (iv (((k : Nat) : Int))), .int (iv (((d : Nat) : Int))), .long (jv ((Sx 13))), .long (jv ((Sx 14))), .int (iv ((Sx 15))), .ref (ad 362), .ref (ad 363), .ref (ad 364), .ref (ad 365), .ref (ad 366), .ref (ad 367), .ref (ad 368), .ref (ad 369), .ref (ad 370), .ref (ad 371), .int (iv ((Sx 26))), .ref (ad 372), .ref (ad 373), .ref (ad 374), .ref (ad 375), .int (iv ((Sx 31))), .int (iv ((Sx 32)))]) hX hj pf_Mo_144 d_Mo_findBest_83 (by omega) hf33 rfl rfl (Nat.le_of_ble_eq_true rfl) rfl ?_
                          obtain ⟨σ34, hs35⟩ : ∃ s9, s9 = va_up σ30 (358) (eO 9 [.ref (ad 359), .int (iv (((n : Nat) : Int))), .ref (ad 360), .ref (ad 361), .int (iv (((de : Nat) : Int))), .int (iv (((le : Nat) : Int))), .int (iv (((wo : Nat) : Int))), .int (iv ((Sx 7))), .long (jv ((kAb (mC n cl) (mK n val) (mLf n val so) set c k d))), .long (jv ((((kBe (mK n val) (mLf n val so) set c k d) : Nat) : Int))), .int (iv (((c : Nat) : Int))), .int (iv (((k : Nat) : Int))), .int (iv (((d : Nat) : Int))), .long (jv ((Sx 13))), .long (jv ((Sx 14))), .int (iv ((Sx 15))), .ref (ad 362), .ref (ad 363), .ref (ad 364), .ref (ad 365), .ref (ad 366), .ref (ad 367), .ref (ad 368), .ref (ad 369), .ref (ad 370), .ref (ad 371), .int (iv ((Sx 26))), .ref (ad 372), .ref (ad 373), .ref (ad 374), .ref (ad 375), .int (iv ((Sx 31))), .int (iv ((Sx 32)))]) := ⟨_, rfl⟩
                          rw [← hs35]
                          have hf37 : σ34 (358) = (eO 9 [.ref (ad 359), .int (iv (((n : Nat) : Int))), .ref (ad 360), .ref (ad 361), .int (iv (((de : Nat) : Int))), .int (iv (((le : Nat) : Int))), .int (iv (((wo : Nat) : Int))), .int (iv ((Sx 7))), .long (jv ((kAb (mC n cl) (mK n val) (mLf n val so) set c k d))), .long (jv ((((kBe (mK n val) (mLf n val so) set c k d) : Nat) : Int))), .int (iv (((c : Nat) : Int))), .int (iv (((k : Nat) : Int))), .int (iv (((d : Nat) : Int))), .long (jv ((Sx 13))), .long (jv ((Sx 14))), .int (iv ((Sx 15))), .ref (ad 362), .ref (ad 363), .ref (ad 364), .ref (ad 365), .ref (ad 366), .ref (ad 367), .ref (ad 368), .ref (ad 369), .ref (ad 370), .ref (ad 371), .int (iv ((Sx 26))), .ref (ad 372), .ref (ad 373), .ref (ad 374), .ref (ad 375), .int (iv ((Sx 31))), .int (iv ((Sx 32)))]) := by rw [hs35, va_up_self]
                          refine v_aload_n hX d_Mo_findBest_86 1 rfl ?_
                          refine v_aload_n hX d_Mo_findBest_87 1 rfl ?_
                          refine g_get (i := 358) hX hj fl_Mo_122 d_Mo_findBest_88 (by omega) hf37 rfl ?_
                          refine g_put (i := 358) (fs' := [.ref (ad 359), .int (iv (((n : Nat) : Int))), .ref (ad 360), .ref (ad 361), .int (iv (((de : Nat) : Int))), .int (iv (((le : Nat) : Int))), .int (iv (((wo : Nat) : Int))), .int (iv ((Sx 7))), .long (jv ((kAb (mC n cl) (mK n val) (mLf n val so) set c k d))), .long (jv ((((kBe (mK n val) (mLf n val so) set c k d) : Nat) : Int))), .int (iv (((c : Nat) : Int))), .int (iv (((k : Nat) : Int))), .int (iv (((d : Nat) : Int))), .long (jv ((kAb (mC n cl) (mK n val) (mLf n val so) set c k d))), .long (jv ((Sx 14))), .int (iv ((Sx 15))), .ref (ad 362), .ref (ad 363), .ref (ad 364), .ref (ad 365), .ref (ad 366), .ref (ad 367), .ref (ad 368), .ref (ad 369), .ref (ad 370), .ref (ad 371), .int (iv ((Sx 26))), .ref (ad 372), .ref (ad 373), .ref (ad 374), .ref (ad 375), .int (iv ((Sx 31))), .int (iv ((Sx 32)))]) hX hj pf_Mo_135 d_Mo_findBest_91 (by omega) hf37 rfl rfl (Nat.le_of_ble_eq_true rfl) rfl ?_
                          obtain ⟨σ38, hs39⟩ : ∃ s9, s9 = va_up σ34 (358) (eO 9 [.ref (ad 359), .int (iv (((n : Nat) : Int))), .ref (ad 360), .ref (ad 361), .int (iv (((de : Nat) : Int))), .int (iv (((le : Nat) : Int))), .int (iv (((wo : Nat) : Int))), .int (iv ((Sx 7))), .long (jv ((kAb (mC n cl) (mK n val) (mLf n val so) set c k d))), .long (jv ((((kBe (mK n val) (mLf n val so) set c k d) : Nat) : Int))), .int (iv (((c : Nat) : Int))), .int (iv (((k : Nat) : Int))), .int (iv (((d : Nat) : Int))), .long (jv ((kAb (mC n cl) (mK n val) (mLf n val so) set c k d))), .long (jv ((Sx 14))), .int (iv ((Sx 15))), .ref (ad 362), .ref (ad 363), .ref (ad 364), .ref (ad 365), .ref (ad 366), .ref (ad 367), .ref (ad 368), .ref (ad 369), .ref (ad 370), .ref (ad 371), .int (iv ((Sx 26))), .ref (ad 372), .ref (ad 373), .ref (ad 374), .ref (ad 375), .int (iv ((Sx 31))), .int (iv ((Sx 32)))]) := ⟨_, rfl⟩
                          rw [← hs39]
                          have hf41 : σ38 (358) = (eO 9 [.ref (ad 359), .int (iv (((n : Nat) : Int))), .ref (ad 360), .ref (ad 361), .int (iv (((de : Nat) : Int))), .int (iv (((le : Nat) : Int))), .int (iv (((wo : Nat) : Int))), .int (iv ((Sx 7))), .long (jv ((kAb (mC n cl) (mK n val) (mLf n val so) set c k d))), .long (jv ((((kBe (mK n val) (mLf n val so) set c k d) : Nat) : Int))), .int (iv (((c : Nat) : Int))), .int (iv (((k : Nat) : Int))), .int (iv (((d : Nat) : Int))), .long (jv ((kAb (mC n cl) (mK n val) (mLf n val so) set c k d))), .long (jv ((Sx 14))), .int (iv ((Sx 15))), .ref (ad 362), .ref (ad 363), .ref (ad 364), .ref (ad 365), .ref (ad 366), .ref (ad 367), .ref (ad 368), .ref (ad 369), .ref (ad 370), .ref (ad 371), .int (iv ((Sx 26))), .ref (ad 372), .ref (ad 373), .ref (ad 374), .ref (ad 375), .int (iv ((Sx 31))), .int (iv ((Sx 32)))]) := by rw [hs39, va_up_self]
                          refine v_aload_n hX d_Mo_findBest_94 1 rfl ?_
                          refine v_aload_n hX d_Mo_findBest_95 1 rfl ?_
                          refine g_get (i := 358) hX hj fl_Mo_126 d_Mo_findBest_96 (by omega) hf41 rfl ?_
                          refine g_put (i := 358) (fs' := [.ref (ad 359), .int (iv (((n : Nat) : Int))), .ref (ad 360), .ref (ad 361), .int (iv (((de : Nat) : Int))), .int (iv (((le : Nat) : Int))), .int (iv (((wo : Nat) : Int))), .int (iv ((Sx 7))), .long (jv ((kAb (mC n cl) (mK n val) (mLf n val so) set c k d))), .long (jv ((((kBe (mK n val) (mLf n val so) set c k d) : Nat) : Int))), .int (iv (((c : Nat) : Int))), .int (iv (((k : Nat) : Int))), .int (iv (((d : Nat) : Int))), .long (jv ((kAb (mC n cl) (mK n val) (mLf n val so) set c k d))), .long (jv ((((kBe (mK n val) (mLf n val so) set c k d) : Nat) : Int))), .int (iv ((Sx 15))), .ref (ad 362), .ref (ad 363), .ref (ad 364), .ref (ad 365), .ref (ad 366), .ref (ad 367), .ref (ad 368), .ref (ad 369), .ref (ad 370), .ref (ad 371), .int (iv ((Sx 26))), .ref (ad 372), .ref (ad 373), .ref (ad 374), .ref (ad 375), .int (iv ((Sx 31))), .int (iv ((Sx 32)))]) hX hj pf_Mo_132 d_Mo_findBest_99 (by omega) hf41 rfl rfl (Nat.le_of_ble_eq_true rfl) rfl ?_
                          obtain ⟨σ42, hs43⟩ : ∃ s9, s9 = va_up σ38 (358) (eO 9 [.ref (ad 359), .int (iv (((n : Nat) : Int))), .ref (ad 360), .ref (ad 361), .int (iv (((de : Nat) : Int))), .int (iv (((le : Nat) : Int))), .int (iv (((wo : Nat) : Int))), .int (iv ((Sx 7))), .long (jv ((kAb (mC n cl) (mK n val) (mLf n val so) set c k d))), .long (jv ((((kBe (mK n val) (mLf n val so) set c k d) : Nat) : Int))), .int (iv (((c : Nat) : Int))), .int (iv (((k : Nat) : Int))), .int (iv (((d : Nat) : Int))), .long (jv ((kAb (mC n cl) (mK n val) (mLf n val so) set c k d))), .long (jv ((((kBe (mK n val) (mLf n val so) set c k d) : Nat) : Int))), .int (iv ((Sx 15))), .ref (ad 362), .ref (ad 363), .ref (ad 364), .ref (ad 365), .ref (ad 366), .ref (ad 367), .ref (ad 368), .ref (ad 369), .ref (ad 370), .ref (ad 371), .int (iv ((Sx 26))), .ref (ad 372), .ref (ad 373), .ref (ad 374), .ref (ad 375), .int (iv ((Sx 31))), .int (iv ((Sx 32)))]) := ⟨_, rfl⟩
                          rw [← hs43]
                          have hf45 : σ42 (358) = (eO 9 [.ref (ad 359), .int (iv (((n : Nat) : Int))), .ref (ad 360), .ref (ad 361), .int (iv (((de : Nat) : Int))), .int (iv (((le : Nat) : Int))), .int (iv (((wo : Nat) : Int))), .int (iv ((Sx 7))), .long (jv ((kAb (mC n cl) (mK n val) (mLf n val so) set c k d))), .long (jv ((((kBe (mK n val) (mLf n val so) set c k d) : Nat) : Int))), .int (iv (((c : Nat) : Int))), .int (iv (((k : Nat) : Int))), .int (iv (((d : Nat) : Int))), .long (jv ((kAb (mC n cl) (mK n val) (mLf n val so) set c k d))), .long (jv ((((kBe (mK n val) (mLf n val so) set c k d) : Nat) : Int))), .int (iv ((Sx 15))), .ref (ad 362), .ref (ad 363), .ref (ad 364), .ref (ad 365), .ref (ad 366), .ref (ad 367), .ref (ad 368), .ref (ad 369), .ref (ad 370), .ref (ad 371), .int (iv ((Sx 26))), .ref (ad 372), .ref (ad 373), .ref (ad 374), .ref (ad 375), .int (iv ((Sx 31))), .int (iv ((Sx 32)))]) := by rw [hs43, va_up_self]
                          refine v_iincN (a := d) (n := 1) (lv' := [(5, .int (iv ((((d + 1) : Nat) : Int)))), (2, .int (iv (1))), (0, .ref (ad 358)), (1, .int (iv (((set : Nat) : Int)))), (3, .int (iv (((c : Nat) : Int)))), (4, .int (iv (((k : Nat) : Int))))]) hX d_Mo_findBest_102 rfl 5 rfl (by decide) rfl ?_
                          refine v_goto (tgt := 22) hX d_Mo_findBest_105 (by decide) ?_
                          have hfr5 : ∀ i, i ≠ 358 → σ42 i = σx i := (fun i i1 => by rw [hs43, va_up_ne _ _ i1, hs39, va_up_ne _ _ i1, hs35, va_up_ne _ _ i1, hs31, va_up_ne _ _ i1, hs27, va_up_ne _ _ i1]; exact m4 i i1)
                          refine v_lv [2, 3, 1, 4, 5, 0] rfl ?_
                          exact ih_LS (d + 1) (σ42) ((va_up (va_up (va_up (va_up (va_up (va_up (va_up Sx 8 (kAb (mC n cl) (mK n val) (mLf n val so) set c k d)) 9 (((kBe (mK n val) (mLf n val so) set c k d) : Nat) : Int)) 10 ((c : Nat) : Int)) 11 ((k : Nat) : Int)) 12 ((d : Nat) : Int)) 13 (kAb (mC n cl) (mK n val) (mLf n val so) set c k d)) 14 (((kBe (mK n val) (mLf n val so) set c k d) : Nat) : Int))) ((E.1 + 1, (c : Int), (k : Int), (d : Int), (kAb (mC n cl) (mK n val) (mLf n val so) set c k d), ((kBe (mK n val) (mLf n val so) set c k d) : Int))) (1) (by omega) (by omega) (lkT_a m1.1.2 m1.2 hEe (by first | (left; have q9 := pI_0 (by omega : pI (0 < E.1) = 0); omega) | (right; have q9 := i4 (pI_1 (by omega : ¬ pI (0 < E.1) = 0)); rw [← q9.2.2.2.1, ← q9.2.2.2.2.1]; omega))).symm ⟨(m3.up (by rw [hs43, hs39, hs35, hs31, hs27, bx_uu, bx_uu, bx_uu, bx_uu, va_up_self]; rfl) ((hfr5 359 (by decide)).trans (m4 359 (by decide)).symm) ((hfr5 360 (by decide)).trans (m4 360 (by decide)).symm) ((hfr5 361 (by decide)).trans (m4 361 (by decide)).symm)), fun i i1 => (hfr5 i i1).trans (i2 i i1), fun i hi => by rw [va_up_ne _ _ (by omega), va_up_ne _ _ (by omega), va_up_ne _ _ (by omega), va_up_ne _ _ (by omega), va_up_ne _ _ (by omega), va_up_ne _ _ (by omega), va_up_ne _ _ (by omega)]; exact i3 i hi, fun _ => ⟨rfl, rfl, rfl, rfl, rfl, rab, rbe⟩⟩ (pI_t (Nat.succ_pos _))
                    · subst m2
                      rw [m3]
                      rw [Int.toNat_natCast] at m1
                      refine v_if_eq (tgt := 102) hX d_Mo_findBest_38 (by decide) (by first | assumption | (unfold ir at *; omega)) (fun c9 => ?_) (fun c9 => absurd c9 (by omega))
                      refine v_iincN (a := d) (n := 1) (lv' := [(5, .int (iv ((((d + 1) : Nat) : Int)))), (0, .ref (ad 358)), (1, .int (iv (((set : Nat) : Int)))), (2, .int (iv (y))), (3, .int (iv (((c : Nat) : Int)))), (4, .int (iv (((k : Nat) : Int))))]) hX d_Mo_findBest_102 rfl 5 rfl (by decide) rfl ?_
                      refine v_goto (tgt := 22) hX d_Mo_findBest_105 (by decide) ?_
                      refine v_lv [1, 2, 3, 4, 5, 0] rfl ?_
                      exact ih_LS (d + 1) (σx) (Sx) (E) (y) (by omega) (by omega) (by rw [lkT_no (fun q => m1 ⟨⟨by omega, q.1⟩, q.2⟩)]; exact hEe) hI hy
              refine v_lv [1, 2, 3, 4, 5, 0] rfl ?_
              exact LS _ (0) (σw) (Sw) (Dd) (y) (Nat.lt_succ_self _) (by decide) lkT_0.symm hI hy
        refine v_lv [1, 2, 3, 4, 0] rfl ?_
        exact LN _ (0) (σv) (Sv) (B) (y) (Nat.lt_succ_self _) (by decide) rfl hI hy
  refine v_lv [2, 3, 1, 0] rfl ?_
  exact LC _ (0) (σ) (S) ((0, B0)) (0) (Nat.lt_succ_self _) (by decide) rfl ⟨hM, fun _ _ => rfl, fun _ _ => rfl, fun h => absurd h (Nat.lt_irrefl 0)⟩ rfl

set_option maxHeartbeats 1000000 in
set_option maxRecDepth 100000 in
theorem m_Mo_cuts {G : xG} {f0 : xF} {ad : Nat → Nat} (hj : adOk ad 400) {σ : xF} {n : Nat} {val : Nat → Nat → Int} {cl so : Nat → Nat} {de le wo : Nat} {S : Nat → Int} (hM : pMo G ad σ n val cl so de le wo S) (hD : dTab n val cl so) (hle : le ≤ 10) : ∀ l, gI l G f0 ad 400 y_Mo_cuts (.code y_Mo_cuts c_Mo_cuts 5 (some (.int))) rm_Mo_cuts [.ref (ad 358)] σ (fun z σ' => ∃ Sv, (pMo G ad σ' n val cl so de le wo Sv ∧ (∀ i, i ≠ 358 → σ' i = σ i) ∧ (∀ i, i ≠ 8 → i ≠ 9 → Sv i = S i)) ∧ z = (((lk0 so (mC n cl) (mK n val) (mLf n val so) le (2 ^ n - 1) 4 (0, ((0 : Int), (0 : Int), (0 : Int), (0 : Int), (1 : Int)))).1 : Nat) : Int)) := by
  intro l
  refine mI_of (rt := .int) (by decide) (Nat.le_of_ble_eq_true rfl) (fun X hX hret => ?_)
  show vV G X 0 0 0 [(0, .ref (ad 358))] [] (ov f0 ad 400 σ)
  obtain ⟨m0, ⟨sf, m1, m1e⟩, ⟨vf, m2, m2e⟩, ⟨cf, m3, m3e⟩⟩ := id hM
  obtain ⟨d1, d2, d3, d4⟩ := id hD
  have hs : (2 ^ n - 1) < 2 ^ n := by have h2 : 0 < 2 ^ n := Nat.two_pow_pos n; omega
  refine v_iconst hX (0) d_Mo_cuts_0 ?_
  refine v_istore_n (lv' := [(1, .int (iv (0))), (0, .ref (ad 358))]) hX d_Mo_cuts_1 rfl (by decide) rfl ?_
  refine v_iconst hX (0) d_Mo_cuts_2 ?_
  refine v_istore_n (lv' := [(2, .int (iv (0))), (1, .int (iv (0))), (0, .ref (ad 358))]) hX d_Mo_cuts_3 rfl (by decide) rfl ?_
  have LC : ∀ (fuel : Nat) (c : Nat) (σv : xF) (Sv : Nat → Int) (B : lkB), 4 - c < fuel → (c ≤ 4) → (B = lk0 so (mC n cl) (mK n val) (mLf n val so) le (2 ^ n - 1) c (0, ((0 : Int), (0 : Int), (0 : Int), (0 : Int), (1 : Int)))) → ((pMo G ad σv n val cl so de le wo Sv ∧ (∀ i, i ≠ 358 → σv i = σ i) ∧ (∀ i, i ≠ 8 → i ≠ 9 → Sv i = S i))) → (B.1 ≤ 202 * c) → vV G X 0 0 4 [(0, .ref (ad 358)), (1, .int (iv (((B.1 : Nat) : Int)))), (2, .int (iv (((c : Nat) : Int))))] [] (ov f0 ad 400 σv) := by
    intro fuel
    induction fuel with
    | zero => intro c σv Sv B hm; exact absurd hm (Nat.not_lt_zero _)
    | succ fuel ih_LC =>
      intro c σv Sv B hm hc hBe hI hb
      refine v_iload_n hX d_Mo_cuts_4 2 rfl ?_
      refine v_iconst hX (4) d_Mo_cuts_5 ?_
      refine v_icmp_ge (tgt := 71) hX d_Mo_cuts_6 (by decide) (by first | assumption | (unfold ir at *; omega)) (by first | assumption | (unfold ir at *; omega)) (fun c6_1 => ?_) (fun c6_1 => ?_)
      · refine v_iload_n hX d_Mo_cuts_71 1 rfl ?_
        have e : c = 4 := by omega
        subst e
        exact hret _ _ _ _ d_Mo_cuts_72 (by unfold ir; omega) ⟨_, rfl, Sv, hI, congrArg (fun q : lkB => ((q.1 : Nat) : Int)) hBe⟩ rfl
      · refine v_iconst hX (0) d_Mo_cuts_9 ?_
        refine v_istore_n (lv' := [(3, .int (iv (0))), (0, .ref (ad 358)), (1, .int (iv (((B.1 : Nat) : Int)))), (2, .int (iv (((c : Nat) : Int))))]) hX d_Mo_cuts_10 rfl (by decide) rfl ?_
        have LN : ∀ (fuel : Nat) (k : Nat) (σw : xF) (Sw : Nat → Int) (Dd : lkB), 100 - k < fuel → (k ≤ 100) → (Dd = lk1 so (mC n cl) (mK n val) (mLf n val so) le (2 ^ n - 1) c k B) → ((pMo G ad σw n val cl so de le wo Sw ∧ (∀ i, i ≠ 358 → σw i = σ i) ∧ (∀ i, i ≠ 8 → i ≠ 9 → Sw i = S i))) → (Dd.1 ≤ 202 * c + 2 * k) → vV G X 0 0 11 [(0, .ref (ad 358)), (1, .int (iv (((Dd.1 : Nat) : Int)))), (2, .int (iv (((c : Nat) : Int)))), (3, .int (iv (((k : Nat) : Int))))] [] (ov f0 ad 400 σw) := by
          intro fuel
          induction fuel with
          | zero => intro k σw Sw Dd hm; exact absurd hm (Nat.not_lt_zero _)
          | succ fuel ih_LN =>
            intro k σw Sw Dd hm hk hDe hI hd
            refine v_iload_n hX d_Mo_cuts_11 3 rfl ?_
            refine v_bipush hX (100) d_Mo_cuts_12 rfl ?_
            refine v_icmp_ge (tgt := 65) hX d_Mo_cuts_14 (by decide) (by first | assumption | (unfold ir at *; omega)) (by first | assumption | (unfold ir at *; omega)) (fun c14_2 => ?_) (fun c14_2 => ?_)
            · refine v_iincN (a := c) (n := 1) (lv' := [(2, .int (iv ((((c + 1) : Nat) : Int)))), (0, .ref (ad 358)), (1, .int (iv (((Dd.1 : Nat) : Int)))), (3, .int (iv (((k : Nat) : Int))))]) hX d_Mo_cuts_65 rfl 2 rfl (by decide) rfl ?_
              refine v_goto (tgt := 4) hX d_Mo_cuts_68 (by decide) ?_
              refine v_lv [1, 2, 0] rfl ?_
              exact ih_LC (c + 1) (σw) (Sw) (Dd) (by omega) (by omega) (by have e : k = 100 := (by omega); subst e; rw [hDe, hBe]; show _ = lk2 so (mC n cl) (mK n val) (mLf n val so) le (2 ^ n - 1) c 100 (lk1 so (mC n cl) (mK n val) (mLf n val so) le (2 ^ n - 1) c 100 (lk0 so (mC n cl) (mK n val) (mLf n val so) le (2 ^ n - 1) c (0, ((0 : Int), (0 : Int), (0 : Int), (0 : Int), (1 : Int))))); unfold lk2; rw [if_neg (can_100 hD hs (by omega))]) hI (by omega)
            · refine v_iconst hX (0) d_Mo_cuts_17 ?_
              refine v_istore (lv' := [(4, .int (iv (0))), (0, .ref (ad 358)), (1, .int (iv (((Dd.1 : Nat) : Int)))), (2, .int (iv (((c : Nat) : Int)))), (3, .int (iv (((k : Nat) : Int))))]) hX d_Mo_cuts_18 (by decide) rfl ?_
              have LS : ∀ (fuel : Nat) (d : Nat) (σx : xF) (Sx : Nat → Int) (E : lkB), 2 - d < fuel → (d ≤ 2) → (E = lkT n val cl so le (2 ^ n - 1) c k d Dd) → ((pMo G ad σx n val cl so de le wo Sx ∧ (∀ i, i ≠ 358 → σx i = σ i) ∧ (∀ i, i ≠ 8 → i ≠ 9 → Sx i = S i))) → (E.1 ≤ 202 * c + 2 * k + d) → vV G X 0 0 20 [(0, .ref (ad 358)), (1, .int (iv (((E.1 : Nat) : Int)))), (2, .int (iv (((c : Nat) : Int)))), (3, .int (iv (((k : Nat) : Int)))), (4, .int (iv (((d : Nat) : Int))))] [] (ov f0 ad 400 σx) := by
                intro fuel
                induction fuel with
                | zero => intro d σx Sx E hm; exact absurd hm (Nat.not_lt_zero _)
                | succ fuel ih_LS =>
                  intro d σx Sx E hm hdd hEe hI he
                  obtain ⟨i1, i2, i3⟩ := id hI
                  refine v_iload hX d_Mo_cuts_20 4 rfl ?_
                  refine v_iconst hX (2) d_Mo_cuts_22 ?_
                  refine v_icmp_ge (tgt := 59) hX d_Mo_cuts_23 (by decide) (by first | assumption | (unfold ir at *; omega)) (by first | assumption | (unfold ir at *; omega)) (fun c23_3 => ?_) (fun c23_3 => ?_)
                  · refine v_iincN (a := k) (n := 1) (lv' := [(3, .int (iv ((((k + 1) : Nat) : Int)))), (0, .ref (ad 358)), (1, .int (iv (((E.1 : Nat) : Int)))), (2, .int (iv (((c : Nat) : Int)))), (4, .int (iv (((d : Nat) : Int))))]) hX d_Mo_cuts_59 rfl 3 rfl (by decide) rfl ?_
                    refine v_goto (tgt := 11) hX d_Mo_cuts_62 (by decide) ?_
                    refine v_lv [1, 2, 3, 0] rfl ?_
                    exact ih_LN (k + 1) (σx) (Sx) (E) (by omega) (by omega) (by have e : d = 2 := (by omega); subst e; rw [hEe, lkT_2, hDe]; rfl) hI (by omega)
                  · refine v_iload_n hX d_Mo_cuts_26 1 rfl ?_
                    refine v_aload_n hX d_Mo_cuts_27 0 rfl ?_
                    refine v_iconst hX (1) d_Mo_cuts_28 ?_
                    refine v_aload_n hX d_Mo_cuts_29 0 rfl ?_
                    refine g_get (i := 358) hX hj fl_Mo_69 d_Mo_cuts_30 (by omega) i1.1 rfl ?_
                    refine v_ishl (z := (((2 ^ n) : Nat) : Int)) hX d_Mo_cuts_33 (iv_shl1 (n) (by omega)) ?_
                    refine v_iconst hX (1) d_Mo_cuts_34 ?_
                    refine v_isub hX d_Mo_cuts_35 ?_
                    refine v_top (x' := iv (((2 ^ n - 1) : Nat) : Int)) (congrArg iv (by have h2 : 0 < 2 ^ n := Nat.two_pow_pos n; omega)) ?_
                    refine v_iload_n hX d_Mo_cuts_36 2 rfl ?_
                    refine v_iload_n hX d_Mo_cuts_37 3 rfl ?_
                    refine v_iload hX d_Mo_cuts_38 4 rfl ?_
                    refine g_callVI (As := [.int (iv ((((2 ^ n - 1) : Nat) : Int))), .int (iv (((c : Nat) : Int))), .int (iv (((k : Nat) : Int))), .int (iv (((d : Nat) : Int)))]) (st := [.int (iv (((E.1 : Nat) : Int)))]) hX hj (i := 358) (by omega) i1.1 (m_Mo_may hj i1 hD (2 ^ n - 1) hs c (by omega) (k : Int) (ir_n (by omega)) d (by omega) hle) cl_Mo_129 d_Mo_cuts_40 rfl ⟨by decide, by decide⟩ ⟨by decide, by decide⟩ (Nat.le_of_ble_eq_true rfl) (fun z1 σ2 hz3 hp4 => ?_)
                    rcases hp4 with ⟨m1, m2, m3, m4⟩ | ⟨m1, m2, m3⟩
                    · subst m2
                      rw [Int.toNat_natCast] at m1 m3
                      refine v_if_eq (tgt := 50) hX d_Mo_cuts_43 (by decide) (by first | assumption | (unfold ir at *; omega)) (fun c9 => absurd c9 (by omega)) (fun c9 => ?_)
                      refine v_iconst hX (1) d_Mo_cuts_46 ?_
                      refine v_goto (tgt := 51) hX d_Mo_cuts_47 (by decide) ?_
                      refine v_iaddN (a := E.1) (b := 1) hX d_Mo_cuts_51 ?_
                      obtain ⟨E2, hE2⟩ : ∃ E2, E2 = lkT n val cl so le (2 ^ n - 1) c k (d + 1) Dd := ⟨_, rfl⟩
                      have e1 : E2.1 = E.1 + 1 := by rw [hE2]; exact lkT_c m1.1.2 m1.2 hEe
                      refine v_top (x' := iv ((E2.1 : Nat) : Int)) (by rw [e1]) ?_
                      refine v_istore_n (lv' := [(1, .int (iv (((E2.1 : Nat) : Int)))), (0, .ref (ad 358)), (2, .int (iv (((c : Nat) : Int)))), (3, .int (iv (((k : Nat) : Int)))), (4, .int (iv (((d : Nat) : Int))))]) hX d_Mo_cuts_52 rfl (by decide) rfl ?_
                      refine v_iincN (a := d) (n := 1) (lv' := [(4, .int (iv ((((d + 1) : Nat) : Int)))), (1, .int (iv (((E2.1 : Nat) : Int)))), (0, .ref (ad 358)), (2, .int (iv (((c : Nat) : Int)))), (3, .int (iv (((k : Nat) : Int))))]) hX d_Mo_cuts_53 rfl 4 rfl (by decide) rfl ?_
                      refine v_goto (tgt := 20) hX d_Mo_cuts_56 (by decide) ?_
                      refine v_lv [2, 1, 3, 4, 0] rfl ?_
                      exact ih_LS (d + 1) (σ2) (_) (E2) (by omega) (by omega) hE2 ⟨m3, fun i i1 => (m4 i i1).trans (i2 i i1), fun i h8 h9 => by rw [va_up_ne _ _ h9, va_up_ne _ _ h8]; exact i3 i h8 h9⟩ (by omega)
                    · subst m2
                      rw [m3]
                      rw [Int.toNat_natCast] at m1
                      refine v_if_eq (tgt := 50) hX d_Mo_cuts_43 (by decide) (by first | assumption | (unfold ir at *; omega)) (fun c9 => ?_) (fun c9 => absurd c9 (by omega))
                      refine v_iconst hX (0) d_Mo_cuts_50 ?_
                      refine v_iaddN (a := E.1) (b := 0) hX d_Mo_cuts_51 ?_
                      refine v_top (x' := iv ((E.1 : Nat) : Int)) rfl ?_
                      refine v_istore_n (lv' := [(1, .int (iv (((E.1 : Nat) : Int)))), (0, .ref (ad 358)), (2, .int (iv (((c : Nat) : Int)))), (3, .int (iv (((k : Nat) : Int)))), (4, .int (iv (((d : Nat) : Int))))]) hX d_Mo_cuts_52 rfl (by decide) rfl ?_
                      refine v_iincN (a := d) (n := 1) (lv' := [(4, .int (iv ((((d + 1) : Nat) : Int)))), (1, .int (iv (((E.1 : Nat) : Int)))), (0, .ref (ad 358)), (2, .int (iv (((c : Nat) : Int)))), (3, .int (iv (((k : Nat) : Int))))]) hX d_Mo_cuts_53 rfl 4 rfl (by decide) rfl ?_
                      refine v_goto (tgt := 20) hX d_Mo_cuts_56 (by decide) ?_
                      refine v_lv [2, 1, 3, 4, 0] rfl ?_
                      exact ih_LS (d + 1) (σx) (Sx) (E) (by omega) (by omega) (by rw [lkT_no (fun q => m1 ⟨⟨by omega, q.1⟩, q.2⟩)]; exact hEe) hI (by omega)
              refine v_lv [1, 2, 3, 4, 0] rfl ?_
              exact LS _ (0) (σw) (Sw) (Dd) (Nat.lt_succ_self _) (by decide) lkT_0.symm hI (by omega)
        refine v_lv [1, 2, 3, 0] rfl ?_
        exact LN _ (0) (σv) (Sv) (B) (Nat.lt_succ_self _) (by decide) rfl hI (by omega)
  refine v_lv [2, 1, 0] rfl ?_
  exact LC _ (0) (σ) (S) ((0, ((0 : Int), (0 : Int), (0 : Int), (0 : Int), (1 : Int)))) (Nat.lt_succ_self _) (by decide) rfl ⟨hM, fun _ _ => rfl, fun _ _ _ => rfl⟩ (Nat.le_refl 0)
