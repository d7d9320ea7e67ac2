/-! THE REFERENCE, asked; by program -/
set_option maxHeartbeats 1000000 in
set_option maxRecDepth 100000 in
theorem m_Mo_build {G : xG} {f0 : xF} {ad : Nat → Nat} (hj : adOk ad 400) {σ : xF} {n : Nat} {val : Nat → Nat → Int} {cl so : Nat → Nat} {de le wo : Nat} {S : Nat → Int} (hM : pMo G ad σ n val cl so de le wo S) (hD : dTab n val cl so) {Q : Nat → Nat → Int} (hQ : pMa G σ Q) (hle : le ≤ 10) (hle1 : 1 ≤ le) (hde : de ≤ 5) (hwo : wo ≤ 1000) (hbt : S 7 = 0 ∨ (S 7 = 1 ∧ moB so (mC n cl) (mK n val) (mLf n val so) le de wo n S Q)) : ∀ l, gVo l G f0 ad 400 y_Mo_build (.code y_Mo_build c_Mo_build 1 none) rm_Mo_build [.ref (ad 358)] σ (fun σ' => ∃ Sv Qv, pMo G ad σ' n val cl so de le wo Sv ∧ pMa G σ' Qv ∧ Sv 7 = 1 ∧ moB so (mC n cl) (mK n val) (mLf n val so) le de wo n Sv Qv ∧ (∀ i, i < 358 → σ' i = σ i)) := by
  intro l
  refine mV_of (by decide) (Nat.le_of_ble_eq_true rfl) (fun X hX hret => ?_)
  show vV G X 0 0 0 [(0, .ref (ad 358))] [] (ov f0 ad 400 σ)
  obtain ⟨m0, ⟨sf, m1, m1e⟩, ⟨vf, m2, m2e⟩, ⟨cf, m3, m3e⟩⟩ := id hM
  obtain ⟨d1, d2, d3, d4⟩ := id hD
  have hs : 2 ^ n - 1 < 2 ^ n := by have h2 : 0 < 2 ^ n := Nat.two_pow_pos n; omega
  refine v_aload_n hX d_Mo_build_0 0 rfl ?_
  refine g_get (i := 358) hX hj fl_Mo_76 d_Mo_build_1 (by omega) m0 rfl ?_
  refine v_if_ne (tgt := 28) hX d_Mo_build_4 (by decide) (by rcases hbt with q | q <;> (unfold ir; omega)) (fun c4_1 => ?_) (fun c4_1 => ?_)
  · rcases hbt with q0 | ⟨q1, hb⟩
    · omega
    · exact hret _ _ _ d_Mo_build_28 ⟨_, rfl, S, Q, hM, hQ, q1, hb, fun _ _ => rfl⟩
  · refine v_aload_n hX d_Mo_build_7 0 rfl ?_
    refine v_iconst hX (1) d_Mo_build_8 ?_
    refine v_aload_n hX d_Mo_build_9 0 rfl ?_
    refine g_get (i := 358) hX hj fl_Mo_69 d_Mo_build_10 (by omega) m0 rfl ?_
    refine v_ishl (z := (((2 ^ n) : Nat) : Int)) hX d_Mo_build_13 (iv_shl1 (n) (by omega)) ?_
    refine v_iconst hX (1) d_Mo_build_14 ?_
    refine v_isub hX d_Mo_build_15 ?_
    refine v_top (x' := iv (((2 ^ n - 1) : Nat) : Int)) (congrArg iv (by have h2 : 0 < 2 ^ n := Nat.two_pow_pos n; omega)) ?_
    refine g_callVV (As := [.int (iv ((((2 ^ n - 1) : Nat) : Int)))]) (st := []) hX hj (i := 358) (by omega) m0 (m_Mo_grow hj hM hD hQ hle hle1 hde hwo (2 ^ n - 1) hs tZ cZ tZ_ok cZ_ok) cl_Mo_166 d_Mo_build_16 rfl ⟨by decide, by decide⟩ ⟨by decide, by decide⟩ (Nat.le_of_ble_eq_true rfl) (fun σ2 hp4 => ?_)
    obtain ⟨Sg, Qg, gP, gQ, g15, gG, gF, gSk⟩ := hp4
    obtain ⟨s, hss⟩ : ∃ s : gS, s = (cTr so (mC n cl) (mK n val) (mLf n val so) le de wo (2 ^ n - 1)) := ⟨_, rfl⟩
    rw [cTr_eq, ← hss] at g15 gG
    have hgi : gInv 0 s := by rw [hss]; exact cTr_g hde d1 hs
    have hni : nIv n so (mC n cl) (mK n val) (mLf n val so) le wo 0 s 47 := by rw [hss]; exact cTr_n d1 d3 hle1 hs
    have ht := cTr_t hde d1 d3 hle1 hs hss
    refine v_aload_n hX d_Mo_build_19 0 rfl ?_
    refine g_callVV (As := []) (st := []) hX hj (i := 358) (by omega) gP.1 (m_Mo_findStages hj gP hD gQ gG hgi hni ht g15) cl_Mo_170 d_Mo_build_20 rfl ⟨by decide, by decide⟩ ⟨by decide, by decide⟩ (Nat.le_of_ble_eq_true rfl) (fun σ6 hp8 => ?_)
    obtain ⟨k, Sf, Qf, fP, fQ, fS, f26, fq, fF, fE, frs, fal⟩ := hp8
    refine v_aload_n hX d_Mo_build_23 0 rfl ?_
    refine v_iconst hX (1) d_Mo_build_24 ?_
    refine g_put (i := 358) (fs' := [.ref (ad 359), .int (iv (((n : Nat) : Int))), .ref (ad 360), .ref (ad 361), .int (iv (((de : Nat) : Int))), .int (iv (((le : Nat) : Int))), .int (iv (((wo : Nat) : Int))), .int (iv (1)), .long (jv ((Sf 8))), .long (jv ((Sf 9))), .int (iv ((Sf 10))), .int (iv ((Sf 11))), .int (iv ((Sf 12))), .long (jv ((Sf 13))), .long (jv ((Sf 14))), .int (iv ((Sf 15))), .ref (ad 362), .ref (ad 363), .ref (ad 364), .ref (ad 365), .ref (ad 366), .ref (ad 367), .ref (ad 368), .ref (ad 369), .ref (ad 370), .ref (ad 371), .int (iv ((Sf 26))), .ref (ad 372), .ref (ad 373), .ref (ad 374), .ref (ad 375), .int (iv ((Sf 31))), .int (iv ((Sf 32)))]) hX hj pf_Mo_76 d_Mo_build_25 (by omega) fP.1 rfl rfl (Nat.le_of_ble_eq_true rfl) rfl ?_
    obtain ⟨σ9, hs10⟩ : ∃ s9, s9 = va_up σ6 (358) (eO 9 [.ref (ad 359), .int (iv (((n : Nat) : Int))), .ref (ad 360), .ref (ad 361), .int (iv (((de : Nat) : Int))), .int (iv (((le : Nat) : Int))), .int (iv (((wo : Nat) : Int))), .int (iv (1)), .long (jv ((Sf 8))), .long (jv ((Sf 9))), .int (iv ((Sf 10))), .int (iv ((Sf 11))), .int (iv ((Sf 12))), .long (jv ((Sf 13))), .long (jv ((Sf 14))), .int (iv ((Sf 15))), .ref (ad 362), .ref (ad 363), .ref (ad 364), .ref (ad 365), .ref (ad 366), .ref (ad 367), .ref (ad 368), .ref (ad 369), .ref (ad 370), .ref (ad 371), .int (iv ((Sf 26))), .ref (ad 372), .ref (ad 373), .ref (ad 374), .ref (ad 375), .int (iv ((Sf 31))), .int (iv ((Sf 32)))]) := ⟨_, rfl⟩
    rw [← hs10]
    have hf12 : σ9 (358) = (eO 9 [.ref (ad 359), .int (iv (((n : Nat) : Int))), .ref (ad 360), .ref (ad 361), .int (iv (((de : Nat) : Int))), .int (iv (((le : Nat) : Int))), .int (iv (((wo : Nat) : Int))), .int (iv (1)), .long (jv ((Sf 8))), .long (jv ((Sf 9))), .int (iv ((Sf 10))), .int (iv ((Sf 11))), .int (iv ((Sf 12))), .long (jv ((Sf 13))), .long (jv ((Sf 14))), .int (iv ((Sf 15))), .ref (ad 362), .ref (ad 363), .ref (ad 364), .ref (ad 365), .ref (ad 366), .ref (ad 367), .ref (ad 368), .ref (ad 369), .ref (ad 370), .ref (ad 371), .int (iv ((Sf 26))), .ref (ad 372), .ref (ad 373), .ref (ad 374), .ref (ad 375), .int (iv ((Sf 31))), .int (iv ((Sf 32)))]) := by rw [hs10, va_up_self]
    have hQ13 : pMa G σ9 Qf := fQ.oth (fun i h1 h2 => by rw [hs10, va_up_ne _ _ (by omega)])
    have hPm : pMo G ad σ9 n val cl so de le wo (va_up Sf 7 1) := fP.up (by rw [hs10, va_up_self]; rfl) (by rw [hs10, va_up_ne _ _ (by decide)]) (by rw [hs10, va_up_ne _ _ (by decide)]) (by rw [hs10, va_up_ne _ _ (by decide)])
    exact hret _ _ _ d_Mo_build_28 ⟨_, rfl, va_up Sf 7 1, Qf, hPm, hQ13, rfl, ⟨s, hss, (fS 15 (by decide) (by decide) (by decide)).trans g15, moG_c gG (fun q a1 a2 => fq q a1 (by omega)), k, f26, fE, frs, fal⟩, fun i hi => by rw [hs10, va_up_ne _ _ (by omega), fF i (by omega) (by omega), gF i (by omega) (by omega)]⟩

set_option maxHeartbeats 1000000 in
set_option maxRecDepth 100000 in
theorem m_Mo_nodes {G : xG} {f0 : xF} {ad : Nat → Nat} (hj : adOk ad 400) {σ : xF} {n : Nat} {val : Nat → Nat → Int} {cl so : Nat → Nat} {de le wo : Nat} {S : Nat → Int} (hM : pMo G ad σ n val cl so de le wo S) (hD : dTab n val cl so) {Q : Nat → Nat → Int} (hQ : pMa G σ Q) (hle : le ≤ 10) (hle1 : 1 ≤ le) (hde : de ≤ 5) (hwo : wo ≤ 1000) (hbt : S 7 = 0 ∨ (S 7 = 1 ∧ moB so (mC n cl) (mK n val) (mLf n val so) le de wo n S Q))  : ∀ l, gI l G f0 ad 400 y_Mo_nodes (.code y_Mo_nodes c_Mo_nodes 1 (some (.int))) rm_Mo_nodes [.ref (ad 358)] σ (fun z σ' => ∃ Sv Qv, pMo G ad σ' n val cl so de le wo Sv ∧ pMa G σ' Qv ∧ Sv 7 = 1 ∧ moB so (mC n cl) (mK n val) (mLf n val so) le de wo n Sv Qv ∧ (∀ i, i < 358 → σ' i = σ i) ∧ z = ((cTr so (mC n cl) (mK n val) (mLf n val so) le de wo (2 ^ n - 1)).1 : Int)) := by
  intro l
  refine mI_of (rt := .int) (by decide) (Nat.le_of_ble_eq_true rfl) (fun X hX hret => ?_)
  show vV G X 0 0 0 [(0, .ref (ad 358))] [] (ov f0 ad 400 σ)
  obtain ⟨m0, ⟨sf, m1, m1e⟩, ⟨vf, m2, m2e⟩, ⟨cf, m3, m3e⟩⟩ := id hM
  obtain ⟨d1, d2, d3, d4⟩ := id hD
  have hs : 2 ^ n - 1 < 2 ^ n := by have h2 : 0 < 2 ^ n := Nat.two_pow_pos n; omega
  refine v_aload_n hX d_Mo_nodes_0 0 rfl ?_
  refine g_callVV (As := []) (st := []) hX hj (i := 358) (by omega) m0 (m_Mo_build hj hM hD hQ hle hle1 hde hwo hbt) cl_Mo_173 d_Mo_nodes_1 rfl ⟨by decide, by decide⟩ ⟨by decide, by decide⟩ (Nat.le_of_ble_eq_true rfl) (fun σ2 hp4 => ?_)
  obtain ⟨Sv, Qv, vP, vQ, v7, vB, vF⟩ := hp4
  obtain ⟨s, hss, h15, hG, k, h26, hE, hrs, hal⟩ := id vB
  have hgi : gInv 0 s := by rw [hss]; exact cTr_g hde d1 hs
  have hni : nIv n so (mC n cl) (mK n val) (mLf n val so) le wo 0 s 47 := by rw [hss]; exact cTr_n d1 d3 hle1 hs
  have ht := cTr_t hde d1 d3 hle1 hs hss
  have hs47 := hgi.1.2.1
  have hs1 := hgi.1.1
  have hk24 := hE.2.1
  have hm8 : σ2 358 = eO 9 [.ref (ad 359), .int (iv (((n : Nat) : Int))), .ref (ad 360), .ref (ad 361), .int (iv (((de : Nat) : Int))), .int (iv (((le : Nat) : Int))), .int (iv (((wo : Nat) : Int))), .int (iv ((Sv 7))), .long (jv ((Sv 8))), .long (jv ((Sv 9))), .int (iv ((Sv 10))), .int (iv ((Sv 11))), .int (iv ((Sv 12))), .long (jv ((Sv 13))), .long (jv ((Sv 14))), .int (iv (((s.1 : Nat) : Int))), .ref (ad 362), .ref (ad 363), .ref (ad 364), .ref (ad 365), .ref (ad 366), .ref (ad 367), .ref (ad 368), .ref (ad 369), .ref (ad 370), .ref (ad 371), .int (iv ((((k + 1) : Nat) : Int))), .ref (ad 372), .ref (ad 373), .ref (ad 374), .ref (ad 375), .int (iv ((Sv 31))), .int (iv ((Sv 32)))] := by have h := vP.1; unfold moE at h; rw [h15, h26] at h; exact h
  have r15 : ir (Sv 15) := by rw [h15]; exact ir_n (by omega)
  have r26 : ir (Sv 26) := by rw [h26]; exact ir_n (by omega)
  refine v_aload_n hX d_Mo_nodes_4 0 rfl ?_
  refine g_get (i := 358) hX hj fl_Mo_147 d_Mo_nodes_5 (by omega) hm8 rfl ?_
  exact hret _ _ _ _ d_Mo_nodes_8 (ir_n (by omega)) ⟨_, rfl, Sv, Qv, vP, vQ, v7, vB, vF, (by rw [hss])⟩ rfl

set_option maxHeartbeats 1000000 in
set_option maxRecDepth 100000 in
theorem m_Mo_stages {G : xG} {f0 : xF} {ad : Nat → Nat} (hj : adOk ad 400) {σ : xF} {n : Nat} {val : Nat → Nat → Int} {cl so : Nat → Nat} {de le wo : Nat} {S : Nat → Int} (hM : pMo G ad σ n val cl so de le wo S) (hD : dTab n val cl so) {Q : Nat → Nat → Int} (hQ : pMa G σ Q) (hle : le ≤ 10) (hle1 : 1 ≤ le) (hde : de ≤ 5) (hwo : wo ≤ 1000) (hbt : S 7 = 0 ∨ (S 7 = 1 ∧ moB so (mC n cl) (mK n val) (mLf n val so) le de wo n S Q))  : ∀ l, gI l G f0 ad 400 y_Mo_stages (.code y_Mo_stages c_Mo_stages 1 (some (.int))) rm_Mo_stages [.ref (ad 358)] σ (fun z σ' => ∃ Sv Qv, pMo G ad σ' n val cl so de le wo Sv ∧ pMa G σ' Qv ∧ Sv 7 = 1 ∧ moB so (mC n cl) (mK n val) (mLf n val so) le de wo n Sv Qv ∧ (∀ i, i < 358 → σ' i = σ i) ∧ ∃ E : Nat, isE (cTr so (mC n cl) (mK n val) (mLf n val so) le de wo (2 ^ n - 1)).1 (cTr so (mC n cl) (mK n val) (mLf n val so) le de wo (2 ^ n - 1)).2.1 (cTr so (mC n cl) (mK n val) (mLf n val so) le de wo (2 ^ n - 1)).2.2 E ∧ z = (E : Int)) := by
  intro l
  refine mI_of (rt := .int) (by decide) (Nat.le_of_ble_eq_true rfl) (fun X hX hret => ?_)
  show vV G X 0 0 0 [(0, .ref (ad 358))] [] (ov f0 ad 400 σ)
  obtain ⟨m0, ⟨sf, m1, m1e⟩, ⟨vf, m2, m2e⟩, ⟨cf, m3, m3e⟩⟩ := id hM
  obtain ⟨d1, d2, d3, d4⟩ := id hD
  have hs : 2 ^ n - 1 < 2 ^ n := by have h2 : 0 < 2 ^ n := Nat.two_pow_pos n; omega
  refine v_aload_n hX d_Mo_stages_0 0 rfl ?_
  refine g_callVV (As := []) (st := []) hX hj (i := 358) (by omega) m0 (m_Mo_build hj hM hD hQ hle hle1 hde hwo hbt) cl_Mo_173 d_Mo_stages_1 rfl ⟨by decide, by decide⟩ ⟨by decide, by decide⟩ (Nat.le_of_ble_eq_true rfl) (fun σ2 hp4 => ?_)
  obtain ⟨Sv, Qv, vP, vQ, v7, vB, vF⟩ := hp4
  obtain ⟨s, hss, h15, hG, k, h26, hE, hrs, hal⟩ := id vB
  have hgi : gInv 0 s := by rw [hss]; exact cTr_g hde d1 hs
  have hni : nIv n so (mC n cl) (mK n val) (mLf n val so) le wo 0 s 47 := by rw [hss]; exact cTr_n d1 d3 hle1 hs
  have ht := cTr_t hde d1 d3 hle1 hs hss
  have hs47 := hgi.1.2.1
  have hs1 := hgi.1.1
  have hk24 := hE.2.1
  have hm8 : σ2 358 = eO 9 [.ref (ad 359), .int (iv (((n : Nat) : Int))), .ref (ad 360), .ref (ad 361), .int (iv (((de : Nat) : Int))), .int (iv (((le : Nat) : Int))), .int (iv (((wo : Nat) : Int))), .int (iv ((Sv 7))), .long (jv ((Sv 8))), .long (jv ((Sv 9))), .int (iv ((Sv 10))), .int (iv ((Sv 11))), .int (iv ((Sv 12))), .long (jv ((Sv 13))), .long (jv ((Sv 14))), .int (iv (((s.1 : Nat) : Int))), .ref (ad 362), .ref (ad 363), .ref (ad 364), .ref (ad 365), .ref (ad 366), .ref (ad 367), .ref (ad 368), .ref (ad 369), .ref (ad 370), .ref (ad 371), .int (iv ((((k + 1) : Nat) : Int))), .ref (ad 372), .ref (ad 373), .ref (ad 374), .ref (ad 375), .int (iv ((Sv 31))), .int (iv ((Sv 32)))] := by have h := vP.1; unfold moE at h; rw [h15, h26] at h; exact h
  have r15 : ir (Sv 15) := by rw [h15]; exact ir_n (by omega)
  have r26 : ir (Sv 26) := by rw [h26]; exact ir_n (by omega)
  refine v_aload_n hX d_Mo_stages_4 0 rfl ?_
  refine g_get (i := 358) hX hj fl_Mo_200 d_Mo_stages_5 (by omega) hm8 rfl ?_
  exact hret _ _ _ _ d_Mo_stages_8 (ir_n (by omega)) ⟨_, rfl, Sv, Qv, vP, vQ, v7, vB, vF, ⟨k + 1, by rw [← hss]; exact hE, rfl⟩⟩ rfl

set_option maxHeartbeats 1000000 in
set_option maxRecDepth 100000 in
theorem m_Mo_count {G : xG} {f0 : xF} {ad : Nat → Nat} (hj : adOk ad 400) {σ : xF} {n : Nat} {val : Nat → Nat → Int} {cl so : Nat → Nat} {de le wo : Nat} {S : Nat → Int} (hM : pMo G ad σ n val cl so de le wo S) (hD : dTab n val cl so) {Q : Nat → Nat → Int} (hQ : pMa G σ Q) (hle : le ≤ 10) (hle1 : 1 ≤ le) (hde : de ≤ 5) (hwo : wo ≤ 1000) (hbt : S 7 = 0 ∨ (S 7 = 1 ∧ moB so (mC n cl) (mK n val) (mLf n val so) le de wo n S Q)) (x c : Int) (hx0 : ir x) (hc : ir c) : ∀ l, gI l G f0 ad 400 y_Mo_count (.code y_Mo_count c_Mo_count 3 (some (.int))) rm_Mo_count [.ref (ad 358), .int (iv (x)), .int (iv (c))] σ (fun z σ' => ∃ Sv Qv, pMo G ad σ' n val cl so de le wo Sv ∧ pMa G σ' Qv ∧ Sv 7 = 1 ∧ moB so (mC n cl) (mK n val) (mLf n val so) le de wo n Sv Qv ∧ (∀ i, i < 358 → σ' i = σ i) ∧ z = aCount (mC n cl) (cTr so (mC n cl) (mK n val) (mLf n val so) le de wo (2 ^ n - 1)).1 (cTr so (mC n cl) (mK n val) (mLf n val so) le de wo (2 ^ n - 1)).2.1 x c) := by
  intro l
  refine mI_of (rt := .int) (by decide) (Nat.le_of_ble_eq_true rfl) (fun X hX hret => ?_)
  show vV G X 0 0 0 [(0, .ref (ad 358)), (1, .int (iv (x))), (2, .int (iv (c)))] [] (ov f0 ad 400 σ)
  obtain ⟨m0, ⟨sf, m1, m1e⟩, ⟨vf, m2, m2e⟩, ⟨cf, m3, m3e⟩⟩ := id hM
  obtain ⟨d1, d2, d3, d4⟩ := id hD
  have hs : 2 ^ n - 1 < 2 ^ n := by have h2 : 0 < 2 ^ n := Nat.two_pow_pos n; omega
  refine v_aload_n hX d_Mo_count_0 0 rfl ?_
  refine g_callVV (As := []) (st := []) hX hj (i := 358) (by omega) m0 (m_Mo_build hj hM hD hQ hle hle1 hde hwo hbt) cl_Mo_173 d_Mo_count_1 rfl ⟨by decide, by decide⟩ ⟨by decide, by decide⟩ (Nat.le_of_ble_eq_true rfl) (fun σ2 hp4 => ?_)
  obtain ⟨Sv, Qv, vP, vQ, v7, vB, vF⟩ := hp4
  obtain ⟨s, hss, h15, hG, k, h26, hE, hrs, hal⟩ := id vB
  have hgi : gInv 0 s := by rw [hss]; exact cTr_g hde d1 hs
  have hni : nIv n so (mC n cl) (mK n val) (mLf n val so) le wo 0 s 47 := by rw [hss]; exact cTr_n d1 d3 hle1 hs
  have ht := cTr_t hde d1 d3 hle1 hs hss
  have hs47 := hgi.1.2.1
  have hs1 := hgi.1.1
  have hk24 := hE.2.1
  have hm8 : σ2 358 = eO 9 [.ref (ad 359), .int (iv (((n : Nat) : Int))), .ref (ad 360), .ref (ad 361), .int (iv (((de : Nat) : Int))), .int (iv (((le : Nat) : Int))), .int (iv (((wo : Nat) : Int))), .int (iv ((Sv 7))), .long (jv ((Sv 8))), .long (jv ((Sv 9))), .int (iv ((Sv 10))), .int (iv ((Sv 11))), .int (iv ((Sv 12))), .long (jv ((Sv 13))), .long (jv ((Sv 14))), .int (iv (((s.1 : Nat) : Int))), .ref (ad 362), .ref (ad 363), .ref (ad 364), .ref (ad 365), .ref (ad 366), .ref (ad 367), .ref (ad 368), .ref (ad 369), .ref (ad 370), .ref (ad 371), .int (iv ((((k + 1) : Nat) : Int))), .ref (ad 372), .ref (ad 373), .ref (ad 374), .ref (ad 375), .int (iv ((Sv 31))), .int (iv ((Sv 32)))] := by have h := vP.1; unfold moE at h; rw [h15, h26] at h; exact h
  have r15 : ir (Sv 15) := by rw [h15]; exact ir_n (by omega)
  have r26 : ir (Sv 26) := by rw [h26]; exact ir_n (by omega)
  refine v_aload_n hX d_Mo_count_4 0 rfl ?_
  refine v_iload_n hX d_Mo_count_5 1 rfl ?_
  refine g_callVI (As := [.int (iv (x))]) (st := []) hX hj (i := 358) (by omega) hm8 (m_Mo_isNode hj vP hD x (by assumption) r15) cl_Mo_176 d_Mo_count_6 rfl ⟨by decide, by decide⟩ ⟨by decide, by decide⟩ (Nat.le_of_ble_eq_true rfl) (fun z5 σ6 hz7 hp8 => ?_)
  obtain ⟨he9, hv10⟩ := hp8
  rw [h15] at hv10
  rw [he9]
  by_cases q11 : 0 ≤ x ∧ x < (s.1 : Int)
  · have z5e : z5 = 1 := hv10.trans (if_pos q11)
    subst z5e
    have hx : x.toNat < s.1 := by omega
    obtain ⟨g1, g2, g3⟩ := hG x.toNat hx
    obtain ⟨⟨o1, o2⟩, ⟨o3, o4⟩, o5, o6⟩ := hgi.1.2.2 x.toNat hx
    obtain ⟨y1, y2, y4, y5⟩ := hni.1 x.toNat hx
    obtain ⟨ro, ero⟩ : ∃ ro : Nat, s.2.1 x.toNat 2 = (ro : Int) := ⟨(s.2.1 x.toNat 2).toNat, by omega⟩
    have ero2 : (s.2.1 x.toNat 2).toNat = ro := by rw [ero, Int.toNat_natCast]
    rw [ero2] at y2 y4 y5
    have hro24 : ro < 16777216 := by omega
    refine v_if_eq (tgt := 35) hX d_Mo_count_9 (by decide) (by first | assumption | (unfold ir; omega)) (fun c9 => absurd c9 (by omega)) (fun c9 => ?_)
    refine v_iload_n hX d_Mo_count_12 2 rfl ?_
    refine v_if_lt (tgt := 35) hX d_Mo_count_13 (by decide) (by first | assumption | (unfold ir; omega)) (fun c13_2 => ?_) (fun c13_2 => ?_)
    · refine v_iconst hX (-1) d_Mo_count_35 ?_
      exact hret _ _ _ _ d_Mo_count_36 (by unfold ir; omega) ⟨_, rfl, Sv, Qv, vP, vQ, v7, vB, vF, (by rw [← hss]; exact aCount_f (by omega))⟩ rfl
    · refine v_iload_n hX d_Mo_count_16 2 rfl ?_
      refine v_iconst hX (3) d_Mo_count_17 ?_
      refine v_icmp_ge (tgt := 35) hX d_Mo_count_18 (by decide) (by first | assumption | (unfold ir; omega)) (by first | assumption | (unfold ir; omega)) (fun c18_3 => ?_) (fun c18_3 => ?_)
      · refine v_iconst hX (-1) d_Mo_count_35 ?_
        exact hret _ _ _ _ d_Mo_count_36 (by unfold ir; omega) ⟨_, rfl, Sv, Qv, vP, vQ, v7, vB, vF, (by rw [← hss]; exact aCount_f (by omega))⟩ rfl
      · refine v_aload_n hX d_Mo_count_21 0 rfl ?_
        refine v_aload_n hX d_Mo_count_22 0 rfl ?_
        refine g_get (i := 358) hX hj fl_Mo_26 d_Mo_count_23 (by omega) hm8 rfl ?_
        refine v_iload_n hX d_Mo_count_26 1 rfl ?_
        refine g_iald (i := 362) hX hj d_Mo_count_27 (by omega) (vQ.1 362 (by decide) (by decide)) (by decide) (Int.toNat (x)) (by omega) (by omega) ?_
        refine v_top (x' := iv (((ro : Nat) : Int))) (congrArg iv (g1.trans ero)) ?_
        refine v_iload_n hX d_Mo_count_28 2 rfl ?_
        refine v_eq (st' := [.int (iv (((c.toNat : Nat) : Int))), .int (iv (((ro : Nat) : Int))), .ref (ad 358)]) (by rw [show ((c.toNat : Nat) : Int) = c by omega]) ?_
        refine g_callVI (As := [.int (iv (((ro : Nat) : Int))), .int (iv (((c.toNat : Nat) : Int)))]) (st := []) hX hj (i := 358) (by omega) hm8 (m_Mo_of hj vP hD ro c.toNat hro24 (by omega)) cl_Mo_83 d_Mo_count_29 rfl ⟨by decide, by decide⟩ ⟨by decide, by decide⟩ (Nat.le_of_ble_eq_true rfl) (fun z12 σ13 hz14 hp15 => ?_)
        obtain ⟨he16, hv17⟩ := hp15
        rw [he16]
        refine v_goto (tgt := 36) hX d_Mo_count_32 (by decide) ?_
        exact hret _ _ _ _ d_Mo_count_36 hz14 ⟨_, rfl, Sv, Qv, vP, vQ, v7, vB, vF, (by rw [← hss]; exact aCount_t (by assumption) (by omega) (by rw [ero2]; exact hv17))⟩ rfl
  · have z5e : z5 = 0 := hv10.trans (if_neg q11)
    subst z5e
    refine v_if_eq (tgt := 35) hX d_Mo_count_9 (by decide) (by first | assumption | (unfold ir; omega)) (fun c9 => ?_) (fun c9 => absurd c9 (by omega))
    refine v_iconst hX (-1) d_Mo_count_35 ?_
    exact hret _ _ _ _ d_Mo_count_36 (by unfold ir; omega) ⟨_, rfl, Sv, Qv, vP, vQ, v7, vB, vF, (by rw [← hss]; exact aCount_f (by omega))⟩ rfl

set_option maxHeartbeats 1000000 in
set_option maxRecDepth 100000 in
theorem m_Mo_gain {G : xG} {f0 : xF} {ad : Nat → Nat} (hj : adOk ad 400) {σ : xF} {n : Nat} {val : Nat → Nat → Int} {cl so : Nat → Nat} {de le wo : Nat} {S : Nat → Int} (hM : pMo G ad σ n val cl so de le wo S) (hD : dTab n val cl so) {Q : Nat → Nat → Int} (hQ : pMa G σ Q) (hle : le ≤ 10) (hle1 : 1 ≤ le) (hde : de ≤ 5) (hwo : wo ≤ 1000) (hbt : S 7 = 0 ∨ (S 7 = 1 ∧ moB so (mC n cl) (mK n val) (mLf n val so) le de wo n S Q)) (x p : Int) (hx0 : ir x) (hp0 : ir p) : ∀ l, gI l G f0 ad 400 y_Mo_gain (.code y_Mo_gain c_Mo_gain 3 (some (.int))) rm_Mo_gain [.ref (ad 358), .int (iv (x)), .int (iv (p))] σ (fun z σ' => ∃ Sv Qv, pMo G ad σ' n val cl so de le wo Sv ∧ pMa G σ' Qv ∧ Sv 7 = 1 ∧ moB so (mC n cl) (mK n val) (mLf n val so) le de wo n Sv Qv ∧ (∀ i, i < 358 → σ' i = σ i) ∧ z = aGain (cTr so (mC n cl) (mK n val) (mLf n val so) le de wo (2 ^ n - 1)).1 (cTr so (mC n cl) (mK n val) (mLf n val so) le de wo (2 ^ n - 1)).2.1 (cTr so (mC n cl) (mK n val) (mLf n val so) le de wo (2 ^ n - 1)).2.2 x p) := by
  intro l
  refine mI_of (rt := .int) (by decide) (Nat.le_of_ble_eq_true rfl) (fun X hX hret => ?_)
  show vV G X 0 0 0 [(0, .ref (ad 358)), (1, .int (iv (x))), (2, .int (iv (p)))] [] (ov f0 ad 400 σ)
  obtain ⟨m0, ⟨sf, m1, m1e⟩, ⟨vf, m2, m2e⟩, ⟨cf, m3, m3e⟩⟩ := id hM
  obtain ⟨d1, d2, d3, d4⟩ := id hD
  have hs : 2 ^ n - 1 < 2 ^ n := by have h2 : 0 < 2 ^ n := Nat.two_pow_pos n; omega
  refine v_aload_n hX d_Mo_gain_0 0 rfl ?_
  refine g_callVV (As := []) (st := []) hX hj (i := 358) (by omega) m0 (m_Mo_build hj hM hD hQ hle hle1 hde hwo hbt) cl_Mo_173 d_Mo_gain_1 rfl ⟨by decide, by decide⟩ ⟨by decide, by decide⟩ (Nat.le_of_ble_eq_true rfl) (fun σ2 hp4 => ?_)
  obtain ⟨Sv, Qv, vP, vQ, v7, vB, vF⟩ := hp4
  obtain ⟨s, hss, h15, hG, k, h26, hE, hrs, hal⟩ := id vB
  have hgi : gInv 0 s := by rw [hss]; exact cTr_g hde d1 hs
  have hni : nIv n so (mC n cl) (mK n val) (mLf n val so) le wo 0 s 47 := by rw [hss]; exact cTr_n d1 d3 hle1 hs
  have ht := cTr_t hde d1 d3 hle1 hs hss
  have hs47 := hgi.1.2.1
  have hs1 := hgi.1.1
  have hk24 := hE.2.1
  have hm8 : σ2 358 = eO 9 [.ref (ad 359), .int (iv (((n : Nat) : Int))), .ref (ad 360), .ref (ad 361), .int (iv (((de : Nat) : Int))), .int (iv (((le : Nat) : Int))), .int (iv (((wo : Nat) : Int))), .int (iv ((Sv 7))), .long (jv ((Sv 8))), .long (jv ((Sv 9))), .int (iv ((Sv 10))), .int (iv ((Sv 11))), .int (iv ((Sv 12))), .long (jv ((Sv 13))), .long (jv ((Sv 14))), .int (iv (((s.1 : Nat) : Int))), .ref (ad 362), .ref (ad 363), .ref (ad 364), .ref (ad 365), .ref (ad 366), .ref (ad 367), .ref (ad 368), .ref (ad 369), .ref (ad 370), .ref (ad 371), .int (iv ((((k + 1) : Nat) : Int))), .ref (ad 372), .ref (ad 373), .ref (ad 374), .ref (ad 375), .int (iv ((Sv 31))), .int (iv ((Sv 32)))] := by have h := vP.1; unfold moE at h; rw [h15, h26] at h; exact h
  have r15 : ir (Sv 15) := by rw [h15]; exact ir_n (by omega)
  have r26 : ir (Sv 26) := by rw [h26]; exact ir_n (by omega)
  refine v_aload_n hX d_Mo_gain_4 0 rfl ?_
  refine v_iload_n hX d_Mo_gain_5 1 rfl ?_
  refine g_callVI (As := [.int (iv (x))]) (st := []) hX hj (i := 358) (by omega) hm8 (m_Mo_isNode hj vP hD x (by assumption) r15) cl_Mo_176 d_Mo_gain_6 rfl ⟨by decide, by decide⟩ ⟨by decide, by decide⟩ (Nat.le_of_ble_eq_true rfl) (fun z5 σ6 hz7 hp8 => ?_)
  obtain ⟨he9, hv10⟩ := hp8
  rw [h15] at hv10
  rw [he9]
  by_cases q11 : 0 ≤ x ∧ x < (s.1 : Int)
  · have z5e : z5 = 1 := hv10.trans (if_pos q11)
    subst z5e
    have hx : x.toNat < s.1 := by omega
    obtain ⟨g1, g2, g3⟩ := hG x.toNat hx
    obtain ⟨⟨o1, o2⟩, ⟨o3, o4⟩, o5, o6⟩ := hgi.1.2.2 x.toNat hx
    obtain ⟨y1, y2, y4, y5⟩ := hni.1 x.toNat hx
    obtain ⟨ro, ero⟩ : ∃ ro : Nat, s.2.1 x.toNat 2 = (ro : Int) := ⟨(s.2.1 x.toNat 2).toNat, by omega⟩
    have ero2 : (s.2.1 x.toNat 2).toNat = ro := by rw [ero, Int.toNat_natCast]
    rw [ero2] at y2 y4 y5
    have hro24 : ro < 16777216 := by omega
    refine v_if_ne (tgt := 14) hX d_Mo_gain_9 (by decide) (by first | assumption | (unfold ir; omega)) (fun c9 => ?_) (fun c9 => absurd c9 (by omega))
    refine v_iload_n hX d_Mo_gain_14 2 rfl ?_
    refine v_if_lt (tgt := 23) hX d_Mo_gain_15 (by decide) (by first | assumption | (unfold ir; omega)) (fun c15_2 => ?_) (fun c15_2 => ?_)
    · refine v_bipush hX (-2) d_Mo_gain_23 rfl ?_
      exact hret _ _ _ _ d_Mo_gain_25 (by unfold ir; omega) ⟨_, rfl, Sv, Qv, vP, vQ, v7, vB, vF, (by rw [← hss]; exact aGain_p (by assumption) (by omega))⟩ rfl
    · refine v_iload_n hX d_Mo_gain_18 2 rfl ?_
      refine v_iconst hX (1) d_Mo_gain_19 ?_
      refine v_icmp_le (tgt := 26) hX d_Mo_gain_20 (by decide) (by first | assumption | (unfold ir; omega)) (by first | assumption | (unfold ir; omega)) (fun c20_3 => ?_) (fun c20_3 => ?_)
      · rcases g3 with ⟨hn0, kn⟩ | ⟨m, hch, k7, k8, k4, k5, k6, k9, k0⟩
        · refine v_aload_n hX d_Mo_gain_26 0 rfl ?_
          refine g_get (i := 358) hX hj fl_Mo_41 d_Mo_gain_27 (by omega) hm8 rfl ?_
          refine v_iload_n hX d_Mo_gain_30 1 rfl ?_
          refine g_iald (i := 367) hX hj d_Mo_gain_31 (by omega) (vQ.1 367 (by decide) (by decide)) (by decide) (Int.toNat (x)) (by omega) (by omega) ?_
          refine v_top (x' := iv ((-1))) (congrArg iv kn) ?_
          refine v_if_ge (tgt := 40) hX d_Mo_gain_32 (by decide) (by first | assumption | (unfold ir; omega)) (fun c9 => absurd c9 (by omega)) (fun c9 => ?_)
          refine v_bipush hX (-3) d_Mo_gain_35 rfl ?_
          refine v_goto (tgt := 56) hX d_Mo_gain_37 (by decide) ?_
          exact hret _ _ _ _ d_Mo_gain_56 (by unfold ir; omega) ⟨_, rfl, Sv, Qv, vP, vQ, v7, vB, vF, (by rw [← hss]; exact aGain_u (by assumption) (by omega) hn0)⟩ rfl
        · obtain ⟨m9, z1, hm1, hm2, -⟩ := hgi.2.2.2 x.toNat _ hx hch
          obtain ⟨c1, n1, s1, m1, e1, e2, e3, e4, e5, e6, e7, e8, e9, e10, e11, -⟩ := hni.2.2.2 x.toNat _ hx hch
          rw [ero2] at e4 e5 e9 e10 e11
          obtain ⟨⟨ga0, ga1⟩, gb0, gb1⟩ := kGa (rC := mC n cl) hle1 e5
          obtain ⟨aa, haa⟩ : ∃ aa : Nat, kAb (mC n cl) (mK n val) (mLf n val so) ro c1 n1 s1 = aa := ⟨(kAb (mC n cl) (mK n val) (mLf n val so) ro c1 n1 s1).toNat, by omega⟩
          obtain ⟨bb, hbb⟩ : ∃ bb : Nat, bb = kBe (mK n val) (mLf n val so) ro c1 n1 s1 := ⟨_, rfl⟩
          rw [haa] at ga1 e9
          rw [← hbb] at gb0 gb1 e10
          refine v_aload_n hX d_Mo_gain_26 0 rfl ?_
          refine g_get (i := 358) hX hj fl_Mo_41 d_Mo_gain_27 (by omega) hm8 rfl ?_
          refine v_iload_n hX d_Mo_gain_30 1 rfl ?_
          refine g_iald (i := 367) hX hj d_Mo_gain_31 (by omega) (vQ.1 367 (by decide) (by decide)) (by decide) (Int.toNat (x)) (by omega) (by omega) ?_
          refine v_top (x' := iv (((m : Nat) : Int))) (congrArg iv k7) ?_
          refine v_if_ge (tgt := 40) hX d_Mo_gain_32 (by decide) (by first | assumption | (unfold ir; omega)) (fun c32_5 => ?_) (fun c32_5 => absurd c32_5 (by omega))
          refine v_aload_n hX d_Mo_gain_40 0 rfl ?_
          refine g_get (i := 358) hX hj fl_Mo_47 d_Mo_gain_41 (by omega) hm8 rfl ?_
          refine v_iload_n hX d_Mo_gain_44 1 rfl ?_
          refine g_lald (i := 369) hX hj d_Mo_gain_45 (by omega) (vQ.2.1 369 (by decide) (by decide)) (by decide) (Int.toNat (x)) (by omega) (by omega) ?_
          refine v_aload_n hX d_Mo_gain_46 0 rfl ?_
          refine g_get (i := 358) hX hj fl_Mo_51 d_Mo_gain_47 (by omega) hm8 rfl ?_
          refine v_iload_n hX d_Mo_gain_50 1 rfl ?_
          refine g_lald (i := 370) hX hj d_Mo_gain_51 (by omega) (vQ.2.1 370 (by decide) (by decide)) (by decide) (Int.toNat (x)) (by omega) (by omega) ?_
          refine v_iload_n hX d_Mo_gain_52 2 rfl ?_
          refine v_eq (st' := [.int (iv (p)), .long (jv (((bb : Nat) : Int))), .long (jv (((aa : Nat) : Int)))]) (by rw [show Qv 369 x.toNat = ((aa : Nat) : Int) from k9.trans e9, show Qv 370 x.toNat = ((bb : Nat) : Int) from k0.trans e10]) ?_
          refine g_callSI (As := [.long (jv (((aa : Nat) : Int))), .long (jv (((bb : Nat) : Int))), .int (iv (p))]) (st := []) hX (k0_Mo_lowest aa bb (by omega) gb1 gb0 p (by omega)) cl_Mo_183 d_Mo_gain_53 rfl ⟨by decide, by decide⟩ ⟨by decide, by decide⟩ (Nat.le_of_ble_eq_true rfl) (fun z12 hz13 hp14 => ?_)
          exact hret _ _ _ _ d_Mo_gain_56 hz13 ⟨_, rfl, Sv, Qv, vP, vQ, v7, vB, vF, (by rw [← hss]; exact aGain_t (by assumption) (by omega) (by rw [hch]; exact fun e => by cases e) (lowT_e e9 e10 hp14))⟩ rfl
      · refine v_bipush hX (-2) d_Mo_gain_23 rfl ?_
        exact hret _ _ _ _ d_Mo_gain_25 (by unfold ir; omega) ⟨_, rfl, Sv, Qv, vP, vQ, v7, vB, vF, (by rw [← hss]; exact aGain_p (by assumption) (by omega))⟩ rfl
  · have z5e : z5 = 0 := hv10.trans (if_neg q11)
    subst z5e
    refine v_if_ne (tgt := 14) hX d_Mo_gain_9 (by decide) (by first | assumption | (unfold ir; omega)) (fun c9 => absurd c9 (by omega)) (fun c9 => ?_)
    refine v_iconst hX (-1) d_Mo_gain_12 ?_
    exact hret _ _ _ _ d_Mo_gain_13 (by unfold ir; omega) ⟨_, rfl, Sv, Qv, vP, vQ, v7, vB, vF, (by rw [← hss]; exact aGain_n (by assumption))⟩ rfl

set_option maxHeartbeats 1000000 in
set_option maxRecDepth 100000 in
theorem m_Mo_node {G : xG} {f0 : xF} {ad : Nat → Nat} (hj : adOk ad 400) {σ : xF} {n : Nat} {val : Nat → Nat → Int} {cl so : Nat → Nat} {de le wo : Nat} {S : Nat → Int} (hM : pMo G ad σ n val cl so de le wo S) (hD : dTab n val cl so) {Q : Nat → Nat → Int} (hQ : pMa G σ Q) (hle : le ≤ 10) (hle1 : 1 ≤ le) (hde : de ≤ 5) (hwo : wo ≤ 1000) (hbt : S 7 = 0 ∨ (S 7 = 1 ∧ moB so (mC n cl) (mK n val) (mLf n val so) le de wo n S Q)) (x wh : Int) (hx0 : ir x) (hw0 : ir wh) : ∀ l, gI l G f0 ad 400 y_Mo_node (.code y_Mo_node c_Mo_node 3 (some (.int))) rm_Mo_node [.ref (ad 358), .int (iv (x)), .int (iv (wh))] σ (fun z σ' => ∃ Sv Qv, pMo G ad σ' n val cl so de le wo Sv ∧ pMa G σ' Qv ∧ Sv 7 = 1 ∧ moB so (mC n cl) (mK n val) (mLf n val so) le de wo n Sv Qv ∧ (∀ i, i < 358 → σ' i = σ i) ∧ z = aNode (cTr so (mC n cl) (mK n val) (mLf n val so) le de wo (2 ^ n - 1)).1 (cTr so (mC n cl) (mK n val) (mLf n val so) le de wo (2 ^ n - 1)).2.1 (cTr so (mC n cl) (mK n val) (mLf n val so) le de wo (2 ^ n - 1)).2.2 x wh) := by
  intro l
  refine mI_of (rt := .int) (by decide) (Nat.le_of_ble_eq_true rfl) (fun X hX hret => ?_)
  show vV G X 0 0 0 [(0, .ref (ad 358)), (1, .int (iv (x))), (2, .int (iv (wh)))] [] (ov f0 ad 400 σ)
  obtain ⟨m0, ⟨sf, m1, m1e⟩, ⟨vf, m2, m2e⟩, ⟨cf, m3, m3e⟩⟩ := id hM
  obtain ⟨d1, d2, d3, d4⟩ := id hD
  have hs : 2 ^ n - 1 < 2 ^ n := by have h2 : 0 < 2 ^ n := Nat.two_pow_pos n; omega
  refine v_aload_n hX d_Mo_node_0 0 rfl ?_
  refine g_callVV (As := []) (st := []) hX hj (i := 358) (by omega) m0 (m_Mo_build hj hM hD hQ hle hle1 hde hwo hbt) cl_Mo_173 d_Mo_node_1 rfl ⟨by decide, by decide⟩ ⟨by decide, by decide⟩ (Nat.le_of_ble_eq_true rfl) (fun σ2 hp4 => ?_)
  obtain ⟨Sv, Qv, vP, vQ, v7, vB, vF⟩ := hp4
  obtain ⟨s, hss, h15, hG, k, h26, hE, hrs, hal⟩ := id vB
  have hgi : gInv 0 s := by rw [hss]; exact cTr_g hde d1 hs
  have hni : nIv n so (mC n cl) (mK n val) (mLf n val so) le wo 0 s 47 := by rw [hss]; exact cTr_n d1 d3 hle1 hs
  have ht := cTr_t hde d1 d3 hle1 hs hss
  have hs47 := hgi.1.2.1
  have hs1 := hgi.1.1
  have hk24 := hE.2.1
  have hm8 : σ2 358 = eO 9 [.ref (ad 359), .int (iv (((n : Nat) : Int))), .ref (ad 360), .ref (ad 361), .int (iv (((de : Nat) : Int))), .int (iv (((le : Nat) : Int))), .int (iv (((wo : Nat) : Int))), .int (iv ((Sv 7))), .long (jv ((Sv 8))), .long (jv ((Sv 9))), .int (iv ((Sv 10))), .int (iv ((Sv 11))), .int (iv ((Sv 12))), .long (jv ((Sv 13))), .long (jv ((Sv 14))), .int (iv (((s.1 : Nat) : Int))), .ref (ad 362), .ref (ad 363), .ref (ad 364), .ref (ad 365), .ref (ad 366), .ref (ad 367), .ref (ad 368), .ref (ad 369), .ref (ad 370), .ref (ad 371), .int (iv ((((k + 1) : Nat) : Int))), .ref (ad 372), .ref (ad 373), .ref (ad 374), .ref (ad 375), .int (iv ((Sv 31))), .int (iv ((Sv 32)))] := by have h := vP.1; unfold moE at h; rw [h15, h26] at h; exact h
  have r15 : ir (Sv 15) := by rw [h15]; exact ir_n (by omega)
  have r26 : ir (Sv 26) := by rw [h26]; exact ir_n (by omega)
  refine v_aload_n hX d_Mo_node_4 0 rfl ?_
  refine v_iload_n hX d_Mo_node_5 1 rfl ?_
  refine g_callVI (As := [.int (iv (x))]) (st := []) hX hj (i := 358) (by omega) hm8 (m_Mo_isNode hj vP hD x (by assumption) r15) cl_Mo_176 d_Mo_node_6 rfl ⟨by decide, by decide⟩ ⟨by decide, by decide⟩ (Nat.le_of_ble_eq_true rfl) (fun z5 σ6 hz7 hp8 => ?_)
  obtain ⟨he9, hv10⟩ := hp8
  rw [h15] at hv10
  rw [he9]
  by_cases q11 : 0 ≤ x ∧ x < (s.1 : Int)
  · have z5e : z5 = 1 := hv10.trans (if_pos q11)
    subst z5e
    have hx : x.toNat < s.1 := by omega
    obtain ⟨g1, g2, g3⟩ := hG x.toNat hx
    obtain ⟨⟨o1, o2⟩, ⟨o3, o4⟩, o5, o6⟩ := hgi.1.2.2 x.toNat hx
    obtain ⟨y1, y2, y4, y5⟩ := hni.1 x.toNat hx
    obtain ⟨ro, ero⟩ : ∃ ro : Nat, s.2.1 x.toNat 2 = (ro : Int) := ⟨(s.2.1 x.toNat 2).toNat, by omega⟩
    have ero2 : (s.2.1 x.toNat 2).toNat = ro := by rw [ero, Int.toNat_natCast]
    rw [ero2] at y2 y4 y5
    have hro24 : ro < 16777216 := by omega
    refine v_if_ne (tgt := 14) hX d_Mo_node_9 (by decide) (by first | assumption | (unfold ir; omega)) (fun c9 => ?_) (fun c9 => absurd c9 (by omega))
    refine v_iload_n hX d_Mo_node_14 2 rfl ?_
    refine v_if_lt (tgt := 24) hX d_Mo_node_15 (by decide) (by first | assumption | (unfold ir; omega)) (fun c15_2 => ?_) (fun c15_2 => ?_)
    · refine v_bipush hX (-2) d_Mo_node_24 rfl ?_
      exact hret _ _ _ _ d_Mo_node_26 (by unfold ir; omega) ⟨_, rfl, Sv, Qv, vP, vQ, v7, vB, vF, (by rw [← hss]; exact aNode_p (by assumption) (by omega))⟩ rfl
    · refine v_iload_n hX d_Mo_node_18 2 rfl ?_
      refine v_bipush hX (8) d_Mo_node_19 rfl ?_
      refine v_icmp_le (tgt := 27) hX d_Mo_node_21 (by decide) (by first | assumption | (unfold ir; omega)) (by first | assumption | (unfold ir; omega)) (fun c21_3 => ?_) (fun c21_3 => ?_)
      · rcases g3 with ⟨hn0, kn⟩ | ⟨m, hch, k7, k8, k4, k5, k6, k9, k0⟩
        · have hmm : ∀ q, s.2.2 x.toNat = some q → q = 76 + 3 * 0 := fun q hq => by rw [hn0] at hq; cases hq
          refine v_iload_n hX d_Mo_node_27 2 rfl ?_
          refine v_iconst hX (5) d_Mo_node_28 ?_
          refine v_icmp_ge (tgt := 44) hX d_Mo_node_29 (by decide) (by first | assumption | (unfold ir; omega)) (by first | assumption | (unfold ir; omega)) (fun c29_4 => ?_) (fun c29_4 => ?_)
          · refine v_iload_n hX d_Mo_node_44 2 rfl ?_
            have hw9 : wh = 0 ∨ wh = 1 ∨ wh = 2 ∨ wh = 3 ∨ wh = 4 ∨ wh = 5 ∨ wh = 6 ∨ wh = 7 ∨ wh = 8 := by omega
            rcases hw9 with e | e | e | e | e | e | e | e | e
            · refine v_top (x' := iv (0)) (congrArg iv e) ?_
              refine v_tableIn (tgt := 92) hX d_Mo_node_45 (by unfold ir; omega) (by decide) (by decide) rfl (by decide) ?_
              exact absurd e (by omega)
            · refine v_top (x' := iv (1)) (congrArg iv e) ?_
              refine v_tableIn (tgt := 99) hX d_Mo_node_45 (by unfold ir; omega) (by decide) (by decide) rfl (by decide) ?_
              exact absurd e (by omega)
            · refine v_top (x' := iv (2)) (congrArg iv e) ?_
              refine v_tableIn (tgt := 106) hX d_Mo_node_45 (by unfold ir; omega) (by decide) (by decide) rfl (by decide) ?_
              exact absurd e (by omega)
            · refine v_top (x' := iv (3)) (congrArg iv e) ?_
              refine v_tableIn (tgt := 113) hX d_Mo_node_45 (by unfold ir; omega) (by decide) (by decide) rfl (by decide) ?_
              exact absurd e (by omega)
            · refine v_top (x' := iv (4)) (congrArg iv e) ?_
              refine v_tableIn (tgt := 120) hX d_Mo_node_45 (by unfold ir; omega) (by decide) (by decide) rfl (by decide) ?_
              exact absurd e (by omega)
            · refine v_top (x' := iv (5)) (congrArg iv e) ?_
              refine v_tableIn (tgt := 127) hX d_Mo_node_45 (by unfold ir; omega) (by decide) (by decide) rfl (by decide) ?_
              refine v_aload_n hX d_Mo_node_127 0 rfl ?_
              refine g_get (i := 358) hX hj fl_Mo_29 d_Mo_node_128 (by omega) hm8 rfl ?_
              refine v_iload_n hX d_Mo_node_131 1 rfl ?_
              refine g_iald (i := 363) hX hj d_Mo_node_132 (by omega) (vQ.1 363 (by decide) (by decide)) (by decide) (Int.toNat (x)) (by omega) (by omega) ?_
              exact hret _ _ _ _ d_Mo_node_133 (by rw [g2]; unfold ir; omega) ⟨_, rfl, Sv, Qv, vP, vQ, v7, vB, vF, (by rw [← hss]; exact aNode_o (by assumption) (by omega) (by omega) (by rw [e]; exact g2))⟩ rfl
            · refine v_top (x' := iv (6)) (congrArg iv e) ?_
              refine v_tableIn (tgt := 134) hX d_Mo_node_45 (by unfold ir; omega) (by decide) (by decide) rfl (by decide) ?_
              refine v_aload_n hX d_Mo_node_134 0 rfl ?_
              refine v_aload_n hX d_Mo_node_135 0 rfl ?_
              refine g_get (i := 358) hX hj fl_Mo_26 d_Mo_node_136 (by omega) hm8 rfl ?_
              refine v_iload_n hX d_Mo_node_139 1 rfl ?_
              refine g_iald (i := 362) hX hj d_Mo_node_140 (by omega) (vQ.1 362 (by decide) (by decide)) (by decide) (Int.toNat (x)) (by omega) (by omega) ?_
              refine v_top (x' := iv (((ro : Nat) : Int))) (congrArg iv (g1.trans ero)) ?_
              refine g_callVI (As := [.int (iv (((ro : Nat) : Int)))]) (st := []) hX hj (i := 358) (by omega) hm8 (m_Mo_many hj vP hD ro hro24) cl_Mo_87 d_Mo_node_141 rfl ⟨by decide, by decide⟩ ⟨by decide, by decide⟩ (Nat.le_of_ble_eq_true rfl) (fun z12 σ13 hz14 hp15 => ?_)
              obtain ⟨he16, hv17⟩ := hp15
              rw [he16]
              exact hret _ _ _ _ d_Mo_node_144 hz14 ⟨_, rfl, Sv, Qv, vP, vQ, v7, vB, vF, (by rw [← hss]; exact aNode_o (by assumption) (by omega) (by omega) (by rw [e]; show _ = (_ : Int); rw [ero2]; exact hv17))⟩ rfl
            · refine v_top (x' := iv (7)) (congrArg iv e) ?_
              refine v_tableIn (tgt := 145) hX d_Mo_node_45 (by unfold ir; omega) (by decide) (by decide) rfl (by decide) ?_
              refine v_aload_n hX d_Mo_node_145 0 rfl ?_
              refine v_aload_n hX d_Mo_node_146 0 rfl ?_
              refine g_get (i := 358) hX hj fl_Mo_26 d_Mo_node_147 (by omega) hm8 rfl ?_
              refine v_iload_n hX d_Mo_node_150 1 rfl ?_
              refine g_iald (i := 362) hX hj d_Mo_node_151 (by omega) (vQ.1 362 (by decide) (by decide)) (by decide) (Int.toNat (x)) (by omega) (by omega) ?_
              refine v_top (x' := iv (((ro : Nat) : Int))) (congrArg iv (g1.trans ero)) ?_
              refine g_callVI (As := [.int (iv (((ro : Nat) : Int)))]) (st := []) hX hj (i := 358) (by omega) hm8 (m_Mo_labelOf hj vP hD ro hro24) cl_Mo_91 d_Mo_node_152 rfl ⟨by decide, by decide⟩ ⟨by decide, by decide⟩ (Nat.le_of_ble_eq_true rfl) (fun z18 σ19 hz20 hp21 => ?_)
              obtain ⟨he22, hv23⟩ := hp21
              rw [he22]
              exact hret _ _ _ _ d_Mo_node_155 hz20 ⟨_, rfl, Sv, Qv, vP, vQ, v7, vB, vF, (by rw [← hss]; exact aNode_o (by assumption) (by omega) (by omega) (by rw [e]; show _ = (_ : Int); exact hv23.trans y4.symm))⟩ rfl
            · refine v_top (x' := iv (8)) (congrArg iv e) ?_
              refine v_tableOut (tgt := 156) hX d_Mo_node_45 (by unfold ir; omega) (by decide) (by decide) ?_
              refine v_aload_n hX d_Mo_node_156 0 rfl ?_
              refine v_aload_n hX d_Mo_node_157 0 rfl ?_
              refine g_get (i := 358) hX hj fl_Mo_26 d_Mo_node_158 (by omega) hm8 rfl ?_
              refine v_iload_n hX d_Mo_node_161 1 rfl ?_
              refine g_iald (i := 362) hX hj d_Mo_node_162 (by omega) (vQ.1 362 (by decide) (by decide)) (by decide) (Int.toNat (x)) (by omega) (by omega) ?_
              refine v_top (x' := iv (((ro : Nat) : Int))) (congrArg iv (g1.trans ero)) ?_
              refine g_callVI (As := [.int (iv (((ro : Nat) : Int)))]) (st := []) hX hj (i := 358) (by omega) hm8 (m_Mo_wrongOf hj vP hD ro hro24) cl_Mo_150 d_Mo_node_163 rfl ⟨by decide, by decide⟩ ⟨by decide, by decide⟩ (Nat.le_of_ble_eq_true rfl) (fun z24 σ25 hz26 hp27 => ?_)
              obtain ⟨he28, hv29⟩ := hp27
              rw [he28]
              exact hret _ _ _ _ d_Mo_node_166 hz26 ⟨_, rfl, Sv, Qv, vP, vQ, v7, vB, vF, (by rw [← hss]; exact aNode_o (by assumption) (by omega) (by omega) (by rw [e]; show _ = (_ : Int); exact hv29.trans y5.symm))⟩ rfl
          · refine v_aload_n hX d_Mo_node_32 0 rfl ?_
            refine g_get (i := 358) hX hj fl_Mo_41 d_Mo_node_33 (by omega) hm8 rfl ?_
            refine v_iload_n hX d_Mo_node_36 1 rfl ?_
            refine g_iald (i := 367) hX hj d_Mo_node_37 (by omega) (vQ.1 367 (by decide) (by decide)) (by decide) (Int.toNat (x)) (by omega) (by omega) ?_
            refine v_top (x' := iv ((-1))) (congrArg iv kn) ?_
            refine v_if_ge (tgt := 44) hX d_Mo_node_38 (by decide) (by first | assumption | (unfold ir; omega)) (fun c9 => absurd c9 (by omega)) (fun c9 => ?_)
            refine v_bipush hX (-3) d_Mo_node_41 rfl ?_
            exact hret _ _ _ _ d_Mo_node_43 (by unfold ir; omega) ⟨_, rfl, Sv, Qv, vP, vQ, v7, vB, vF, (by rw [← hss]; exact aNode_c (mm := 0) (by assumption) (by omega) (by omega) hmm (by rw [if_pos hn0]))⟩ rfl
        · obtain ⟨m9, z1, hm1, hm2, -⟩ := hgi.2.2.2 x.toNat _ hx hch
          obtain ⟨c1, n1, s1, u1, u2, u3, u4, u5, u6⟩ := hgi.2.1 x.toNat (by omega)
          have hmm : ∀ q, s.2.2 x.toNat = some q → q = 76 + 3 * m := fun q hq => by rw [hch] at hq; have := Option.some.inj hq; omega
          refine v_iload_n hX d_Mo_node_27 2 rfl ?_
          refine v_iconst hX (5) d_Mo_node_28 ?_
          refine v_icmp_ge (tgt := 44) hX d_Mo_node_29 (by decide) (by first | assumption | (unfold ir; omega)) (by first | assumption | (unfold ir; omega)) (fun c29_6 => ?_) (fun c29_6 => ?_)
          · refine v_iload_n hX d_Mo_node_44 2 rfl ?_
            have hw9 : wh = 0 ∨ wh = 1 ∨ wh = 2 ∨ wh = 3 ∨ wh = 4 ∨ wh = 5 ∨ wh = 6 ∨ wh = 7 ∨ wh = 8 := by omega
            rcases hw9 with e | e | e | e | e | e | e | e | e
            · refine v_top (x' := iv (0)) (congrArg iv e) ?_
              refine v_tableIn (tgt := 92) hX d_Mo_node_45 (by unfold ir; omega) (by decide) (by decide) rfl (by decide) ?_
              refine v_aload_n hX d_Mo_node_92 0 rfl ?_
              refine g_get (i := 358) hX hj fl_Mo_32 d_Mo_node_93 (by omega) hm8 rfl ?_
              refine v_iload_n hX d_Mo_node_96 1 rfl ?_
              refine g_iald (i := 364) hX hj d_Mo_node_97 (by omega) (vQ.1 364 (by decide) (by decide)) (by decide) (Int.toNat (x)) (by omega) (by omega) ?_
              exact hret _ _ _ _ d_Mo_node_98 (by rw [k4, u4]; unfold ir; omega) ⟨_, rfl, Sv, Qv, vP, vQ, v7, vB, vF, (by rw [← hss]; exact aNode_c (mm := m) (by assumption) (by omega) (by omega) hmm (by rw [if_neg (by rw [hch]; exact fun e => by cases e), e]; exact k4))⟩ rfl
            · refine v_top (x' := iv (1)) (congrArg iv e) ?_
              refine v_tableIn (tgt := 99) hX d_Mo_node_45 (by unfold ir; omega) (by decide) (by decide) rfl (by decide) ?_
              refine v_aload_n hX d_Mo_node_99 0 rfl ?_
              refine g_get (i := 358) hX hj fl_Mo_35 d_Mo_node_100 (by omega) hm8 rfl ?_
              refine v_iload_n hX d_Mo_node_103 1 rfl ?_
              refine g_iald (i := 365) hX hj d_Mo_node_104 (by omega) (vQ.1 365 (by decide) (by decide)) (by decide) (Int.toNat (x)) (by omega) (by omega) ?_
              exact hret _ _ _ _ d_Mo_node_105 (by rw [k5, u5]; unfold ir; omega) ⟨_, rfl, Sv, Qv, vP, vQ, v7, vB, vF, (by rw [← hss]; exact aNode_c (mm := m) (by assumption) (by omega) (by omega) hmm (by rw [if_neg (by rw [hch]; exact fun e => by cases e), e]; exact k5))⟩ rfl
            · refine v_top (x' := iv (2)) (congrArg iv e) ?_
              refine v_tableIn (tgt := 106) hX d_Mo_node_45 (by unfold ir; omega) (by decide) (by decide) rfl (by decide) ?_
              refine v_aload_n hX d_Mo_node_106 0 rfl ?_
              refine g_get (i := 358) hX hj fl_Mo_38 d_Mo_node_107 (by omega) hm8 rfl ?_
              refine v_iload_n hX d_Mo_node_110 1 rfl ?_
              refine g_iald (i := 366) hX hj d_Mo_node_111 (by omega) (vQ.1 366 (by decide) (by decide)) (by decide) (Int.toNat (x)) (by omega) (by omega) ?_
              exact hret _ _ _ _ d_Mo_node_112 (by rw [k6, u6]; unfold ir; omega) ⟨_, rfl, Sv, Qv, vP, vQ, v7, vB, vF, (by rw [← hss]; exact aNode_c (mm := m) (by assumption) (by omega) (by omega) hmm (by rw [if_neg (by rw [hch]; exact fun e => by cases e), e]; exact k6))⟩ rfl
            · refine v_top (x' := iv (3)) (congrArg iv e) ?_
              refine v_tableIn (tgt := 113) hX d_Mo_node_45 (by unfold ir; omega) (by decide) (by decide) rfl (by decide) ?_
              refine v_aload_n hX d_Mo_node_113 0 rfl ?_
              refine g_get (i := 358) hX hj fl_Mo_41 d_Mo_node_114 (by omega) hm8 rfl ?_
              refine v_iload_n hX d_Mo_node_117 1 rfl ?_
              refine g_iald (i := 367) hX hj d_Mo_node_118 (by omega) (vQ.1 367 (by decide) (by decide)) (by decide) (Int.toNat (x)) (by omega) (by omega) ?_
              refine v_top (x' := iv (((m : Nat) : Int))) (congrArg iv k7) ?_
              exact hret _ _ _ _ d_Mo_node_119 (by unfold ir; omega) ⟨_, rfl, Sv, Qv, vP, vQ, v7, vB, vF, (by rw [← hss]; exact aNode_c (mm := m) (by assumption) (by omega) (by omega) hmm (by rw [if_neg (by rw [hch]; exact fun e => by cases e), e]; exact rfl))⟩ rfl
            · refine v_top (x' := iv (4)) (congrArg iv e) ?_
              refine v_tableIn (tgt := 120) hX d_Mo_node_45 (by unfold ir; omega) (by decide) (by decide) rfl (by decide) ?_
              refine v_aload_n hX d_Mo_node_120 0 rfl ?_
              refine g_get (i := 358) hX hj fl_Mo_44 d_Mo_node_121 (by omega) hm8 rfl ?_
              refine v_iload_n hX d_Mo_node_124 1 rfl ?_
              refine g_iald (i := 368) hX hj d_Mo_node_125 (by omega) (vQ.1 368 (by decide) (by decide)) (by decide) (Int.toNat (x)) (by omega) (by omega) ?_
              refine v_top (x' := iv ((((m + 1) : Nat) : Int))) (congrArg iv k8) ?_
              exact hret _ _ _ _ d_Mo_node_126 (by unfold ir; omega) ⟨_, rfl, Sv, Qv, vP, vQ, v7, vB, vF, (by rw [← hss]; exact aNode_c (mm := m) (by assumption) (by omega) (by omega) hmm (by rw [if_neg (by rw [hch]; exact fun e => by cases e), e]; exact rfl))⟩ rfl
            · refine v_top (x' := iv (5)) (congrArg iv e) ?_
              refine v_tableIn (tgt := 127) hX d_Mo_node_45 (by unfold ir; omega) (by decide) (by decide) rfl (by decide) ?_
              refine v_aload_n hX d_Mo_node_127 0 rfl ?_
              refine g_get (i := 358) hX hj fl_Mo_29 d_Mo_node_128 (by omega) hm8 rfl ?_
              refine v_iload_n hX d_Mo_node_131 1 rfl ?_
              refine g_iald (i := 363) hX hj d_Mo_node_132 (by omega) (vQ.1 363 (by decide) (by decide)) (by decide) (Int.toNat (x)) (by omega) (by omega) ?_
              exact hret _ _ _ _ d_Mo_node_133 (by rw [g2]; unfold ir; omega) ⟨_, rfl, Sv, Qv, vP, vQ, v7, vB, vF, (by rw [← hss]; exact aNode_o (by assumption) (by omega) (by omega) (by rw [e]; exact g2))⟩ rfl
            · refine v_top (x' := iv (6)) (congrArg iv e) ?_
              refine v_tableIn (tgt := 134) hX d_Mo_node_45 (by unfold ir; omega) (by decide) (by decide) rfl (by decide) ?_
              refine v_aload_n hX d_Mo_node_134 0 rfl ?_
              refine v_aload_n hX d_Mo_node_135 0 rfl ?_
              refine g_get (i := 358) hX hj fl_Mo_26 d_Mo_node_136 (by omega) hm8 rfl ?_
              refine v_iload_n hX d_Mo_node_139 1 rfl ?_
              refine g_iald (i := 362) hX hj d_Mo_node_140 (by omega) (vQ.1 362 (by decide) (by decide)) (by decide) (Int.toNat (x)) (by omega) (by omega) ?_
              refine v_top (x' := iv (((ro : Nat) : Int))) (congrArg iv (g1.trans ero)) ?_
              refine g_callVI (As := [.int (iv (((ro : Nat) : Int)))]) (st := []) hX hj (i := 358) (by omega) hm8 (m_Mo_many hj vP hD ro hro24) cl_Mo_87 d_Mo_node_141 rfl ⟨by decide, by decide⟩ ⟨by decide, by decide⟩ (Nat.le_of_ble_eq_true rfl) (fun z30 σ31 hz32 hp33 => ?_)
              obtain ⟨he34, hv35⟩ := hp33
              rw [he34]
              exact hret _ _ _ _ d_Mo_node_144 hz32 ⟨_, rfl, Sv, Qv, vP, vQ, v7, vB, vF, (by rw [← hss]; exact aNode_o (by assumption) (by omega) (by omega) (by rw [e]; show _ = (_ : Int); rw [ero2]; exact hv35))⟩ rfl
            · refine v_top (x' := iv (7)) (congrArg iv e) ?_
              refine v_tableIn (tgt := 145) hX d_Mo_node_45 (by unfold ir; omega) (by decide) (by decide) rfl (by decide) ?_
              refine v_aload_n hX d_Mo_node_145 0 rfl ?_
              refine v_aload_n hX d_Mo_node_146 0 rfl ?_
              refine g_get (i := 358) hX hj fl_Mo_26 d_Mo_node_147 (by omega) hm8 rfl ?_
              refine v_iload_n hX d_Mo_node_150 1 rfl ?_
              refine g_iald (i := 362) hX hj d_Mo_node_151 (by omega) (vQ.1 362 (by decide) (by decide)) (by decide) (Int.toNat (x)) (by omega) (by omega) ?_
              refine v_top (x' := iv (((ro : Nat) : Int))) (congrArg iv (g1.trans ero)) ?_
              refine g_callVI (As := [.int (iv (((ro : Nat) : Int)))]) (st := []) hX hj (i := 358) (by omega) hm8 (m_Mo_labelOf hj vP hD ro hro24) cl_Mo_91 d_Mo_node_152 rfl ⟨by decide, by decide⟩ ⟨by decide, by decide⟩ (Nat.le_of_ble_eq_true rfl) (fun z36 σ37 hz38 hp39 => ?_)
              obtain ⟨he40, hv41⟩ := hp39
              rw [he40]
              exact hret _ _ _ _ d_Mo_node_155 hz38 ⟨_, rfl, Sv, Qv, vP, vQ, v7, vB, vF, (by rw [← hss]; exact aNode_o (by assumption) (by omega) (by omega) (by rw [e]; show _ = (_ : Int); exact hv41.trans y4.symm))⟩ rfl
            · refine v_top (x' := iv (8)) (congrArg iv e) ?_
              refine v_tableOut (tgt := 156) hX d_Mo_node_45 (by unfold ir; omega) (by decide) (by decide) ?_
              refine v_aload_n hX d_Mo_node_156 0 rfl ?_
              refine v_aload_n hX d_Mo_node_157 0 rfl ?_
              refine g_get (i := 358) hX hj fl_Mo_26 d_Mo_node_158 (by omega) hm8 rfl ?_
              refine v_iload_n hX d_Mo_node_161 1 rfl ?_
              refine g_iald (i := 362) hX hj d_Mo_node_162 (by omega) (vQ.1 362 (by decide) (by decide)) (by decide) (Int.toNat (x)) (by omega) (by omega) ?_
              refine v_top (x' := iv (((ro : Nat) : Int))) (congrArg iv (g1.trans ero)) ?_
              refine g_callVI (As := [.int (iv (((ro : Nat) : Int)))]) (st := []) hX hj (i := 358) (by omega) hm8 (m_Mo_wrongOf hj vP hD ro hro24) cl_Mo_150 d_Mo_node_163 rfl ⟨by decide, by decide⟩ ⟨by decide, by decide⟩ (Nat.le_of_ble_eq_true rfl) (fun z42 σ43 hz44 hp45 => ?_)
              obtain ⟨he46, hv47⟩ := hp45
              rw [he46]
              exact hret _ _ _ _ d_Mo_node_166 hz44 ⟨_, rfl, Sv, Qv, vP, vQ, v7, vB, vF, (by rw [← hss]; exact aNode_o (by assumption) (by omega) (by omega) (by rw [e]; show _ = (_ : Int); exact hv47.trans y5.symm))⟩ rfl
          · refine v_aload_n hX d_Mo_node_32 0 rfl ?_
            refine g_get (i := 358) hX hj fl_Mo_41 d_Mo_node_33 (by omega) hm8 rfl ?_
            refine v_iload_n hX d_Mo_node_36 1 rfl ?_
            refine g_iald (i := 367) hX hj d_Mo_node_37 (by omega) (vQ.1 367 (by decide) (by decide)) (by decide) (Int.toNat (x)) (by omega) (by omega) ?_
            refine v_top (x' := iv (((m : Nat) : Int))) (congrArg iv k7) ?_
            refine v_if_ge (tgt := 44) hX d_Mo_node_38 (by decide) (by first | assumption | (unfold ir; omega)) (fun c38_7 => ?_) (fun c38_7 => absurd c38_7 (by omega))
            refine v_iload_n hX d_Mo_node_44 2 rfl ?_
            have hw9 : wh = 0 ∨ wh = 1 ∨ wh = 2 ∨ wh = 3 ∨ wh = 4 ∨ wh = 5 ∨ wh = 6 ∨ wh = 7 ∨ wh = 8 := by omega
            rcases hw9 with e | e | e | e | e | e | e | e | e
            · refine v_top (x' := iv (0)) (congrArg iv e) ?_
              refine v_tableIn (tgt := 92) hX d_Mo_node_45 (by unfold ir; omega) (by decide) (by decide) rfl (by decide) ?_
              refine v_aload_n hX d_Mo_node_92 0 rfl ?_
              refine g_get (i := 358) hX hj fl_Mo_32 d_Mo_node_93 (by omega) hm8 rfl ?_
              refine v_iload_n hX d_Mo_node_96 1 rfl ?_
              refine g_iald (i := 364) hX hj d_Mo_node_97 (by omega) (vQ.1 364 (by decide) (by decide)) (by decide) (Int.toNat (x)) (by omega) (by omega) ?_
              exact hret _ _ _ _ d_Mo_node_98 (by rw [k4, u4]; unfold ir; omega) ⟨_, rfl, Sv, Qv, vP, vQ, v7, vB, vF, (by rw [← hss]; exact aNode_c (mm := m) (by assumption) (by omega) (by omega) hmm (by rw [if_neg (by rw [hch]; exact fun e => by cases e), e]; exact k4))⟩ rfl
            · refine v_top (x' := iv (1)) (congrArg iv e) ?_
              refine v_tableIn (tgt := 99) hX d_Mo_node_45 (by unfold ir; omega) (by decide) (by decide) rfl (by decide) ?_
              refine v_aload_n hX d_Mo_node_99 0 rfl ?_
              refine g_get (i := 358) hX hj fl_Mo_35 d_Mo_node_100 (by omega) hm8 rfl ?_
              refine v_iload_n hX d_Mo_node_103 1 rfl ?_
              refine g_iald (i := 365) hX hj d_Mo_node_104 (by omega) (vQ.1 365 (by decide) (by decide)) (by decide) (Int.toNat (x)) (by omega) (by omega) ?_
              exact hret _ _ _ _ d_Mo_node_105 (by rw [k5, u5]; unfold ir; omega) ⟨_, rfl, Sv, Qv, vP, vQ, v7, vB, vF, (by rw [← hss]; exact aNode_c (mm := m) (by assumption) (by omega) (by omega) hmm (by rw [if_neg (by rw [hch]; exact fun e => by cases e), e]; exact k5))⟩ rfl
            · refine v_top (x' := iv (2)) (congrArg iv e) ?_
              refine v_tableIn (tgt := 106) hX d_Mo_node_45 (by unfold ir; omega) (by decide) (by decide) rfl (by decide) ?_
              refine v_aload_n hX d_Mo_node_106 0 rfl ?_
              refine g_get (i := 358) hX hj fl_Mo_38 d_Mo_node_107 (by omega) hm8 rfl ?_
              refine v_iload_n hX d_Mo_node_110 1 rfl ?_
              refine g_iald (i := 366) hX hj d_Mo_node_111 (by omega) (vQ.1 366 (by decide) (by decide)) (by decide) (Int.toNat (x)) (by omega) (by omega) ?_
              exact hret _ _ _ _ d_Mo_node_112 (by rw [k6, u6]; unfold ir; omega) ⟨_, rfl, Sv, Qv, vP, vQ, v7, vB, vF, (by rw [← hss]; exact aNode_c (mm := m) (by assumption) (by omega) (by omega) hmm (by rw [if_neg (by rw [hch]; exact fun e => by cases e), e]; exact k6))⟩ rfl
            · refine v_top (x' := iv (3)) (congrArg iv e) ?_
              refine v_tableIn (tgt := 113) hX d_Mo_node_45 (by unfold ir; omega) (by decide) (by decide) rfl (by decide) ?_
              refine v_aload_n hX d_Mo_node_113 0 rfl ?_
              refine g_get (i := 358) hX hj fl_Mo_41 d_Mo_node_114 (by omega) hm8 rfl ?_
              refine v_iload_n hX d_Mo_node_117 1 rfl ?_
              refine g_iald (i := 367) hX hj d_Mo_node_118 (by omega) (vQ.1 367 (by decide) (by decide)) (by decide) (Int.toNat (x)) (by omega) (by omega) ?_
              refine v_top (x' := iv (((m : Nat) : Int))) (congrArg iv k7) ?_
              exact hret _ _ _ _ d_Mo_node_119 (by unfold ir; omega) ⟨_, rfl, Sv, Qv, vP, vQ, v7, vB, vF, (by rw [← hss]; exact aNode_c (mm := m) (by assumption) (by omega) (by omega) hmm (by rw [if_neg (by rw [hch]; exact fun e => by cases e), e]; exact rfl))⟩ rfl
            · refine v_top (x' := iv (4)) (congrArg iv e) ?_
              refine v_tableIn (tgt := 120) hX d_Mo_node_45 (by unfold ir; omega) (by decide) (by decide) rfl (by decide) ?_
              refine v_aload_n hX d_Mo_node_120 0 rfl ?_
              refine g_get (i := 358) hX hj fl_Mo_44 d_Mo_node_121 (by omega) hm8 rfl ?_
              refine v_iload_n hX d_Mo_node_124 1 rfl ?_
              refine g_iald (i := 368) hX hj d_Mo_node_125 (by omega) (vQ.1 368 (by decide) (by decide)) (by decide) (Int.toNat (x)) (by omega) (by omega) ?_
              refine v_top (x' := iv ((((m + 1) : Nat) : Int))) (congrArg iv k8) ?_
              exact hret _ _ _ _ d_Mo_node_126 (by unfold ir; omega) ⟨_, rfl, Sv, Qv, vP, vQ, v7, vB, vF, (by rw [← hss]; exact aNode_c (mm := m) (by assumption) (by omega) (by omega) hmm (by rw [if_neg (by rw [hch]; exact fun e => by cases e), e]; exact rfl))⟩ rfl
            · refine v_top (x' := iv (5)) (congrArg iv e) ?_
              refine v_tableIn (tgt := 127) hX d_Mo_node_45 (by unfold ir; omega) (by decide) (by decide) rfl (by decide) ?_
              refine v_aload_n hX d_Mo_node_127 0 rfl ?_
              refine g_get (i := 358) hX hj fl_Mo_29 d_Mo_node_128 (by omega) hm8 rfl ?_
              refine v_iload_n hX d_Mo_node_131 1 rfl ?_
              refine g_iald (i := 363) hX hj d_Mo_node_132 (by omega) (vQ.1 363 (by decide) (by decide)) (by decide) (Int.toNat (x)) (by omega) (by omega) ?_
              exact hret _ _ _ _ d_Mo_node_133 (by rw [g2]; unfold ir; omega) ⟨_, rfl, Sv, Qv, vP, vQ, v7, vB, vF, (by rw [← hss]; exact aNode_o (by assumption) (by omega) (by omega) (by rw [e]; exact g2))⟩ rfl
            · refine v_top (x' := iv (6)) (congrArg iv e) ?_
              refine v_tableIn (tgt := 134) hX d_Mo_node_45 (by unfold ir; omega) (by decide) (by decide) rfl (by decide) ?_
              refine v_aload_n hX d_Mo_node_134 0 rfl ?_
              refine v_aload_n hX d_Mo_node_135 0 rfl ?_
              refine g_get (i := 358) hX hj fl_Mo_26 d_Mo_node_136 (by omega) hm8 rfl ?_
              refine v_iload_n hX d_Mo_node_139 1 rfl ?_
              refine g_iald (i := 362) hX hj d_Mo_node_140 (by omega) (vQ.1 362 (by decide) (by decide)) (by decide) (Int.toNat (x)) (by omega) (by omega) ?_
              refine v_top (x' := iv (((ro : Nat) : Int))) (congrArg iv (g1.trans ero)) ?_
              refine g_callVI (As := [.int (iv (((ro : Nat) : Int)))]) (st := []) hX hj (i := 358) (by omega) hm8 (m_Mo_many hj vP hD ro hro24) cl_Mo_87 d_Mo_node_141 rfl ⟨by decide, by decide⟩ ⟨by decide, by decide⟩ (Nat.le_of_ble_eq_true rfl) (fun z48 σ49 hz50 hp51 => ?_)
              obtain ⟨he52, hv53⟩ := hp51
              rw [he52]
              exact hret _ _ _ _ d_Mo_node_144 hz50 ⟨_, rfl, Sv, Qv, vP, vQ, v7, vB, vF, (by rw [← hss]; exact aNode_o (by assumption) (by omega) (by omega) (by rw [e]; show _ = (_ : Int); rw [ero2]; exact hv53))⟩ rfl
            · refine v_top (x' := iv (7)) (congrArg iv e) ?_
              refine v_tableIn (tgt := 145) hX d_Mo_node_45 (by unfold ir; omega) (by decide) (by decide) rfl (by decide) ?_
              refine v_aload_n hX d_Mo_node_145 0 rfl ?_
              refine v_aload_n hX d_Mo_node_146 0 rfl ?_
              refine g_get (i := 358) hX hj fl_Mo_26 d_Mo_node_147 (by omega) hm8 rfl ?_
              refine v_iload_n hX d_Mo_node_150 1 rfl ?_
              refine g_iald (i := 362) hX hj d_Mo_node_151 (by omega) (vQ.1 362 (by decide) (by decide)) (by decide) (Int.toNat (x)) (by omega) (by omega) ?_
              refine v_top (x' := iv (((ro : Nat) : Int))) (congrArg iv (g1.trans ero)) ?_
              refine g_callVI (As := [.int (iv (((ro : Nat) : Int)))]) (st := []) hX hj (i := 358) (by omega) hm8 (m_Mo_labelOf hj vP hD ro hro24) cl_Mo_91 d_Mo_node_152 rfl ⟨by decide, by decide⟩ ⟨by decide, by decide⟩ (Nat.le_of_ble_eq_true rfl) (fun z54 σ55 hz56 hp57 => ?_)
              obtain ⟨he58, hv59⟩ := hp57
              rw [he58]
              exact hret _ _ _ _ d_Mo_node_155 hz56 ⟨_, rfl, Sv, Qv, vP, vQ, v7, vB, vF, (by rw [← hss]; exact aNode_o (by assumption) (by omega) (by omega) (by rw [e]; show _ = (_ : Int); exact hv59.trans y4.symm))⟩ rfl
            · refine v_top (x' := iv (8)) (congrArg iv e) ?_
              refine v_tableOut (tgt := 156) hX d_Mo_node_45 (by unfold ir; omega) (by decide) (by decide) ?_
              refine v_aload_n hX d_Mo_node_156 0 rfl ?_
              refine v_aload_n hX d_Mo_node_157 0 rfl ?_
              refine g_get (i := 358) hX hj fl_Mo_26 d_Mo_node_158 (by omega) hm8 rfl ?_
              refine v_iload_n hX d_Mo_node_161 1 rfl ?_
              refine g_iald (i := 362) hX hj d_Mo_node_162 (by omega) (vQ.1 362 (by decide) (by decide)) (by decide) (Int.toNat (x)) (by omega) (by omega) ?_
              refine v_top (x' := iv (((ro : Nat) : Int))) (congrArg iv (g1.trans ero)) ?_
              refine g_callVI (As := [.int (iv (((ro : Nat) : Int)))]) (st := []) hX hj (i := 358) (by omega) hm8 (m_Mo_wrongOf hj vP hD ro hro24) cl_Mo_150 d_Mo_node_163 rfl ⟨by decide, by decide⟩ ⟨by decide, by decide⟩ (Nat.le_of_ble_eq_true rfl) (fun z60 σ61 hz62 hp63 => ?_)
              obtain ⟨he64, hv65⟩ := hp63
              rw [he64]
              exact hret _ _ _ _ d_Mo_node_166 hz62 ⟨_, rfl, Sv, Qv, vP, vQ, v7, vB, vF, (by rw [← hss]; exact aNode_o (by assumption) (by omega) (by omega) (by rw [e]; show _ = (_ : Int); exact hv65.trans y5.symm))⟩ rfl
      · refine v_bipush hX (-2) d_Mo_node_24 rfl ?_
        exact hret _ _ _ _ d_Mo_node_26 (by unfold ir; omega) ⟨_, rfl, Sv, Qv, vP, vQ, v7, vB, vF, (by rw [← hss]; exact aNode_p (by assumption) (by omega))⟩ rfl
  · have z5e : z5 = 0 := hv10.trans (if_neg q11)
    subst z5e
    refine v_if_ne (tgt := 14) hX d_Mo_node_9 (by decide) (by first | assumption | (unfold ir; omega)) (fun c9 => absurd c9 (by omega)) (fun c9 => ?_)
    refine v_iconst hX (-1) d_Mo_node_12 ?_
    exact hret _ _ _ _ d_Mo_node_13 (by unfold ir; omega) ⟨_, rfl, Sv, Qv, vP, vQ, v7, vB, vF, (by rw [← hss]; exact aNode_n (by assumption))⟩ rfl

set_option maxHeartbeats 1000000 in
set_option maxRecDepth 100000 in
theorem m_Mo_alpha {G : xG} {f0 : xF} {ad : Nat → Nat} (hj : adOk ad 400) {σ : xF} {n : Nat} {val : Nat → Nat → Int} {cl so : Nat → Nat} {de le wo : Nat} {S : Nat → Int} (hM : pMo G ad σ n val cl so de le wo S) (hD : dTab n val cl so) {Q : Nat → Nat → Int} (hQ : pMa G σ Q) (hle : le ≤ 10) (hle1 : 1 ≤ le) (hde : de ≤ 5) (hwo : wo ≤ 1000) (hbt : S 7 = 0 ∨ (S 7 = 1 ∧ moB so (mC n cl) (mK n val) (mLf n val so) le de wo n S Q)) (st9 p : Int) (hs0 : ir st9) (hp0 : ir p) : ∀ l, gI l G f0 ad 400 y_Mo_alpha (.code y_Mo_alpha c_Mo_alpha 3 (some (.int))) rm_Mo_alpha [.ref (ad 358), .int (iv (st9)), .int (iv (p))] σ (fun z σ' => ∃ Sv Qv, pMo G ad σ' n val cl so de le wo Sv ∧ pMa G σ' Qv ∧ Sv 7 = 1 ∧ moB so (mC n cl) (mK n val) (mLf n val so) le de wo n Sv Qv ∧ (∀ i, i < 358 → σ' i = σ i) ∧ ∃ E : Nat, isE (cTr so (mC n cl) (mK n val) (mLf n val so) le de wo (2 ^ n - 1)).1 (cTr so (mC n cl) (mK n val) (mLf n val so) le de wo (2 ^ n - 1)).2.1 (cTr so (mC n cl) (mK n val) (mLf n val so) le de wo (2 ^ n - 1)).2.2 E ∧ z = aAlpha E (fun j => if j = 0 then 0 else (yA (cTr so (mC n cl) (mK n val) (mLf n val so) le de wo (2 ^ n - 1)).2.2 (cTr so (mC n cl) (mK n val) (mLf n val so) le de wo (2 ^ n - 1)).1 (cTr so (mC n cl) (mK n val) (mLf n val so) le de wo (2 ^ n - 1)).2.1 (j - 1)).1) (fun j => if j = 0 then 1 else (yA (cTr so (mC n cl) (mK n val) (mLf n val so) le de wo (2 ^ n - 1)).2.2 (cTr so (mC n cl) (mK n val) (mLf n val so) le de wo (2 ^ n - 1)).1 (cTr so (mC n cl) (mK n val) (mLf n val so) le de wo (2 ^ n - 1)).2.1 (j - 1)).2) st9 p) := by
  intro l
  refine mI_of (rt := .int) (by decide) (Nat.le_of_ble_eq_true rfl) (fun X hX hret => ?_)
  show vV G X 0 0 0 [(0, .ref (ad 358)), (1, .int (iv (st9))), (2, .int (iv (p)))] [] (ov f0 ad 400 σ)
  obtain ⟨m0, ⟨sf, m1, m1e⟩, ⟨vf, m2, m2e⟩, ⟨cf, m3, m3e⟩⟩ := id hM
  obtain ⟨d1, d2, d3, d4⟩ := id hD
  have hs : 2 ^ n - 1 < 2 ^ n := by have h2 : 0 < 2 ^ n := Nat.two_pow_pos n; omega
  refine v_aload_n hX d_Mo_alpha_0 0 rfl ?_
  refine g_callVV (As := []) (st := []) hX hj (i := 358) (by omega) m0 (m_Mo_build hj hM hD hQ hle hle1 hde hwo hbt) cl_Mo_173 d_Mo_alpha_1 rfl ⟨by decide, by decide⟩ ⟨by decide, by decide⟩ (Nat.le_of_ble_eq_true rfl) (fun σ2 hp4 => ?_)
  obtain ⟨Sv, Qv, vP, vQ, v7, vB, vF⟩ := hp4
  obtain ⟨s, hss, h15, hG, k, h26, hE, hrs, hal⟩ := id vB
  have hgi : gInv 0 s := by rw [hss]; exact cTr_g hde d1 hs
  have hni : nIv n so (mC n cl) (mK n val) (mLf n val so) le wo 0 s 47 := by rw [hss]; exact cTr_n d1 d3 hle1 hs
  have ht := cTr_t hde d1 d3 hle1 hs hss
  have hs47 := hgi.1.2.1
  have hs1 := hgi.1.1
  have hk24 := hE.2.1
  have hm8 : σ2 358 = eO 9 [.ref (ad 359), .int (iv (((n : Nat) : Int))), .ref (ad 360), .ref (ad 361), .int (iv (((de : Nat) : Int))), .int (iv (((le : Nat) : Int))), .int (iv (((wo : Nat) : Int))), .int (iv ((Sv 7))), .long (jv ((Sv 8))), .long (jv ((Sv 9))), .int (iv ((Sv 10))), .int (iv ((Sv 11))), .int (iv ((Sv 12))), .long (jv ((Sv 13))), .long (jv ((Sv 14))), .int (iv (((s.1 : Nat) : Int))), .ref (ad 362), .ref (ad 363), .ref (ad 364), .ref (ad 365), .ref (ad 366), .ref (ad 367), .ref (ad 368), .ref (ad 369), .ref (ad 370), .ref (ad 371), .int (iv ((((k + 1) : Nat) : Int))), .ref (ad 372), .ref (ad 373), .ref (ad 374), .ref (ad 375), .int (iv ((Sv 31))), .int (iv ((Sv 32)))] := by have h := vP.1; unfold moE at h; rw [h15, h26] at h; exact h
  have r15 : ir (Sv 15) := by rw [h15]; exact ir_n (by omega)
  have r26 : ir (Sv 26) := by rw [h26]; exact ir_n (by omega)
  refine v_aload_n hX d_Mo_alpha_4 0 rfl ?_
  refine v_iload_n hX d_Mo_alpha_5 1 rfl ?_
  refine g_callVI (As := [.int (iv (st9))]) (st := []) hX hj (i := 358) (by omega) hm8 (m_Mo_isStage hj vP hD st9 (by assumption) r26) cl_Mo_211 d_Mo_alpha_6 rfl ⟨by decide, by decide⟩ ⟨by decide, by decide⟩ (Nat.le_of_ble_eq_true rfl) (fun z5 σ6 hz7 hp8 => ?_)
  obtain ⟨he9, hv10⟩ := hp8
  rw [h26] at hv10
  rw [he9]
  by_cases q11 : 0 ≤ st9 ∧ st9 < ((k + 1 : Nat) : Int)
  · have z5e : z5 = 1 := hv10.trans (if_pos q11)
    subst z5e
    refine v_if_ne (tgt := 14) hX d_Mo_alpha_9 (by decide) (by first | assumption | (unfold ir; omega)) (fun c9 => ?_) (fun c9 => absurd c9 (by omega))
    refine v_iload_n hX d_Mo_alpha_14 2 rfl ?_
    refine v_if_lt (tgt := 23) hX d_Mo_alpha_15 (by decide) (by first | assumption | (unfold ir; omega)) (fun c15_2 => ?_) (fun c15_2 => ?_)
    · refine v_bipush hX (-2) d_Mo_alpha_23 rfl ?_
      refine v_goto (tgt := 44) hX d_Mo_alpha_25 (by decide) ?_
      exact hret _ _ _ _ d_Mo_alpha_44 (by unfold ir; omega) ⟨_, rfl, Sv, Qv, vP, vQ, v7, vB, vF, ⟨k + 1, by rw [← hss]; exact hE, by rw [← hss]; exact aAlpha_p (by assumption) (by omega)⟩⟩ rfl
    · refine v_iload_n hX d_Mo_alpha_18 2 rfl ?_
      refine v_iconst hX (1) d_Mo_alpha_19 ?_
      refine v_icmp_le (tgt := 28) hX d_Mo_alpha_20 (by decide) (by first | assumption | (unfold ir; omega)) (by first | assumption | (unfold ir; omega)) (fun c20_3 => ?_) (fun c20_3 => ?_)
      · obtain ⟨aa, bb, ea, eb, al1, bl0, al2, bl2⟩ := yA_ok hgi ht hE (st := st9.toNat) (by omega)
        have q3 : Qv 373 st9.toNat = ((aa : Nat) : Int) := (yA_q hal.1 (fun j hj => (hal.2.2 j hj).1) (by omega)).trans ea
        have q4 : Qv 374 st9.toNat = ((bb : Nat) : Int) := (yA_q hal.2.1 (fun j hj => (hal.2.2 j hj).2) (by omega)).trans eb
        refine v_aload_n hX d_Mo_alpha_28 0 rfl ?_
        refine g_get (i := 358) hX hj fl_Mo_60 d_Mo_alpha_29 (by omega) hm8 rfl ?_
        refine v_iload_n hX d_Mo_alpha_32 1 rfl ?_
        refine g_lald (i := 373) hX hj d_Mo_alpha_33 (by omega) (vQ.2.2.2.2.1 373 (by decide) (by decide)) (by decide) (Int.toNat (st9)) (by omega) (by omega) ?_
        refine v_aload_n hX d_Mo_alpha_34 0 rfl ?_
        refine g_get (i := 358) hX hj fl_Mo_63 d_Mo_alpha_35 (by omega) hm8 rfl ?_
        refine v_iload_n hX d_Mo_alpha_38 1 rfl ?_
        refine g_lald (i := 374) hX hj d_Mo_alpha_39 (by omega) (vQ.2.2.2.2.1 374 (by decide) (by decide)) (by decide) (Int.toNat (st9)) (by omega) (by omega) ?_
        refine v_iload_n hX d_Mo_alpha_40 2 rfl ?_
        refine v_eq (st' := [.int (iv (p)), .long (jv (((bb : Nat) : Int))), .long (jv (((aa : Nat) : Int)))]) (by rw [q3, q4]) ?_
        refine g_callSI (As := [.long (jv (((aa : Nat) : Int))), .long (jv (((bb : Nat) : Int))), .int (iv (p))]) (st := []) hX (k0_Mo_lowest aa bb (by omega) (by omega) bl0 p (by omega)) cl_Mo_183 d_Mo_alpha_41 rfl ⟨by decide, by decide⟩ ⟨by decide, by decide⟩ (Nat.le_of_ble_eq_true rfl) (fun z12 hz13 hp14 => ?_)
        exact hret _ _ _ _ d_Mo_alpha_44 hz13 ⟨_, rfl, Sv, Qv, vP, vQ, v7, vB, vF, ⟨k + 1, by rw [← hss]; exact hE, by rw [← hss]; exact aAlpha_t (by assumption) (by omega) (lowT_e ea eb hp14)⟩⟩ rfl
      · refine v_bipush hX (-2) d_Mo_alpha_23 rfl ?_
        refine v_goto (tgt := 44) hX d_Mo_alpha_25 (by decide) ?_
        exact hret _ _ _ _ d_Mo_alpha_44 (by unfold ir; omega) ⟨_, rfl, Sv, Qv, vP, vQ, v7, vB, vF, ⟨k + 1, by rw [← hss]; exact hE, by rw [← hss]; exact aAlpha_p (by assumption) (by omega)⟩⟩ rfl
  · have z5e : z5 = 0 := hv10.trans (if_neg q11)
    subst z5e
    refine v_if_ne (tgt := 14) hX d_Mo_alpha_9 (by decide) (by first | assumption | (unfold ir; omega)) (fun c9 => absurd c9 (by omega)) (fun c9 => ?_)
    refine v_iconst hX (-1) d_Mo_alpha_12 ?_
    exact hret _ _ _ _ d_Mo_alpha_13 (by unfold ir; omega) ⟨_, rfl, Sv, Qv, vP, vQ, v7, vB, vF, ⟨k + 1, by rw [← hss]; exact hE, by rw [← hss]; exact aAlpha_n (by assumption)⟩⟩ rfl

set_option maxHeartbeats 1000000 in
set_option maxRecDepth 100000 in
theorem m_Mo_state {G : xG} {f0 : xF} {ad : Nat → Nat} (hj : adOk ad 400) {σ : xF} {n : Nat} {val : Nat → Nat → Int} {cl so : Nat → Nat} {de le wo : Nat} {S : Nat → Int} (hM : pMo G ad σ n val cl so de le wo S) (hD : dTab n val cl so) {Q : Nat → Nat → Int} (hQ : pMa G σ Q) (hle : le ≤ 10) (hle1 : 1 ≤ le) (hde : de ≤ 5) (hwo : wo ≤ 1000) (hbt : S 7 = 0 ∨ (S 7 = 1 ∧ moB so (mC n cl) (mK n val) (mLf n val so) le de wo n S Q)) (st9 x : Int) (hs0 : ir st9) (hx0 : ir x) : ∀ l, gI l G f0 ad 400 y_Mo_state (.code y_Mo_state c_Mo_state 3 (some (.int))) rm_Mo_state [.ref (ad 358), .int (iv (st9)), .int (iv (x))] σ (fun z σ' => ∃ Sv Qv, pMo G ad σ' n val cl so de le wo Sv ∧ pMa G σ' Qv ∧ Sv 7 = 1 ∧ moB so (mC n cl) (mK n val) (mLf n val so) le de wo n Sv Qv ∧ (∀ i, i < 358 → σ' i = σ i) ∧ ∃ E : Nat, isE (cTr so (mC n cl) (mK n val) (mLf n val so) le de wo (2 ^ n - 1)).1 (cTr so (mC n cl) (mK n val) (mLf n val so) le de wo (2 ^ n - 1)).2.1 (cTr so (mC n cl) (mK n val) (mLf n val so) le de wo (2 ^ n - 1)).2.2 E ∧ z = aStateY (cTr so (mC n cl) (mK n val) (mLf n val so) le de wo (2 ^ n - 1)).1 (cTr so (mC n cl) (mK n val) (mLf n val so) le de wo (2 ^ n - 1)).2.1 (cTr so (mC n cl) (mK n val) (mLf n val so) le de wo (2 ^ n - 1)).2.2 E st9 x) := by
  intro l
  refine mI_of (rt := .int) (by decide) (Nat.le_of_ble_eq_true rfl) (fun X hX hret => ?_)
  show vV G X 0 0 0 [(0, .ref (ad 358)), (1, .int (iv (st9))), (2, .int (iv (x)))] [] (ov f0 ad 400 σ)
  obtain ⟨m0, ⟨sf, m1, m1e⟩, ⟨vf, m2, m2e⟩, ⟨cf, m3, m3e⟩⟩ := id hM
  obtain ⟨d1, d2, d3, d4⟩ := id hD
  have hs : 2 ^ n - 1 < 2 ^ n := by have h2 : 0 < 2 ^ n := Nat.two_pow_pos n; omega
  refine v_aload_n hX d_Mo_state_0 0 rfl ?_
  refine g_callVV (As := []) (st := []) hX hj (i := 358) (by omega) m0 (m_Mo_build hj hM hD hQ hle hle1 hde hwo hbt) cl_Mo_173 d_Mo_state_1 rfl ⟨by decide, by decide⟩ ⟨by decide, by decide⟩ (Nat.le_of_ble_eq_true rfl) (fun σ2 hp4 => ?_)
  obtain ⟨Sv, Qv, vP, vQ, v7, vB, vF⟩ := hp4
  obtain ⟨s, hss, h15, hG, k, h26, hE, hrs, hal⟩ := id vB
  have hgi : gInv 0 s := by rw [hss]; exact cTr_g hde d1 hs
  have hni : nIv n so (mC n cl) (mK n val) (mLf n val so) le wo 0 s 47 := by rw [hss]; exact cTr_n d1 d3 hle1 hs
  have ht := cTr_t hde d1 d3 hle1 hs hss
  have hs47 := hgi.1.2.1
  have hs1 := hgi.1.1
  have hk24 := hE.2.1
  have hm8 : σ2 358 = eO 9 [.ref (ad 359), .int (iv (((n : Nat) : Int))), .ref (ad 360), .ref (ad 361), .int (iv (((de : Nat) : Int))), .int (iv (((le : Nat) : Int))), .int (iv (((wo : Nat) : Int))), .int (iv ((Sv 7))), .long (jv ((Sv 8))), .long (jv ((Sv 9))), .int (iv ((Sv 10))), .int (iv ((Sv 11))), .int (iv ((Sv 12))), .long (jv ((Sv 13))), .long (jv ((Sv 14))), .int (iv (((s.1 : Nat) : Int))), .ref (ad 362), .ref (ad 363), .ref (ad 364), .ref (ad 365), .ref (ad 366), .ref (ad 367), .ref (ad 368), .ref (ad 369), .ref (ad 370), .ref (ad 371), .int (iv ((((k + 1) : Nat) : Int))), .ref (ad 372), .ref (ad 373), .ref (ad 374), .ref (ad 375), .int (iv ((Sv 31))), .int (iv ((Sv 32)))] := by have h := vP.1; unfold moE at h; rw [h15, h26] at h; exact h
  have r15 : ir (Sv 15) := by rw [h15]; exact ir_n (by omega)
  have r26 : ir (Sv 26) := by rw [h26]; exact ir_n (by omega)
  refine v_aload_n hX d_Mo_state_4 0 rfl ?_
  refine v_iload_n hX d_Mo_state_5 1 rfl ?_
  refine g_callVI (As := [.int (iv (st9))]) (st := []) hX hj (i := 358) (by omega) hm8 (m_Mo_isStage hj vP hD st9 (by assumption) r26) cl_Mo_211 d_Mo_state_6 rfl ⟨by decide, by decide⟩ ⟨by decide, by decide⟩ (Nat.le_of_ble_eq_true rfl) (fun z5 σ6 hz7 hp8 => ?_)
  obtain ⟨he9, hv10⟩ := hp8
  rw [h26] at hv10
  rw [he9]
  by_cases q11 : 0 ≤ st9 ∧ st9 < ((k + 1 : Nat) : Int)
  · have z5e : z5 = 1 := hv10.trans (if_pos q11)
    subst z5e
    refine v_if_eq (tgt := 34) hX d_Mo_state_9 (by decide) (by first | assumption | (unfold ir; omega)) (fun c9 => absurd c9 (by omega)) (fun c9 => ?_)
    refine v_aload_n hX d_Mo_state_12 0 rfl ?_
    refine v_iload_n hX d_Mo_state_13 2 rfl ?_
    refine g_callVI (As := [.int (iv (x))]) (st := []) hX hj (i := 358) (by omega) hm8 (m_Mo_isNode hj vP hD x (by assumption) r15) cl_Mo_176 d_Mo_state_14 rfl ⟨by decide, by decide⟩ ⟨by decide, by decide⟩ (Nat.le_of_ble_eq_true rfl) (fun z12 σ13 hz14 hp15 => ?_)
    obtain ⟨he16, hv17⟩ := hp15
    rw [h15] at hv17
    rw [he16]
    by_cases q18 : 0 ≤ x ∧ x < (s.1 : Int)
    · have z12e : z12 = 1 := hv17.trans (if_pos q18)
      subst z12e
      have hx : x.toNat < s.1 := by omega
      obtain ⟨g1, g2, g3⟩ := hG x.toNat hx
      obtain ⟨⟨o1, o2⟩, ⟨o3, o4⟩, o5, o6⟩ := hgi.1.2.2 x.toNat hx
      obtain ⟨y1, y2, y4, y5⟩ := hni.1 x.toNat hx
      obtain ⟨ro, ero⟩ : ∃ ro : Nat, s.2.1 x.toNat 2 = (ro : Int) := ⟨(s.2.1 x.toNat 2).toNat, by omega⟩
      have ero2 : (s.2.1 x.toNat 2).toNat = ro := by rw [ero, Int.toNat_natCast]
      rw [ero2] at y2 y4 y5
      have hro24 : ro < 16777216 := by omega
      refine v_if_eq (tgt := 34) hX d_Mo_state_17 (by decide) (by first | assumption | (unfold ir; omega)) (fun c9 => absurd c9 (by omega)) (fun c9 => ?_)
      refine v_aload_n hX d_Mo_state_20 0 rfl ?_
      refine g_get (i := 358) hX hj fl_Mo_57 d_Mo_state_21 (by omega) hm8 rfl ?_
      refine v_bipush hX (64) d_Mo_state_24 rfl ?_
      refine v_iload_n hX d_Mo_state_26 1 rfl ?_
      refine v_imul hX d_Mo_state_27 ?_
      refine v_iload_n hX d_Mo_state_28 2 rfl ?_
      refine v_iadd hX d_Mo_state_29 ?_
      refine v_eq (st' := [.int (iv (((((64 * st9.toNat) + x.toNat) : Nat) : Int))), .ref (ad 372)]) (by rw [show (64 * st9 + x) = (((64 * st9.toNat) + x.toNat : Nat) : Int) by omega]) ?_
      refine g_iald (i := 372) hX hj d_Mo_state_30 (by omega) vQ.2.2.2.1 (by decide) (((64 * st9.toNat) + x.toNat)) rfl (by omega) ?_
      refine v_top (x' := iv ((stF (yT s.2.2 s.1 s.2.1 st9.toNat) (st9.toNat : Int) x.toNat))) (congrArg iv (hrs st9.toNat x.toNat (by omega) hx)) ?_
      refine v_goto (tgt := 35) hX d_Mo_state_31 (by decide) ?_
      exact hret _ _ _ _ d_Mo_state_35 (by have h9 := stR_012 (yT s.2.2 s.1 s.2.1 st9.toNat x.toNat) (st9.toNat : Int); have h9 : stF (yT s.2.2 s.1 s.2.1 st9.toNat) (st9.toNat : Int) x.toNat = 0 ∨ stF (yT s.2.2 s.1 s.2.1 st9.toNat) (st9.toNat : Int) x.toNat = 1 ∨ stF (yT s.2.2 s.1 s.2.1 st9.toNat) (st9.toNat : Int) x.toNat = 2 := h9; unfold ir; omega) ⟨_, rfl, Sv, Qv, vP, vQ, v7, vB, vF, ⟨k + 1, by rw [← hss]; exact hE, by rw [← hss]; unfold aStateY; rw [if_pos (by omega)]⟩⟩ rfl
    · have z12e : z12 = 0 := hv17.trans (if_neg q18)
      subst z12e
      refine v_if_eq (tgt := 34) hX d_Mo_state_17 (by decide) (by first | assumption | (unfold ir; omega)) (fun c9 => ?_) (fun c9 => absurd c9 (by omega))
      refine v_iconst hX (-1) d_Mo_state_34 ?_
      exact hret _ _ _ _ d_Mo_state_35 (by unfold ir; omega) ⟨_, rfl, Sv, Qv, vP, vQ, v7, vB, vF, ⟨k + 1, by rw [← hss]; exact hE, by rw [← hss]; unfold aStateY; rw [if_neg (by omega)]⟩⟩ rfl
  · have z5e : z5 = 0 := hv10.trans (if_neg q11)
    subst z5e
    refine v_if_eq (tgt := 34) hX d_Mo_state_9 (by decide) (by first | assumption | (unfold ir; omega)) (fun c9 => ?_) (fun c9 => absurd c9 (by omega))
    refine v_iconst hX (-1) d_Mo_state_34 ?_
    exact hret _ _ _ _ d_Mo_state_35 (by unfold ir; omega) ⟨_, rfl, Sv, Qv, vP, vQ, v7, vB, vF, ⟨k + 1, by rw [← hss]; exact hE, by rw [← hss]; unfold aStateY; rw [if_neg (by omega)]⟩⟩ rfl

set_option maxHeartbeats 1000000 in
set_option maxRecDepth 100000 in
theorem m_Mo_leaves {G : xG} {f0 : xF} {ad : Nat → Nat} (hj : adOk ad 400) {σ : xF} {n : Nat} {val : Nat → Nat → Int} {cl so : Nat → Nat} {de le wo : Nat} {S : Nat → Int} (hM : pMo G ad σ n val cl so de le wo S) (hD : dTab n val cl so) {Q : Nat → Nat → Int} (hQ : pMa G σ Q) (hle : le ≤ 10) (hle1 : 1 ≤ le) (hde : de ≤ 5) (hwo : wo ≤ 1000) (hbt : S 7 = 0 ∨ (S 7 = 1 ∧ moB so (mC n cl) (mK n val) (mLf n val so) le de wo n S Q)) (st9 : Int) (hs0 : ir st9) : ∀ l, gI l G f0 ad 400 y_Mo_leaves (.code y_Mo_leaves c_Mo_leaves 2 (some (.int))) rm_Mo_leaves [.ref (ad 358), .int (iv (st9))] σ (fun z σ' => ∃ Sv Qv, pMo G ad σ' n val cl so de le wo Sv ∧ pMa G σ' Qv ∧ Sv 7 = 1 ∧ moB so (mC n cl) (mK n val) (mLf n val so) le de wo n Sv Qv ∧ (∀ i, i < 358 → σ' i = σ i) ∧ ∃ E : Nat, isE (cTr so (mC n cl) (mK n val) (mLf n val so) le de wo (2 ^ n - 1)).1 (cTr so (mC n cl) (mK n val) (mLf n val so) le de wo (2 ^ n - 1)).2.1 (cTr so (mC n cl) (mK n val) (mLf n val so) le de wo (2 ^ n - 1)).2.2 E ∧ z = aStg E (fun j => yU (cTr so (mC n cl) (mK n val) (mLf n val so) le de wo (2 ^ n - 1)).2.2 (cTr so (mC n cl) (mK n val) (mLf n val so) le de wo (2 ^ n - 1)).1 (cTr so (mC n cl) (mK n val) (mLf n val so) le de wo (2 ^ n - 1)).2.1 j 0 10) st9) := by
  intro l
  refine mI_of (rt := .int) (by decide) (Nat.le_of_ble_eq_true rfl) (fun X hX hret => ?_)
  show vV G X 0 0 0 [(0, .ref (ad 358)), (1, .int (iv (st9)))] [] (ov f0 ad 400 σ)
  obtain ⟨m0, ⟨sf, m1, m1e⟩, ⟨vf, m2, m2e⟩, ⟨cf, m3, m3e⟩⟩ := id hM
  obtain ⟨d1, d2, d3, d4⟩ := id hD
  have hs : 2 ^ n - 1 < 2 ^ n := by have h2 : 0 < 2 ^ n := Nat.two_pow_pos n; omega
  refine v_aload_n hX d_Mo_leaves_0 0 rfl ?_
  refine g_callVV (As := []) (st := []) hX hj (i := 358) (by omega) m0 (m_Mo_build hj hM hD hQ hle hle1 hde hwo hbt) cl_Mo_173 d_Mo_leaves_1 rfl ⟨by decide, by decide⟩ ⟨by decide, by decide⟩ (Nat.le_of_ble_eq_true rfl) (fun σ2 hp4 => ?_)
  obtain ⟨Sv, Qv, vP, vQ, v7, vB, vF⟩ := hp4
  obtain ⟨s, hss, h15, hG, k, h26, hE, hrs, hal⟩ := id vB
  have hgi : gInv 0 s := by rw [hss]; exact cTr_g hde d1 hs
  have hni : nIv n so (mC n cl) (mK n val) (mLf n val so) le wo 0 s 47 := by rw [hss]; exact cTr_n d1 d3 hle1 hs
  have ht := cTr_t hde d1 d3 hle1 hs hss
  have hs47 := hgi.1.2.1
  have hs1 := hgi.1.1
  have hk24 := hE.2.1
  have hm8 : σ2 358 = eO 9 [.ref (ad 359), .int (iv (((n : Nat) : Int))), .ref (ad 360), .ref (ad 361), .int (iv (((de : Nat) : Int))), .int (iv (((le : Nat) : Int))), .int (iv (((wo : Nat) : Int))), .int (iv ((Sv 7))), .long (jv ((Sv 8))), .long (jv ((Sv 9))), .int (iv ((Sv 10))), .int (iv ((Sv 11))), .int (iv ((Sv 12))), .long (jv ((Sv 13))), .long (jv ((Sv 14))), .int (iv (((s.1 : Nat) : Int))), .ref (ad 362), .ref (ad 363), .ref (ad 364), .ref (ad 365), .ref (ad 366), .ref (ad 367), .ref (ad 368), .ref (ad 369), .ref (ad 370), .ref (ad 371), .int (iv ((((k + 1) : Nat) : Int))), .ref (ad 372), .ref (ad 373), .ref (ad 374), .ref (ad 375), .int (iv ((Sv 31))), .int (iv ((Sv 32)))] := by have h := vP.1; unfold moE at h; rw [h15, h26] at h; exact h
  have r15 : ir (Sv 15) := by rw [h15]; exact ir_n (by omega)
  have r26 : ir (Sv 26) := by rw [h26]; exact ir_n (by omega)
  refine v_aload_n hX d_Mo_leaves_4 0 rfl ?_
  refine v_iload_n hX d_Mo_leaves_5 1 rfl ?_
  refine g_callVI (As := [.int (iv (st9))]) (st := []) hX hj (i := 358) (by omega) hm8 (m_Mo_isStage hj vP hD st9 (by assumption) r26) cl_Mo_211 d_Mo_leaves_6 rfl ⟨by decide, by decide⟩ ⟨by decide, by decide⟩ (Nat.le_of_ble_eq_true rfl) (fun z5 σ6 hz7 hp8 => ?_)
  obtain ⟨he9, hv10⟩ := hp8
  rw [h26] at hv10
  rw [he9]
  by_cases q11 : 0 ≤ st9 ∧ st9 < ((k + 1 : Nat) : Int)
  · have z5e : z5 = 1 := hv10.trans (if_pos q11)
    subst z5e
    refine v_if_ne (tgt := 14) hX d_Mo_leaves_9 (by decide) (by first | assumption | (unfold ir; omega)) (fun c9 => ?_) (fun c9 => absurd c9 (by omega))
    refine v_aload_n hX d_Mo_leaves_14 0 rfl ?_
    refine v_iload_n hX d_Mo_leaves_15 1 rfl ?_
    refine v_iconst hX (0) d_Mo_leaves_16 ?_
    have hsi := yT_sI ht st9.toNat (by omega)
    refine v_eq (st' := [.int (iv (0)), .int (iv (((st9.toNat : Nat) : Int))), .ref (ad 358)]) (by rw [show ((st9.toNat : Nat) : Int) = st9 by omega]) ?_
    refine g_callVV (As := [.int (iv (((st9.toNat : Nat) : Int))), .int (iv (0))]) (st := []) hX hj (i := 358) (by omega) hm8 (m_Mo_look hj vP hD vQ hG hgi hni hsi.1 st9.toNat (by omega) (fun x hx => hrs st9.toNat x (by omega) hx) hsi.2.2.2.2 0 (by omega) (by rw [hsi.2.2.2.1]; omega)) cl_Mo_208 d_Mo_leaves_17 rfl ⟨by decide, by decide⟩ ⟨by decide, by decide⟩ (Nat.le_of_ble_eq_true rfl) (fun σ13 hp15 => ?_)
    obtain ⟨gl, lP, lQ, lF⟩ := hp15
    have hm7 : σ13 358 = eO 9 [.ref (ad 359), .int (iv (((n : Nat) : Int))), .ref (ad 360), .ref (ad 361), .int (iv (((de : Nat) : Int))), .int (iv (((le : Nat) : Int))), .int (iv (((wo : Nat) : Int))), .int (iv ((Sv 7))), .long (jv ((Sv 8))), .long (jv ((Sv 9))), .int (iv ((Sv 10))), .int (iv ((Sv 11))), .int (iv ((Sv 12))), .long (jv ((Sv 13))), .long (jv ((Sv 14))), .int (iv ((Sv 15))), .ref (ad 362), .ref (ad 363), .ref (ad 364), .ref (ad 365), .ref (ad 366), .ref (ad 367), .ref (ad 368), .ref (ad 369), .ref (ad 370), .ref (ad 371), .int (iv ((Sv 26))), .ref (ad 372), .ref (ad 373), .ref (ad 374), .ref (ad 375), .int (iv ((yU s.2.2 s.1 s.2.1 st9.toNat 0 10))), .int (iv ((yU s.2.2 s.1 s.2.1 st9.toNat 0 11)))] := lP.1
    refine v_aload_n hX d_Mo_leaves_20 0 rfl ?_
    refine g_get (i := 358) hX hj fl_Mo_194 d_Mo_leaves_21 (by omega) hm7 rfl ?_
    obtain ⟨⟨ub1, ub2⟩, ⟨ub3, ub4⟩, -, ub5⟩ := U_ok hgi ht hsi.1 (st9.toNat : Int) (x := 0) (by omega)
    have vB2 : moB so (mC n cl) (mK n val) (mLf n val so) le de wo n (va_up (va_up Sv 31 (yU s.2.2 s.1 s.2.1 st9.toNat 0 10)) 32 (yU s.2.2 s.1 s.2.1 st9.toNat 0 11)) (va_up Qv 375 gl) := ⟨s, hss, h15, moG_c hG (fun q a1 a2 => va_up_ne _ _ (by omega)), k, h26, hE, (fun j x hj hx => hrs j x hj hx), hal⟩
    exact hret _ _ _ _ d_Mo_leaves_24 (by show ir (kSum s.2.2 (st9.toNat : Int) s.1 s.1 (yT s.2.2 s.1 s.2.1 st9.toNat) 0 10); unfold ir; omega) ⟨_, rfl, va_up (va_up Sv 31 (yU s.2.2 s.1 s.2.1 st9.toNat 0 10)) 32 (yU s.2.2 s.1 s.2.1 st9.toNat 0 11), va_up Qv 375 gl, lP, lQ, v7, vB2, (fun i hi => (lF i (by omega) (by omega)).trans (vF i hi)), k + 1, by rw [← hss]; exact hE, by rw [← hss]; exact aStg_t (g := fun j => yU s.2.2 s.1 s.2.1 j 0 10) (by assumption)⟩ rfl
  · have z5e : z5 = 0 := hv10.trans (if_neg q11)
    subst z5e
    refine v_if_ne (tgt := 14) hX d_Mo_leaves_9 (by decide) (by first | assumption | (unfold ir; omega)) (fun c9 => absurd c9 (by omega)) (fun c9 => ?_)
    refine v_iconst hX (-1) d_Mo_leaves_12 ?_
    exact hret _ _ _ _ d_Mo_leaves_13 (by unfold ir; omega) ⟨_, rfl, Sv, Qv, vP, vQ, v7, vB, vF, k + 1, by rw [← hss]; exact hE, by rw [← hss]; exact aStg_f (by assumption)⟩ rfl

set_option maxHeartbeats 1000000 in
set_option maxRecDepth 100000 in
theorem m_Mo_wrong {G : xG} {f0 : xF} {ad : Nat → Nat} (hj : adOk ad 400) {σ : xF} {n : Nat} {val : Nat → Nat → Int} {cl so : Nat → Nat} {de le wo : Nat} {S : Nat → Int} (hM : pMo G ad σ n val cl so de le wo S) (hD : dTab n val cl so) {Q : Nat → Nat → Int} (hQ : pMa G σ Q) (hle : le ≤ 10) (hle1 : 1 ≤ le) (hde : de ≤ 5) (hwo : wo ≤ 1000) (hbt : S 7 = 0 ∨ (S 7 = 1 ∧ moB so (mC n cl) (mK n val) (mLf n val so) le de wo n S Q)) (st9 : Int) (hs0 : ir st9) : ∀ l, gI l G f0 ad 400 y_Mo_wrong (.code y_Mo_wrong c_Mo_wrong 2 (some (.int))) rm_Mo_wrong [.ref (ad 358), .int (iv (st9))] σ (fun z σ' => ∃ Sv Qv, pMo G ad σ' n val cl so de le wo Sv ∧ pMa G σ' Qv ∧ Sv 7 = 1 ∧ moB so (mC n cl) (mK n val) (mLf n val so) le de wo n Sv Qv ∧ (∀ i, i < 358 → σ' i = σ i) ∧ ∃ E : Nat, isE (cTr so (mC n cl) (mK n val) (mLf n val so) le de wo (2 ^ n - 1)).1 (cTr so (mC n cl) (mK n val) (mLf n val so) le de wo (2 ^ n - 1)).2.1 (cTr so (mC n cl) (mK n val) (mLf n val so) le de wo (2 ^ n - 1)).2.2 E ∧ z = aStg E (fun j => yU (cTr so (mC n cl) (mK n val) (mLf n val so) le de wo (2 ^ n - 1)).2.2 (cTr so (mC n cl) (mK n val) (mLf n val so) le de wo (2 ^ n - 1)).1 (cTr so (mC n cl) (mK n val) (mLf n val so) le de wo (2 ^ n - 1)).2.1 j 0 11) st9) := by
  intro l
  refine mI_of (rt := .int) (by decide) (Nat.le_of_ble_eq_true rfl) (fun X hX hret => ?_)
  show vV G X 0 0 0 [(0, .ref (ad 358)), (1, .int (iv (st9)))] [] (ov f0 ad 400 σ)
  obtain ⟨m0, ⟨sf, m1, m1e⟩, ⟨vf, m2, m2e⟩, ⟨cf, m3, m3e⟩⟩ := id hM
  obtain ⟨d1, d2, d3, d4⟩ := id hD
  have hs : 2 ^ n - 1 < 2 ^ n := by have h2 : 0 < 2 ^ n := Nat.two_pow_pos n; omega
  refine v_aload_n hX d_Mo_wrong_0 0 rfl ?_
  refine g_callVV (As := []) (st := []) hX hj (i := 358) (by omega) m0 (m_Mo_build hj hM hD hQ hle hle1 hde hwo hbt) cl_Mo_173 d_Mo_wrong_1 rfl ⟨by decide, by decide⟩ ⟨by decide, by decide⟩ (Nat.le_of_ble_eq_true rfl) (fun σ2 hp4 => ?_)
  obtain ⟨Sv, Qv, vP, vQ, v7, vB, vF⟩ := hp4
  obtain ⟨s, hss, h15, hG, k, h26, hE, hrs, hal⟩ := id vB
  have hgi : gInv 0 s := by rw [hss]; exact cTr_g hde d1 hs
  have hni : nIv n so (mC n cl) (mK n val) (mLf n val so) le wo 0 s 47 := by rw [hss]; exact cTr_n d1 d3 hle1 hs
  have ht := cTr_t hde d1 d3 hle1 hs hss
  have hs47 := hgi.1.2.1
  have hs1 := hgi.1.1
  have hk24 := hE.2.1
  have hm8 : σ2 358 = eO 9 [.ref (ad 359), .int (iv (((n : Nat) : Int))), .ref (ad 360), .ref (ad 361), .int (iv (((de : Nat) : Int))), .int (iv (((le : Nat) : Int))), .int (iv (((wo : Nat) : Int))), .int (iv ((Sv 7))), .long (jv ((Sv 8))), .long (jv ((Sv 9))), .int (iv ((Sv 10))), .int (iv ((Sv 11))), .int (iv ((Sv 12))), .long (jv ((Sv 13))), .long (jv ((Sv 14))), .int (iv (((s.1 : Nat) : Int))), .ref (ad 362), .ref (ad 363), .ref (ad 364), .ref (ad 365), .ref (ad 366), .ref (ad 367), .ref (ad 368), .ref (ad 369), .ref (ad 370), .ref (ad 371), .int (iv ((((k + 1) : Nat) : Int))), .ref (ad 372), .ref (ad 373), .ref (ad 374), .ref (ad 375), .int (iv ((Sv 31))), .int (iv ((Sv 32)))] := by have h := vP.1; unfold moE at h; rw [h15, h26] at h; exact h
  have r15 : ir (Sv 15) := by rw [h15]; exact ir_n (by omega)
  have r26 : ir (Sv 26) := by rw [h26]; exact ir_n (by omega)
  refine v_aload_n hX d_Mo_wrong_4 0 rfl ?_
  refine v_iload_n hX d_Mo_wrong_5 1 rfl ?_
  refine g_callVI (As := [.int (iv (st9))]) (st := []) hX hj (i := 358) (by omega) hm8 (m_Mo_isStage hj vP hD st9 (by assumption) r26) cl_Mo_211 d_Mo_wrong_6 rfl ⟨by decide, by decide⟩ ⟨by decide, by decide⟩ (Nat.le_of_ble_eq_true rfl) (fun z5 σ6 hz7 hp8 => ?_)
  obtain ⟨he9, hv10⟩ := hp8
  rw [h26] at hv10
  rw [he9]
  by_cases q11 : 0 ≤ st9 ∧ st9 < ((k + 1 : Nat) : Int)
  · have z5e : z5 = 1 := hv10.trans (if_pos q11)
    subst z5e
    refine v_if_ne (tgt := 14) hX d_Mo_wrong_9 (by decide) (by first | assumption | (unfold ir; omega)) (fun c9 => ?_) (fun c9 => absurd c9 (by omega))
    refine v_aload_n hX d_Mo_wrong_14 0 rfl ?_
    refine v_iload_n hX d_Mo_wrong_15 1 rfl ?_
    refine v_iconst hX (0) d_Mo_wrong_16 ?_
    have hsi := yT_sI ht st9.toNat (by omega)
    refine v_eq (st' := [.int (iv (0)), .int (iv (((st9.toNat : Nat) : Int))), .ref (ad 358)]) (by rw [show ((st9.toNat : Nat) : Int) = st9 by omega]) ?_
    refine g_callVV (As := [.int (iv (((st9.toNat : Nat) : Int))), .int (iv (0))]) (st := []) hX hj (i := 358) (by omega) hm8 (m_Mo_look hj vP hD vQ hG hgi hni hsi.1 st9.toNat (by omega) (fun x hx => hrs st9.toNat x (by omega) hx) hsi.2.2.2.2 0 (by omega) (by rw [hsi.2.2.2.1]; omega)) cl_Mo_208 d_Mo_wrong_17 rfl ⟨by decide, by decide⟩ ⟨by decide, by decide⟩ (Nat.le_of_ble_eq_true rfl) (fun σ13 hp15 => ?_)
    obtain ⟨gl, lP, lQ, lF⟩ := hp15
    have hm7 : σ13 358 = eO 9 [.ref (ad 359), .int (iv (((n : Nat) : Int))), .ref (ad 360), .ref (ad 361), .int (iv (((de : Nat) : Int))), .int (iv (((le : Nat) : Int))), .int (iv (((wo : Nat) : Int))), .int (iv ((Sv 7))), .long (jv ((Sv 8))), .long (jv ((Sv 9))), .int (iv ((Sv 10))), .int (iv ((Sv 11))), .int (iv ((Sv 12))), .long (jv ((Sv 13))), .long (jv ((Sv 14))), .int (iv ((Sv 15))), .ref (ad 362), .ref (ad 363), .ref (ad 364), .ref (ad 365), .ref (ad 366), .ref (ad 367), .ref (ad 368), .ref (ad 369), .ref (ad 370), .ref (ad 371), .int (iv ((Sv 26))), .ref (ad 372), .ref (ad 373), .ref (ad 374), .ref (ad 375), .int (iv ((yU s.2.2 s.1 s.2.1 st9.toNat 0 10))), .int (iv ((yU s.2.2 s.1 s.2.1 st9.toNat 0 11)))] := lP.1
    refine v_aload_n hX d_Mo_wrong_20 0 rfl ?_
    refine g_get (i := 358) hX hj fl_Mo_197 d_Mo_wrong_21 (by omega) hm7 rfl ?_
    obtain ⟨⟨ub1, ub2⟩, ⟨ub3, ub4⟩, -, ub5⟩ := U_ok hgi ht hsi.1 (st9.toNat : Int) (x := 0) (by omega)
    have vB2 : moB so (mC n cl) (mK n val) (mLf n val so) le de wo n (va_up (va_up Sv 31 (yU s.2.2 s.1 s.2.1 st9.toNat 0 10)) 32 (yU s.2.2 s.1 s.2.1 st9.toNat 0 11)) (va_up Qv 375 gl) := ⟨s, hss, h15, moG_c hG (fun q a1 a2 => va_up_ne _ _ (by omega)), k, h26, hE, (fun j x hj hx => hrs j x hj hx), hal⟩
    exact hret _ _ _ _ d_Mo_wrong_24 (by show ir (kSum s.2.2 (st9.toNat : Int) s.1 s.1 (yT s.2.2 s.1 s.2.1 st9.toNat) 0 11); unfold ir; omega) ⟨_, rfl, va_up (va_up Sv 31 (yU s.2.2 s.1 s.2.1 st9.toNat 0 10)) 32 (yU s.2.2 s.1 s.2.1 st9.toNat 0 11), va_up Qv 375 gl, lP, lQ, v7, vB2, (fun i hi => (lF i (by omega) (by omega)).trans (vF i hi)), k + 1, by rw [← hss]; exact hE, by rw [← hss]; exact aStg_t (g := fun j => yU s.2.2 s.1 s.2.1 j 0 11) (by assumption)⟩ rfl
  · have z5e : z5 = 0 := hv10.trans (if_neg q11)
    subst z5e
    refine v_if_ne (tgt := 14) hX d_Mo_wrong_9 (by decide) (by first | assumption | (unfold ir; omega)) (fun c9 => absurd c9 (by omega)) (fun c9 => ?_)
    refine v_iconst hX (-1) d_Mo_wrong_12 ?_
    exact hret _ _ _ _ d_Mo_wrong_13 (by unfold ir; omega) ⟨_, rfl, Sv, Qv, vP, vQ, v7, vB, vF, k + 1, by rw [← hss]; exact hE, by rw [← hss]; exact aStg_f (by assumption)⟩ rfl
