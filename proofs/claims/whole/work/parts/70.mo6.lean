/-! THE REFERENCE'S STAGES; by program -/
set_option maxHeartbeats 1000000 in
set_option maxRecDepth 100000 in
theorem m_Mo_nextStage {G : xG} {f0 : xF} {ad : Nat → Nat} (hj : adOk ad 400) {σ : xF} {n : Nat} {val : Nat → Nat → Int} {cl so : Nat → Nat} {de le wo : Nat} {S : Nat → Int} (hM : pMo G ad σ n val cl so de le wo S) (hD : dTab n val cl so) {Q : Nat → Nat → Int} (hQ : pMa G σ Q) {s : gS} {kk : Nat} (hG : moG Q s) (hgi : gInv 0 s) (hni : nIv n so (mC n cl) (mK n val) (mLf n val so) le wo 0 s kk) (ht : trO s.1 s.2.1 s.2.2) (h15 : S 15 = (s.1 : Int)) (k : Nat) (hk : k + 1 < 24) (h26 : S 26 = ((k + 1 : Nat) : Int)) (hrow : ∀ x, x < s.1 → Q 372 (64 * k + x) = stF (yT s.2.2 s.1 s.2.1 k) (k : Int) x) (h0 : stR ((yT s.2.2 s.1 s.2.1 k) 0) (k : Int) = 0) : ∀ l, gVo l G f0 ad 400 y_Mo_nextStage (.code y_Mo_nextStage c_Mo_nextStage 11 none) rm_Mo_nextStage [.ref (ad 358)] σ (fun σ' => ∃ Sv Qv, pMo G ad σ' n val cl so de le wo Sv ∧ pMa G σ' Qv ∧ (∀ i, i ≠ 31 → i ≠ 32 → Sv i = S i) ∧ (∀ q, 362 ≤ q → q ≤ 371 → Qv q = Q q) ∧ (∀ i, i < 64 * (k + 1) → Qv 372 i = Q 372 i) ∧ (∀ i, i ≠ 358 → (i < 372 ∨ 375 < i) → σ' i = σ i) ∧ (∀ y, y < s.1 → Qv 372 (64 * (k + 1) + y) = stF (yT s.2.2 s.1 s.2.1 (k + 1)) ((k + 1 : Nat) : Int) y) ∧ Qv 373 = va_up (Q 373) (k + 1) (yA s.2.2 s.1 s.2.1 k).1 ∧ Qv 374 = va_up (Q 374) (k + 1) (yA s.2.2 s.1 s.2.1 k).2) := by
  intro l
  refine mV_of (by decide) (Nat.le_of_ble_eq_true rfl) (fun X hX hret => ?_)
  show vV G X 0 0 0 [(0, .ref (ad 358))] [] (ov f0 ad 400 σ)
  obtain ⟨m0, ⟨sf, m1, m1e⟩, ⟨vf, m2, m2e⟩, ⟨cf, m3, m3e⟩⟩ := id hM
  obtain ⟨d1, d2, d3, d4⟩ := id hD
  have hs47 := hgi.1.2.1
  obtain ⟨T, hT⟩ : ∃ T, T = (yT s.2.2 s.1 s.2.1 k) := ⟨_, rfl⟩
  have hsi := yT_sI ht k (by omega)
  rw [← hT] at hrow h0 hsi
  obtain ⟨U, hU⟩ : ∃ U, U = kSum s.2.2 (k : Int) s.1 s.1 T := ⟨_, rfl⟩
  have hub : ∀ x, x < s.1 → (1 ≤ U x 10 ∧ U x 10 ≤ 32) ∧ (0 ≤ U x 11 ∧ U x 11 ≤ U x 5) ∧ U x 5 = s.2.1 x 5 ∧ U x 5 ≤ 24 := fun x hx => by have h := U_ok hgi ht hsi.1 (k : Int) hx; rw [← hU] at h; have e5 : U x 5 = T x 5 := (by rw [hU]; exact kSum_hi _ _ _ _ _ _ (by decide) _); rw [e5]; exact h
  have hu89 : ∀ x, U x 8 = T x 8 ∧ U x 9 = T x 9 := fun x => ⟨by rw [hU]; exact kSum_hi _ _ _ _ _ _ (by decide) _, by rw [hU]; exact kSum_hi _ _ _ _ _ _ (by decide) _⟩
  have hm9 : σ 358 = eO 9 [.ref (ad 359), .int (iv (((n : Nat) : Int))), .ref (ad 360), .ref (ad 361), .int (iv (((de : Nat) : Int))), .int (iv (((le : Nat) : Int))), .int (iv (((wo : Nat) : Int))), .int (iv ((S 7))), .long (jv ((S 8))), .long (jv ((S 9))), .int (iv ((S 10))), .int (iv ((S 11))), .int (iv ((S 12))), .long (jv ((S 13))), .long (jv ((S 14))), .int (iv (((s.1 : Nat) : Int))), .ref (ad 362), .ref (ad 363), .ref (ad 364), .ref (ad 365), .ref (ad 366), .ref (ad 367), .ref (ad 368), .ref (ad 369), .ref (ad 370), .ref (ad 371), .int (iv ((((k + 1) : Nat) : Int))), .ref (ad 372), .ref (ad 373), .ref (ad 374), .ref (ad 375), .int (iv ((S 31))), .int (iv ((S 32)))] := by rw [← h15, ← h26]; exact m0
  refine v_aload_n hX d_Mo_nextStage_0 0 rfl ?_
  refine g_get (i := 358) hX hj fl_Mo_200 d_Mo_nextStage_1 (by omega) hm9 rfl ?_
  refine v_iconst hX (1) d_Mo_nextStage_4 ?_
  refine v_isub hX d_Mo_nextStage_5 ?_
  refine v_top (x' := iv ((k : Nat) : Int)) (congrArg iv (by omega)) ?_
  refine v_istore_n (lv' := [(1, .int (iv (((k : Nat) : Int)))), (0, .ref (ad 358))]) hX d_Mo_nextStage_6 rfl (by decide) rfl ?_
  refine v_ldc2 hX (-1) d_Mo_nextStage_7 (mT 863 (by decide +kernel) rfl) rfl ?_
  refine v_lstore_n (lv' := [(2, .long (jv ((-1)))), (1, .int (iv (((k : Nat) : Int)))), (0, .ref (ad 358))]) hX d_Mo_nextStage_10 rfl (by decide) rfl ?_
  refine v_lconst hX 1 d_Mo_nextStage_11 rfl ?_
  refine v_lstore (lv' := [(4, .long (jv (1))), (2, .long (jv ((-1)))), (1, .int (iv (((k : Nat) : Int)))), (0, .ref (ad 358))]) hX d_Mo_nextStage_12 (by decide) rfl ?_
  refine v_iconst hX (0) d_Mo_nextStage_14 ?_
  refine v_istore (lv' := [(6, .int (iv (0))), (4, .long (jv (1))), (2, .long (jv ((-1)))), (1, .int (iv (((k : Nat) : Int)))), (0, .ref (ad 358))]) hX d_Mo_nextStage_15 (by decide) rfl ?_
  have LA : ∀ (fuel : Nat) (x : Nat) (σv : xF) (Sv : Nat → Int) (Qv : Nat → Nat → Int) (a : Int) (b : Int), s.1 - x < fuel → (pMo G ad σv n val cl so de le wo Sv) → (pMa G σv Qv) → (∀ i, i ≠ 31 → i ≠ 32 → Sv i = S i) → (∀ q, 362 ≤ q → q ≤ 371 → Qv q = Q q) → (∀ i, i < 64 * (k + 1) → Qv 372 i = Q 372 i) → (∀ i, i ≠ 358 → (i < 372 ∨ 375 < i) → σv i = σ i) → (x ≤ s.1) → (alR (kAl U (k : Int) x (1, 0, 1)) a b) → (ir a) → (ir b) → (Qv 373 = Q 373 ∧ Qv 374 = Q 374) → vV G X 0 0 17 [(0, .ref (ad 358)), (1, .int (iv (((k : Nat) : Int)))), (2, .long (jv (a))), (4, .long (jv (b))), (6, .int (iv (((x : Nat) : Int))))] [] (ov f0 ad 400 σv) := by
    intro fuel
    induction fuel with
    | zero => intro x σv Sv Qv a b hm; exact absurd hm (Nat.not_lt_zero _)
    | succ fuel ih_LA =>
      intro x σv Sv Qv a b hm hP hQv hSk hq hr hFr hxs hal ra rb hq34
      have hm8 : σv 358 = eO 9 [.ref (ad 359), .int (iv (((n : Nat) : Int))), .ref (ad 360), .ref (ad 361), .int (iv (((de : Nat) : Int))), .int (iv (((le : Nat) : Int))), .int (iv (((wo : Nat) : Int))), .int (iv ((Sv 7))), .long (jv ((Sv 8))), .long (jv ((Sv 9))), .int (iv ((Sv 10))), .int (iv ((Sv 11))), .int (iv ((Sv 12))), .long (jv ((Sv 13))), .long (jv ((Sv 14))), .int (iv (((s.1 : Nat) : Int))), .ref (ad 362), .ref (ad 363), .ref (ad 364), .ref (ad 365), .ref (ad 366), .ref (ad 367), .ref (ad 368), .ref (ad 369), .ref (ad 370), .ref (ad 371), .int (iv ((((k + 1) : Nat) : Int))), .ref (ad 372), .ref (ad 373), .ref (ad 374), .ref (ad 375), .int (iv ((Sv 31))), .int (iv ((Sv 32)))] := by have h := hP.1; unfold moE at h; rw [hSk 15 (by decide) (by decide), hSk 26 (by decide) (by decide), h15, h26] at h; exact h
      have hGv : moG Qv s := moG_c hG (fun q a1 a2 => hq q a1 (by omega))
      have hrv : ∀ x, x < s.1 → Qv 372 (64 * k + x) = stF T (k : Int) x := fun x hx => (hr _ (by omega)).trans (hrow x hx)
      refine v_iload hX d_Mo_nextStage_17 4 rfl ?_
      refine v_aload_n hX d_Mo_nextStage_19 0 rfl ?_
      refine g_get (i := 358) hX hj fl_Mo_147 d_Mo_nextStage_20 (by omega) hm8 rfl ?_
      refine v_icmp_ge (tgt := 111) hX d_Mo_nextStage_23 (by decide) (by first | assumption | (unfold ir; omega)) (by first | assumption | (unfold ir; omega)) (fun c23_1 => ?_) (fun c23_1 => ?_)
      · have exs : x = s.1 := by omega
        rw [exs] at hal
        have hq3 : Qv 373 = Q 373 := hq34.1
        have hq4 : Qv 374 = Q 374 := hq34.2
        refine v_aload_n hX d_Mo_nextStage_111 0 rfl ?_
        refine g_get (i := 358) hX hj fl_Mo_60 d_Mo_nextStage_112 (by omega) hm8 rfl ?_
        refine v_aload_n hX d_Mo_nextStage_115 0 rfl ?_
        refine g_get (i := 358) hX hj fl_Mo_200 d_Mo_nextStage_116 (by omega) hm8 rfl ?_
        refine v_lload_n hX d_Mo_nextStage_119 2 rfl ?_
        refine g_last (i := 373) hX hj d_Mo_nextStage_120 (by omega) (hQv.2.2.2.2.1 373 (by decide) (by decide)) (by decide) ((k + 1)) rfl (by omega) ?_
        obtain ⟨σ1, hs2⟩ : ∃ s9, s9 = va_up σv (373) (eL G 48 (va_up (Qv 373) ((k + 1)) (a))) := ⟨_, rfl⟩
        rw [← hs2]
        have hf3 := (show σ1 (358) = σv (358) by rw [hs2, va_up_ne _ _ (by omega)]).trans hm8
        have hf4 : σ1 (373) = (eL G 48 (va_up (Qv 373) ((k + 1)) (a))) := by rw [hs2, va_up_self]
        obtain ⟨Q6, eQ7⟩ : ∃ Qq, Qq = va_up Qv 373 (va_up (Qv 373) ((k + 1)) (a)) := ⟨_, rfl⟩
        have hQ5 : pMa G σ1 Q6 := by rw [eQ7]; exact hQv.set 373 (fun i hi => by rw [hs2, va_up_ne _ _ hi]) (fun a b => absurd b (by decide)) (fun a b => absurd b (by decide)) (fun a => absurd a (by decide)) (fun a => absurd a (by decide)) (fun _ _ => (by rw [hs2, va_up_self])) (fun a => absurd a (by decide))
        refine v_aload_n hX d_Mo_nextStage_121 0 rfl ?_
        refine g_get (i := 358) hX hj fl_Mo_63 d_Mo_nextStage_122 (by omega) hf3 rfl ?_
        refine v_aload_n hX d_Mo_nextStage_125 0 rfl ?_
        refine g_get (i := 358) hX hj fl_Mo_200 d_Mo_nextStage_126 (by omega) hf3 rfl ?_
        refine v_lload hX d_Mo_nextStage_129 3 rfl ?_
        refine g_last (i := 374) hX hj d_Mo_nextStage_131 (by omega) (hQ5.2.2.2.2.1 374 (by decide) (by decide)) (by decide) ((k + 1)) rfl (by omega) ?_
        obtain ⟨σ8, hs9⟩ : ∃ s9, s9 = va_up σ1 (374) (eL G 48 (va_up (Q6 374) ((k + 1)) (b))) := ⟨_, rfl⟩
        rw [← hs9]
        have hf10 := (show σ8 (358) = σ1 (358) by rw [hs9, va_up_ne _ _ (by omega)]).trans hf3
        have hf11 : σ8 (374) = (eL G 48 (va_up (Q6 374) ((k + 1)) (b))) := by rw [hs9, va_up_self]
        obtain ⟨Q13, eQ14⟩ : ∃ Qq, Qq = va_up Q6 374 (va_up (Q6 374) ((k + 1)) (b)) := ⟨_, rfl⟩
        have hQ12 : pMa G σ8 Q13 := by rw [eQ14]; exact hQ5.set 374 (fun i hi => by rw [hs9, va_up_ne _ _ hi]) (fun a b => absurd b (by decide)) (fun a b => absurd b (by decide)) (fun a => absurd a (by decide)) (fun a => absurd a (by decide)) (fun _ _ => (by rw [hs9, va_up_self])) (fun a => absurd a (by decide))
        refine v_iconst hX (0) d_Mo_nextStage_132 ?_
        refine v_istore (lv' := [(6, .int (iv (0))), (0, .ref (ad 358)), (1, .int (iv (((k : Nat) : Int)))), (2, .long (jv (a))), (4, .long (jv (b)))]) hX d_Mo_nextStage_133 (by decide) rfl ?_
        have LB : ∀ (fuel : Nat) (x : Nat) (σv : xF) (Sv : Nat → Int) (Qv : Nat → Nat → Int), s.1 - x < fuel → (pMo G ad σv n val cl so de le wo Sv) → (pMa G σv Qv) → (∀ i, i ≠ 31 → i ≠ 32 → Sv i = S i) → (∀ q, 362 ≤ q → q ≤ 371 → Qv q = Q q) → (∀ i, i < 64 * (k + 1) → Qv 372 i = Q 372 i) → (∀ i, i ≠ 358 → (i < 372 ∨ 375 < i) → σv i = σ i) → (x ≤ s.1) → (∀ y, y < x → Qv 372 (64 * (k + 1) + y) = nwF U (k : Int) a b y) → (Qv 373 = va_up (Q 373) (k + 1) a) → (Qv 374 = va_up (Q 374) (k + 1) b) → vV G X 0 0 135 [(0, .ref (ad 358)), (1, .int (iv (((k : Nat) : Int)))), (2, .long (jv (a))), (4, .long (jv (b))), (6, .int (iv (((x : Nat) : Int))))] [] (ov f0 ad 400 σv) := by
          intro fuel
          induction fuel with
          | zero => intro x σv Sv Qv hm; exact absurd hm (Nat.not_lt_zero _)
          | succ fuel ih_LB =>
            intro x σv Sv Qv hm hP hQv hSk hq hr hFr hxs h2 h373 h374
            have hm8 : σv 358 = eO 9 [.ref (ad 359), .int (iv (((n : Nat) : Int))), .ref (ad 360), .ref (ad 361), .int (iv (((de : Nat) : Int))), .int (iv (((le : Nat) : Int))), .int (iv (((wo : Nat) : Int))), .int (iv ((Sv 7))), .long (jv ((Sv 8))), .long (jv ((Sv 9))), .int (iv ((Sv 10))), .int (iv ((Sv 11))), .int (iv ((Sv 12))), .long (jv ((Sv 13))), .long (jv ((Sv 14))), .int (iv (((s.1 : Nat) : Int))), .ref (ad 362), .ref (ad 363), .ref (ad 364), .ref (ad 365), .ref (ad 366), .ref (ad 367), .ref (ad 368), .ref (ad 369), .ref (ad 370), .ref (ad 371), .int (iv ((((k + 1) : Nat) : Int))), .ref (ad 372), .ref (ad 373), .ref (ad 374), .ref (ad 375), .int (iv ((Sv 31))), .int (iv ((Sv 32)))] := by have h := hP.1; unfold moE at h; rw [hSk 15 (by decide) (by decide), hSk 26 (by decide) (by decide), h15, h26] at h; exact h
            have hGv : moG Qv s := moG_c hG (fun q a1 a2 => hq q a1 (by omega))
            have hrv : ∀ x, x < s.1 → Qv 372 (64 * k + x) = stF T (k : Int) x := fun x hx => (hr _ (by omega)).trans (hrow x hx)
            refine v_iload hX d_Mo_nextStage_135 4 rfl ?_
            refine v_aload_n hX d_Mo_nextStage_137 0 rfl ?_
            refine g_get (i := 358) hX hj fl_Mo_147 d_Mo_nextStage_138 (by omega) hm8 rfl ?_
            refine v_icmp_ge (tgt := 233) hX d_Mo_nextStage_141 (by decide) (by first | assumption | (unfold ir; omega)) (by first | assumption | (unfold ir; omega)) (fun c141_2 => ?_) (fun c141_2 => ?_)
            · refine v_iconst hX (0) d_Mo_nextStage_233 ?_
              refine v_istore (lv' := [(6, .int (iv (0))), (0, .ref (ad 358)), (1, .int (iv (((k : Nat) : Int)))), (2, .long (jv (a))), (4, .long (jv (b)))]) hX d_Mo_nextStage_234 (by decide) rfl ?_
              have LD : ∀ (fuel : Nat) (x : Nat) (σv : xF) (Sv : Nat → Int) (Qv : Nat → Nat → Int), s.1 - x < fuel → (pMo G ad σv n val cl so de le wo Sv) → (pMa G σv Qv) → (∀ i, i ≠ 31 → i ≠ 32 → Sv i = S i) → (∀ q, 362 ≤ q → q ≤ 371 → Qv q = Q q) → (∀ i, i < 64 * (k + 1) → Qv 372 i = Q 372 i) → (∀ i, i ≠ 358 → (i < 372 ∨ 375 < i) → σv i = σ i) → (x ≤ s.1) → (∀ y, y < s.1 → Qv 372 (64 * (k + 1) + y) = (r3F s.2.2 (nwF U (k : Int) a b) x y)) → (Qv 373 = va_up (Q 373) (k + 1) a) → (Qv 374 = va_up (Q 374) (k + 1) b) → vV G X 0 0 236 [(0, .ref (ad 358)), (1, .int (iv (((k : Nat) : Int)))), (2, .long (jv (a))), (4, .long (jv (b))), (6, .int (iv (((x : Nat) : Int))))] [] (ov f0 ad 400 σv) := by
                intro fuel
                induction fuel with
                | zero => intro x σv Sv Qv hm; exact absurd hm (Nat.not_lt_zero _)
                | succ fuel ih_LD =>
                  intro x σv Sv Qv hm hP hQv hSk hq hr hFr hxs h3 h373 h374
                  have hm8 : σv 358 = eO 9 [.ref (ad 359), .int (iv (((n : Nat) : Int))), .ref (ad 360), .ref (ad 361), .int (iv (((de : Nat) : Int))), .int (iv (((le : Nat) : Int))), .int (iv (((wo : Nat) : Int))), .int (iv ((Sv 7))), .long (jv ((Sv 8))), .long (jv ((Sv 9))), .int (iv ((Sv 10))), .int (iv ((Sv 11))), .int (iv ((Sv 12))), .long (jv ((Sv 13))), .long (jv ((Sv 14))), .int (iv (((s.1 : Nat) : Int))), .ref (ad 362), .ref (ad 363), .ref (ad 364), .ref (ad 365), .ref (ad 366), .ref (ad 367), .ref (ad 368), .ref (ad 369), .ref (ad 370), .ref (ad 371), .int (iv ((((k + 1) : Nat) : Int))), .ref (ad 372), .ref (ad 373), .ref (ad 374), .ref (ad 375), .int (iv ((Sv 31))), .int (iv ((Sv 32)))] := by have h := hP.1; unfold moE at h; rw [hSk 15 (by decide) (by decide), hSk 26 (by decide) (by decide), h15, h26] at h; exact h
                  have hGv : moG Qv s := moG_c hG (fun q a1 a2 => hq q a1 (by omega))
                  have hrv : ∀ x, x < s.1 → Qv 372 (64 * k + x) = stF T (k : Int) x := fun x hx => (hr _ (by omega)).trans (hrow x hx)
                  refine v_iload hX d_Mo_nextStage_236 4 rfl ?_
                  refine v_aload_n hX d_Mo_nextStage_238 0 rfl ?_
                  refine g_get (i := 358) hX hj fl_Mo_147 d_Mo_nextStage_239 (by omega) hm8 rfl ?_
                  refine v_icmp_ge (tgt := 321) hX d_Mo_nextStage_242 (by decide) (by first | assumption | (unfold ir; omega)) (by first | assumption | (unfold ir; omega)) (fun c242_3 => ?_) (fun c242_3 => ?_)
                  · have exs3 : x = s.1 := by omega
                    rw [exs3] at h3
                    obtain ⟨eA1, eA2⟩ : a = (yA s.2.2 s.1 s.2.1 k).1 ∧ b = (yA s.2.2 s.1 s.2.1 k).2 := by
                      have e : yA s.2.2 s.1 s.2.1 k = (kAl U (k : Int) s.1 (1, 0, 1)).2 := by unfold yA yU; rw [← hT, ← hU]
                      rw [e]
                      rcases hal with ⟨q, -⟩ | ⟨-, q2, q3, -⟩
                      · exfalso
                        rcases kAl_m (T := U) (s := (k : Int)) (A0 := (1, 0, 1)) rfl s.1 with ⟨-, -, q9⟩ | ⟨q9, -⟩
                        · exact q9 0 (by have := ht.1.1; omega) (by rw [(hu89 0).1, (hu89 0).2]; exact stR_0 h0)
                        · omega
                      · exact ⟨q2, q3⟩
                    have hfin : ∀ y, y < s.1 → Qv 372 (64 * (k + 1) + y) = stF (yT s.2.2 s.1 s.2.1 (k + 1)) ((k + 1 : Nat) : Int) y := fun y hy => by
                      rw [h3 y hy, r3_kCb (sz := s.1) ht.2.1 (fun x hx => by rw [(hu89 x).1]; have := hsi.2.1 x hx; omega) (fun x hx => by rw [(hu89 x).2]; have := hsi.2.2.1 x hx; omega) (by omega) s.1 y (Nat.le_refl _) hy, kCb_fix (sz := s.1) ht.2.1 s.1 y (Nat.le_refl _) hy, eA1, eA2]
                      have e : yT s.2.2 s.1 s.2.1 (k + 1) = kCb s.2.2 (k : Int) (yA s.2.2 s.1 s.2.1 k).1 (yA s.2.2 s.1 s.2.1 k).2 s.1 U := by rw [hU, hT]; rfl
                      rw [e]; rfl
                    rw [eA1] at h373
                    rw [eA2] at h374
                    exact hret _ _ _ d_Mo_nextStage_321 ⟨_, rfl, Sv, Qv, hP, hQv, hSk, hq, hr, hFr, hfin, h373, h374⟩
                  · have hx : x < s.1 := by omega
                    obtain ⟨g1, g2, g3⟩ := hG x hx
                    obtain ⟨⟨o1, o2⟩, -, -⟩ := hgi.1.2.2 x hx
                    obtain ⟨-, -, -, hx5⟩ := hni.1 x hx
                    obtain ⟨ro, ero⟩ : ∃ ro : Nat, s.2.1 x 2 = (ro : Int) := ⟨(s.2.1 x 2).toNat, by omega⟩
                    rw [ero, Int.toNat_natCast] at hx5
                    have hro24 : ro < 16777216 := by omega
                    obtain ⟨⟨u1, u2⟩, ⟨u3, u4⟩, u5, u6⟩ := hub x hx
                    have hw5 : wrI (mC n cl) ro = U x 5 := by rw [u5]; exact hx5.symm
                    rcases g3 with ⟨hn0, kn⟩ | ⟨m, hch, k7, k8, -⟩
                    · refine v_aload_n hX d_Mo_nextStage_245 0 rfl ?_
                      refine g_get (i := 358) hX hj fl_Mo_41 d_Mo_nextStage_246 (by omega) hm8 rfl ?_
                      refine v_iload hX d_Mo_nextStage_249 4 rfl ?_
                      refine g_iald (i := 367) hX hj d_Mo_nextStage_251 (by omega) (hQv.1 367 (by decide) (by decide)) (by decide) (x) rfl (by omega) ?_
                      refine v_top (x' := iv (-1)) (congrArg iv (by rw [hq 367 (by decide) (by decide)]; exact kn)) ?_
                      refine v_if_lt (tgt := 315) hX d_Mo_nextStage_252 (by decide) (by first | assumption | (unfold ir; omega)) (fun c9 => ?_) (fun c9 => absurd c9 (by omega))
                      refine v_iincN (a := x) (n := 1) (lv' := [(6, .int (iv ((((x + 1) : Nat) : Int)))), (0, .ref (ad 358)), (1, .int (iv (((k : Nat) : Int)))), (2, .long (jv (a))), (4, .long (jv (b)))]) hX d_Mo_nextStage_315 rfl 4 rfl (by decide) rfl ?_
                      refine v_goto (tgt := 236) hX d_Mo_nextStage_318 (by decide) ?_
                      refine v_lv [1, 2, 3, 4, 0] rfl ?_
                      exact ih_LD (x + 1) (σv) (Sv) (Qv) (by omega) hP hQv hSk hq hr hFr (by omega) (fun y hy => by rw [r3_n (by assumption)]; exact h3 y hy) h373 h374
                    · obtain ⟨m9, z1, hm1, hm2, -⟩ := hgi.2.2.2 x _ hx hch
                      have em : m9 = m := by omega
                      rw [em] at hm1 hm2
                      refine v_aload_n hX d_Mo_nextStage_245 0 rfl ?_
                      refine g_get (i := 358) hX hj fl_Mo_41 d_Mo_nextStage_246 (by omega) hm8 rfl ?_
                      refine v_iload hX d_Mo_nextStage_249 4 rfl ?_
                      refine g_iald (i := 367) hX hj d_Mo_nextStage_251 (by omega) (hQv.1 367 (by decide) (by decide)) (by decide) (x) rfl (by omega) ?_
                      refine v_top (x' := iv (((m : Nat) : Int))) (congrArg iv (by rw [hq 367 (by decide) (by decide)]; exact k7)) ?_
                      refine v_if_lt (tgt := 315) hX d_Mo_nextStage_252 (by decide) (by first | assumption | (unfold ir; omega)) (fun c252_5 => absurd c252_5 (by omega)) (fun c252_5 => ?_)
                      refine v_aload_n hX d_Mo_nextStage_255 0 rfl ?_
                      refine g_get (i := 358) hX hj fl_Mo_57 d_Mo_nextStage_256 (by omega) hm8 rfl ?_
                      refine v_bipush hX (64) d_Mo_nextStage_259 rfl ?_
                      refine v_aload_n hX d_Mo_nextStage_261 0 rfl ?_
                      refine g_get (i := 358) hX hj fl_Mo_200 d_Mo_nextStage_262 (by omega) hm8 rfl ?_
                      refine v_imulN (a := 64) (b := (k + 1)) hX d_Mo_nextStage_265 ?_
                      refine v_iload hX d_Mo_nextStage_266 4 rfl ?_
                      refine v_iaddN (a := (64 * (k + 1))) (b := x) hX d_Mo_nextStage_268 ?_
                      refine g_iald (i := 372) hX hj d_Mo_nextStage_269 (by omega) hQv.2.2.2.1 (by decide) (((64 * (k + 1)) + x)) rfl (by omega) ?_
                      refine v_top (x' := iv ((r3F s.2.2 (nwF U (k : Int) a b) x x))) (congrArg iv (h3 x hx)) ?_
                      by_cases hz3 : (r3F s.2.2 (nwF U (k : Int) a b) x x) = 0
                      · refine v_top (x' := iv ((0 : Nat) : Int)) (congrArg iv hz3) ?_
                        refine v_if_eq (tgt := 315) hX d_Mo_nextStage_270 (by decide) (by first | assumption | (unfold ir; omega)) (fun c9 => ?_) (fun c9 => absurd c9 (by omega))
                        refine v_iincN (a := x) (n := 1) (lv' := [(6, .int (iv ((((x + 1) : Nat) : Int)))), (0, .ref (ad 358)), (1, .int (iv (((k : Nat) : Int)))), (2, .long (jv (a))), (4, .long (jv (b)))]) hX d_Mo_nextStage_315 rfl 4 rfl (by decide) rfl ?_
                        refine v_goto (tgt := 236) hX d_Mo_nextStage_318 (by decide) ?_
                        refine v_lv [1, 2, 3, 4, 0] rfl ?_
                        exact ih_LD (x + 1) (σv) (Sv) (Qv) (by omega) hP hQv hSk hq hr hFr (by omega) (fun y hy => by rw [r3_z hch (by omega)]; exact h3 y hy) h373 h374
                      · have hz4 : (r3F s.2.2 (nwF U (k : Int) a b) x x) = 1 ∨ (r3F s.2.2 (nwF U (k : Int) a b) x x) = 2 := r3_12 (fun y => nw_12 U _ a b y) x x hz3
                        obtain ⟨rr, hrr⟩ : ∃ rr, rr = (r3F s.2.2 (nwF U (k : Int) a b) x x) := ⟨_, rfl⟩
                        rw [← hrr] at hz3 hz4 ⊢
                        refine v_if_eq (tgt := 315) hX d_Mo_nextStage_270 (by decide) (by first | assumption | (unfold ir; omega)) (fun c270_7 => absurd c270_7 (by omega)) (fun c270_7 => ?_)
                        refine v_aload_n hX d_Mo_nextStage_273 0 rfl ?_
                        refine g_get (i := 358) hX hj fl_Mo_57 d_Mo_nextStage_274 (by omega) hm8 rfl ?_
                        refine v_bipush hX (64) d_Mo_nextStage_277 rfl ?_
                        refine v_aload_n hX d_Mo_nextStage_279 0 rfl ?_
                        refine g_get (i := 358) hX hj fl_Mo_200 d_Mo_nextStage_280 (by omega) hm8 rfl ?_
                        refine v_imulN (a := 64) (b := (k + 1)) hX d_Mo_nextStage_283 ?_
                        refine v_aload_n hX d_Mo_nextStage_284 0 rfl ?_
                        refine g_get (i := 358) hX hj fl_Mo_41 d_Mo_nextStage_285 (by omega) hm8 rfl ?_
                        refine v_iload hX d_Mo_nextStage_288 4 rfl ?_
                        refine g_iald (i := 367) hX hj d_Mo_nextStage_290 (by omega) (hQv.1 367 (by decide) (by decide)) (by decide) (x) rfl (by omega) ?_
                        refine v_top (x' := iv (((m : Nat) : Int))) (congrArg iv (by rw [hq 367 (by decide) (by decide)]; exact k7)) ?_
                        refine v_iaddN (a := (64 * (k + 1))) (b := m) hX d_Mo_nextStage_291 ?_
                        refine v_iconst hX (2) d_Mo_nextStage_292 ?_
                        refine g_iast (i := 372) hX hj d_Mo_nextStage_293 (by omega) hQv.2.2.2.1 (by decide) (((64 * (k + 1)) + m)) rfl (by omega) ?_
                        obtain ⟨σ15, hs16⟩ : ∃ s9, s9 = va_up σv (372) (eJ G 3072 (va_up (Qv 372) (((64 * (k + 1)) + m)) (2))) := ⟨_, rfl⟩
                        rw [← hs16]
                        have hf17 := (show σ15 (358) = σv (358) by rw [hs16, va_up_ne _ _ (by omega)]).trans hm8
                        have hf18 : σ15 (372) = (eJ G 3072 (va_up (Qv 372) (((64 * (k + 1)) + m)) (2))) := by rw [hs16, va_up_self]
                        obtain ⟨Q20, eQ21⟩ : ∃ Qq, Qq = va_up Qv 372 (va_up (Qv 372) (((64 * (k + 1)) + m)) (2)) := ⟨_, rfl⟩
                        have hQ19 : pMa G σ15 Q20 := by rw [eQ21]; exact hQv.set 372 (fun i hi => by rw [hs16, va_up_ne _ _ hi]) (fun a b => absurd b (by decide)) (fun a b => absurd b (by decide)) (fun a => absurd a (by decide)) (fun _ => (by rw [hs16, va_up_self])) (fun a b => absurd a (by decide)) (fun a => absurd a (by decide))
                        refine v_aload_n hX d_Mo_nextStage_294 0 rfl ?_
                        refine g_get (i := 358) hX hj fl_Mo_57 d_Mo_nextStage_295 (by omega) hf17 rfl ?_
                        refine v_bipush hX (64) d_Mo_nextStage_298 rfl ?_
                        refine v_aload_n hX d_Mo_nextStage_300 0 rfl ?_
                        refine g_get (i := 358) hX hj fl_Mo_200 d_Mo_nextStage_301 (by omega) hf17 rfl ?_
                        refine v_imulN (a := 64) (b := (k + 1)) hX d_Mo_nextStage_304 ?_
                        refine v_aload_n hX d_Mo_nextStage_305 0 rfl ?_
                        refine g_get (i := 358) hX hj fl_Mo_44 d_Mo_nextStage_306 (by omega) hf17 rfl ?_
                        refine v_iload hX d_Mo_nextStage_309 4 rfl ?_
                        refine g_iald (i := 368) hX hj d_Mo_nextStage_311 (by omega) (hQ19.1 368 (by decide) (by decide)) (by decide) (x) rfl (by omega) ?_
                        refine v_top (x' := iv ((((m + 1) : Nat) : Int))) (congrArg iv (by rw [eQ21, va_up_ne _ _ (by decide), hq 368 (by decide) (by decide)]; exact k8)) ?_
                        refine v_iaddN (a := (64 * (k + 1))) (b := (m + 1)) hX d_Mo_nextStage_312 ?_
                        refine v_iconst hX (2) d_Mo_nextStage_313 ?_
                        refine g_iast (i := 372) hX hj d_Mo_nextStage_314 (by omega) hQ19.2.2.2.1 (by decide) (((64 * (k + 1)) + (m + 1))) rfl (by omega) ?_
                        obtain ⟨σ22, hs23⟩ : ∃ s9, s9 = va_up σ15 (372) (eJ G 3072 (va_up (Q20 372) (((64 * (k + 1)) + (m + 1))) (2))) := ⟨_, rfl⟩
                        rw [← hs23]
                        have hf24 := (show σ22 (358) = σ15 (358) by rw [hs23, va_up_ne _ _ (by omega)]).trans hf17
                        have hf25 : σ22 (372) = (eJ G 3072 (va_up (Q20 372) (((64 * (k + 1)) + (m + 1))) (2))) := by rw [hs23, va_up_self]
                        obtain ⟨Q27, eQ28⟩ : ∃ Qq, Qq = va_up Q20 372 (va_up (Q20 372) (((64 * (k + 1)) + (m + 1))) (2)) := ⟨_, rfl⟩
                        have hQ26 : pMa G σ22 Q27 := by rw [eQ28]; exact hQ19.set 372 (fun i hi => by rw [hs23, va_up_ne _ _ hi]) (fun a b => absurd b (by decide)) (fun a b => absurd b (by decide)) (fun a => absurd a (by decide)) (fun _ => (by rw [hs23, va_up_self])) (fun a b => absurd a (by decide)) (fun a => absurd a (by decide))
                        refine v_iincN (a := x) (n := 1) (lv' := [(6, .int (iv ((((x + 1) : Nat) : Int)))), (0, .ref (ad 358)), (1, .int (iv (((k : Nat) : Int)))), (2, .long (jv (a))), (4, .long (jv (b)))]) hX d_Mo_nextStage_315 rfl 4 rfl (by decide) rfl ?_
                        refine v_goto (tgt := 236) hX d_Mo_nextStage_318 (by decide) ?_
                        refine v_lv [1, 2, 3, 4, 0] rfl ?_
                        exact ih_LD (x + 1) (σ22) (Sv) (Q27) (by omega) (hP.up (by rw [hs23, va_up_ne _ _ (by decide), hs16, va_up_ne _ _ (by decide)]; exact hP.1) (by rw [hs23, va_up_ne _ _ (by decide), hs16, va_up_ne _ _ (by decide)]) (by rw [hs23, va_up_ne _ _ (by decide), hs16, va_up_ne _ _ (by decide)]) (by rw [hs23, va_up_ne _ _ (by decide), hs16, va_up_ne _ _ (by decide)])) hQ26 hSk (fun q a1 a2 => by rw [eQ28, va_up_ne _ _ (by omega), eQ21, va_up_ne _ _ (by omega)]; exact hq q a1 a2) (fun i hi => by rw [eQ28, va_up_self, va_up_ne _ _ (by omega), eQ21, va_up_self, va_up_ne _ _ (by omega)]; exact hr i hi) (fun i i1 i2 => by rw [hs23, va_up_ne _ _ (by omega), hs16, va_up_ne _ _ (by omega)]; exact hFr i i1 i2) (by omega) (fun y hy => by
                            rw [r3_g hch (by omega), eQ28, va_up_self, eQ21, va_up_self]
                            by_cases qa : y = m + 1
                            · subst qa; rw [va_up_self, va_up_self]
                            · rw [va_up_ne _ _ (by omega), va_up_ne _ _ qa]
                              by_cases qb : y = m
                              · subst qb; rw [va_up_self, va_up_self]
                              · rw [va_up_ne _ _ (by omega), va_up_ne _ _ qb]; exact h3 y hy) (by rw [eQ28, va_up_ne _ _ (by decide), eQ21, va_up_ne _ _ (by decide)]; exact h373) (by rw [eQ28, va_up_ne _ _ (by decide), eQ21, va_up_ne _ _ (by decide)]; exact h374)
              refine v_lv [1, 2, 3, 4, 0] rfl ?_
              exact LD _ (0) (σv) (Sv) (Qv) (Nat.lt_succ_self _) hP hQv hSk hq hr hFr (Nat.zero_le _) (fun y hy => h2 y (by omega)) h373 h374
            · have hx : x < s.1 := by omega
              obtain ⟨g1, g2, g3⟩ := hG x hx
              obtain ⟨⟨o1, o2⟩, -, -⟩ := hgi.1.2.2 x hx
              obtain ⟨-, -, -, hx5⟩ := hni.1 x hx
              obtain ⟨ro, ero⟩ : ∃ ro : Nat, s.2.1 x 2 = (ro : Int) := ⟨(s.2.1 x 2).toNat, by omega⟩
              rw [ero, Int.toNat_natCast] at hx5
              have hro24 : ro < 16777216 := by omega
              obtain ⟨⟨u1, u2⟩, ⟨u3, u4⟩, u5, u6⟩ := hub x hx
              have hw5 : wrI (mC n cl) ro = U x 5 := by rw [u5]; exact hx5.symm
              refine v_aload_n hX d_Mo_nextStage_144 0 rfl ?_
              refine g_get (i := 358) hX hj fl_Mo_57 d_Mo_nextStage_145 (by omega) hm8 rfl ?_
              refine v_bipush hX (64) d_Mo_nextStage_148 rfl ?_
              refine v_iload_n hX d_Mo_nextStage_150 1 rfl ?_
              refine v_imulN (a := 64) (b := k) hX d_Mo_nextStage_151 ?_
              refine v_iload hX d_Mo_nextStage_152 4 rfl ?_
              refine v_iaddN (a := (64 * k)) (b := x) hX d_Mo_nextStage_154 ?_
              refine g_iald (i := 372) hX hj d_Mo_nextStage_155 (by omega) hQv.2.2.2.1 (by decide) (((64 * k) + x)) rfl (by omega) ?_
              refine v_top (x' := iv ((stF T (k : Int) x))) (congrArg iv (hrv x hx)) ?_
              refine v_istore (lv' := [(7, .int (iv ((stF T (k : Int) x)))), (0, .ref (ad 358)), (1, .int (iv (((k : Nat) : Int)))), (2, .long (jv (a))), (4, .long (jv (b))), (6, .int (iv (((x : Nat) : Int))))]) hX d_Mo_nextStage_156 (by decide) rfl ?_
              refine v_iload hX d_Mo_nextStage_158 0 rfl ?_
              by_cases hp : stR (T x) (k : Int) = 0
              · refine v_top (x' := iv ((0 : Nat) : Int)) (congrArg iv hp) ?_
                have hpp := stR_0 hp
                have hpu : ¬ U x 9 ≤ (k : Int) ∧ ¬ U x 8 ≤ (k : Int) := by rw [(hu89 x).1, (hu89 x).2]; exact hpp
                refine v_if_ne (tgt := 210) hX d_Mo_nextStage_160 (by decide) (by first | assumption | (unfold ir; omega)) (fun c9 => absurd c9 (by omega)) (fun c9 => ?_)
                refine v_aload_n hX d_Mo_nextStage_163 1 rfl ?_
                refine v_iload_n hX d_Mo_nextStage_164 2 rfl ?_
                refine v_iload hX d_Mo_nextStage_165 5 rfl ?_
                refine g_callVV (As := [.int (iv (((k : Nat) : Int))), .int (iv (((x : Nat) : Int)))]) (st := []) hX hj (i := 358) (by omega) hm8 (m_Mo_look hj hP hD hQv hGv hgi hni hsi.1 k (by omega) hrv hsi.2.2.2.2 x hx hpp.1) cl_Mo_208 d_Mo_nextStage_167 rfl ⟨by decide, by decide⟩ ⟨by decide, by decide⟩ (Nat.le_of_ble_eq_true rfl) (fun σ30 hp32 => ?_)
                obtain ⟨gl, lP, lQ, lF⟩ := hp32
                rw [← hU] at lP
                obtain ⟨Ql, eQl⟩ : ∃ Ql, Ql = va_up Qv 375 gl := ⟨_, rfl⟩
                rw [← eQl] at lQ
                have hm7 : σ30 358 = eO 9 [.ref (ad 359), .int (iv (((n : Nat) : Int))), .ref (ad 360), .ref (ad 361), .int (iv (((de : Nat) : Int))), .int (iv (((le : Nat) : Int))), .int (iv (((wo : Nat) : Int))), .int (iv ((Sv 7))), .long (jv ((Sv 8))), .long (jv ((Sv 9))), .int (iv ((Sv 10))), .int (iv ((Sv 11))), .int (iv ((Sv 12))), .long (jv ((Sv 13))), .long (jv ((Sv 14))), .int (iv (((s.1 : Nat) : Int))), .ref (ad 362), .ref (ad 363), .ref (ad 364), .ref (ad 365), .ref (ad 366), .ref (ad 367), .ref (ad 368), .ref (ad 369), .ref (ad 370), .ref (ad 371), .int (iv ((((k + 1) : Nat) : Int))), .ref (ad 372), .ref (ad 373), .ref (ad 374), .ref (ad 375), .int (iv ((U x 10))), .int (iv ((U x 11)))] := by have h : σ30 358 = moE ad n de le wo (va_up (va_up Sv 31 (U x 10)) 32 (U x 11)) := lP.1; unfold moE at h; rw [show va_up (va_up Sv 31 (U x 10)) 32 (U x 11) 15 = (s.1 : Int) from (hSk 15 (by decide) (by decide)).trans h15, show va_up (va_up Sv 31 (U x 10)) 32 (U x 11) 26 = ((k + 1 : Nat) : Int) from (hSk 26 (by decide) (by decide)).trans h26] at h; exact h
                have lFr : ∀ i, i ≠ 358 → (i < 372 ∨ 375 < i) → σ30 i = σ i := fun i i1 i2 => (lF i i1 (by omega)).trans (hFr i i1 i2)
                have lSk : ∀ i, i ≠ 31 → i ≠ 32 → va_up (va_up Sv 31 (U x 10)) 32 (U x 11) i = S i := fun i i1 i2 => by rw [va_up_ne _ _ i2, va_up_ne _ _ i1]; exact hSk i i1 i2
                have lq : ∀ q, 362 ≤ q → q ≤ 374 → Ql q = Qv q := fun q a1 a2 => by rw [eQl, va_up_ne _ _ (by omega)]
                refine v_aload_n hX d_Mo_nextStage_170 1 rfl ?_
                refine v_aload_n hX d_Mo_nextStage_171 1 rfl ?_
                refine g_get (i := 358) hX hj fl_Mo_26 d_Mo_nextStage_172 (by omega) hm7 rfl ?_
                refine v_iload hX d_Mo_nextStage_175 5 rfl ?_
                refine g_iald (i := 362) hX hj d_Mo_nextStage_177 (by omega) (lQ.1 362 (by decide) (by decide)) (by decide) (x) rfl (by omega) ?_
                refine v_top (x' := iv (((ro : Nat) : Int))) (congrArg iv (by rw [lq 362 (by decide) (by decide), hq 362 (by decide) (by decide)]; exact g1.trans ero)) ?_
                refine g_callVI (As := [.int (iv (((ro : Nat) : Int)))]) (st := []) hX hj (i := 358) (by omega) hm7 (m_Mo_wrongOf hj lP hD ro hro24) cl_Mo_150 d_Mo_nextStage_178 rfl ⟨by decide, by decide⟩ ⟨by decide, by decide⟩ (Nat.le_of_ble_eq_true rfl) (fun z33 σ34 hz35 hp36 => ?_)
                obtain ⟨he37, hv38⟩ := hp36
                rw [he37]
                have hv38 : z33 = U x 5 := hv38.trans hw5
                subst hv38
                refine v_aload_n hX d_Mo_nextStage_181 1 rfl ?_
                refine g_get (i := 358) hX hj fl_Mo_197 d_Mo_nextStage_182 (by omega) hm7 rfl ?_
                refine v_isub hX d_Mo_nextStage_185 ?_
                refine v_i2l hX d_Mo_nextStage_186 (by first | assumption | (unfold ir; omega)) ?_
                refine v_lload hX d_Mo_nextStage_187 4 rfl ?_
                refine v_lmul hX d_Mo_nextStage_189 ?_
                refine v_lload_n hX d_Mo_nextStage_190 3 rfl ?_
                refine v_aload_n hX d_Mo_nextStage_191 1 rfl ?_
                refine g_get (i := 358) hX hj fl_Mo_194 d_Mo_nextStage_192 (by omega) hm7 rfl ?_
                refine v_iconst hX (1) d_Mo_nextStage_195 ?_
                refine v_isub hX d_Mo_nextStage_196 ?_
                refine v_i2l hX d_Mo_nextStage_197 (by first | assumption | (unfold ir; omega)) ?_
                refine v_lmul hX d_Mo_nextStage_198 ?_
                refine v_lcmp hX d_Mo_nextStage_199 (by first | (unfold jr; omega) | exact jr_mul (by first | assumption | (unfold ir; omega)) (by first | assumption | (unfold ir; omega))) (by first | (unfold jr; omega) | exact jr_mul (by first | assumption | (unfold ir; omega)) (by first | assumption | (unfold ir; omega))) ?_
                obtain ⟨z39, hz39, hz39r, hz39a, hz39b, hz39c⟩ := cmp_ex ((((U x 5) - (U x 11)) * b)) ((a * ((U x 10) - 1)))
                rw [← hz39]
                refine v_if_ne (tgt := 207) hX d_Mo_nextStage_200 (by decide) (by first | assumption | (unfold ir; omega)) (fun c200_9 => ?_) (fun c200_9 => ?_)
                · refine v_iconst hX (0) d_Mo_nextStage_207 ?_
                  refine v_istore (lv' := [(7, .int (iv (0))), (0, .ref (ad 358)), (1, .int (iv (((k : Nat) : Int)))), (2, .long (jv (a))), (4, .long (jv (b))), (6, .int (iv (((x : Nat) : Int))))]) hX d_Mo_nextStage_208 (by decide) rfl ?_
                  refine v_aload_n hX d_Mo_nextStage_210 1 rfl ?_
                  refine g_get (i := 358) hX hj fl_Mo_57 d_Mo_nextStage_211 (by omega) hm7 rfl ?_
                  refine v_bipush hX (64) d_Mo_nextStage_214 rfl ?_
                  refine v_aload_n hX d_Mo_nextStage_216 1 rfl ?_
                  refine g_get (i := 358) hX hj fl_Mo_200 d_Mo_nextStage_217 (by omega) hm7 rfl ?_
                  refine v_imulN (a := 64) (b := (k + 1)) hX d_Mo_nextStage_220 ?_
                  refine v_iload hX d_Mo_nextStage_221 5 rfl ?_
                  refine v_iaddN (a := (64 * (k + 1))) (b := x) hX d_Mo_nextStage_223 ?_
                  refine v_iload hX d_Mo_nextStage_224 0 rfl ?_
                  refine g_iast (i := 372) hX hj d_Mo_nextStage_226 (by omega) lQ.2.2.2.1 (by decide) (((64 * (k + 1)) + x)) rfl (by omega) ?_
                  obtain ⟨σ40, hs41⟩ : ∃ s9, s9 = va_up σ30 (372) (eJ G 3072 (va_up (Ql 372) (((64 * (k + 1)) + x)) (0))) := ⟨_, rfl⟩
                  rw [← hs41]
                  have hf42 := (show σ40 (358) = σ30 (358) by rw [hs41, va_up_ne _ _ (by omega)]).trans hm7
                  have hf43 : σ40 (372) = (eJ G 3072 (va_up (Ql 372) (((64 * (k + 1)) + x)) (0))) := by rw [hs41, va_up_self]
                  obtain ⟨Q45, eQ46⟩ : ∃ Qq, Qq = va_up Ql 372 (va_up (Ql 372) (((64 * (k + 1)) + x)) (0)) := ⟨_, rfl⟩
                  have hQ44 : pMa G σ40 Q45 := by rw [eQ46]; exact lQ.set 372 (fun i hi => by rw [hs41, va_up_ne _ _ hi]) (fun a b => absurd b (by decide)) (fun a b => absurd b (by decide)) (fun a => absurd a (by decide)) (fun _ => (by rw [hs41, va_up_self])) (fun a b => absurd a (by decide)) (fun a => absurd a (by decide))
                  refine v_iincN (a := x) (n := 1) (lv' := [(6, .int (iv ((((x + 1) : Nat) : Int)))), (7, .int (iv (0))), (0, .ref (ad 358)), (1, .int (iv (((k : Nat) : Int)))), (2, .long (jv (a))), (4, .long (jv (b)))]) hX d_Mo_nextStage_227 rfl 5 rfl (by decide) rfl ?_
                  refine v_goto (tgt := 135) hX d_Mo_nextStage_230 (by decide) ?_
                  refine v_lv [2, 3, 4, 5, 0] rfl ?_
                  exact ih_LB (x + 1) (σ40) ((va_up (va_up Sv 31 (U x 10)) 32 (U x 11))) (Q45) (by omega) (lP.up (by rw [hs41, va_up_ne _ _ (by decide)]; exact lP.1) (by rw [hs41, va_up_ne _ _ (by decide)]) (by rw [hs41, va_up_ne _ _ (by decide)]) (by rw [hs41, va_up_ne _ _ (by decide)])) hQ44 lSk (fun q a1 a2 => by rw [eQ46, va_up_ne _ _ (by omega), lq q a1 (by omega)]; exact hq q a1 a2) (fun i hi => by rw [eQ46, va_up_self, va_up_ne _ _ (by omega), lq 372 (by decide) (by decide)]; exact hr i hi) (fun i i1 i2 => by rw [hs41, va_up_ne _ _ (by omega)]; exact lFr i i1 i2) (by omega) (fun y hy => by
                      rw [eQ46, va_up_self]
                      by_cases qy : y = x
                      · subst qy; rw [va_up_self]; exact (by unfold nwF; rw [if_pos (stR_of hpu)]; first | (rw [if_pos (by omega)]; done) | (rw [if_neg (by omega)]; done) | (rw [if_pos (by omega)]; rfl) | (rw [if_neg (by omega)]; rfl))
                      · rw [va_up_ne _ _ (by omega)]; rw [lq 372 (by decide) (by decide)]; exact h2 y (by omega)) (by rw [eQ46, va_up_ne _ _ (by decide), lq 373 (by decide) (by decide)]; exact h373) (by rw [eQ46, va_up_ne _ _ (by decide), lq 374 (by decide) (by decide)]; exact h374)
                · refine v_iconst hX (1) d_Mo_nextStage_203 ?_
                  refine v_goto (tgt := 208) hX d_Mo_nextStage_204 (by decide) ?_
                  refine v_istore (lv' := [(7, .int (iv (1))), (0, .ref (ad 358)), (1, .int (iv (((k : Nat) : Int)))), (2, .long (jv (a))), (4, .long (jv (b))), (6, .int (iv (((x : Nat) : Int))))]) hX d_Mo_nextStage_208 (by decide) rfl ?_
                  refine v_aload_n hX d_Mo_nextStage_210 1 rfl ?_
                  refine g_get (i := 358) hX hj fl_Mo_57 d_Mo_nextStage_211 (by omega) hm7 rfl ?_
                  refine v_bipush hX (64) d_Mo_nextStage_214 rfl ?_
                  refine v_aload_n hX d_Mo_nextStage_216 1 rfl ?_
                  refine g_get (i := 358) hX hj fl_Mo_200 d_Mo_nextStage_217 (by omega) hm7 rfl ?_
                  refine v_imulN (a := 64) (b := (k + 1)) hX d_Mo_nextStage_220 ?_
                  refine v_iload hX d_Mo_nextStage_221 5 rfl ?_
                  refine v_iaddN (a := (64 * (k + 1))) (b := x) hX d_Mo_nextStage_223 ?_
                  refine v_iload hX d_Mo_nextStage_224 0 rfl ?_
                  refine g_iast (i := 372) hX hj d_Mo_nextStage_226 (by omega) lQ.2.2.2.1 (by decide) (((64 * (k + 1)) + x)) rfl (by omega) ?_
                  obtain ⟨σ47, hs48⟩ : ∃ s9, s9 = va_up σ30 (372) (eJ G 3072 (va_up (Ql 372) (((64 * (k + 1)) + x)) (1))) := ⟨_, rfl⟩
                  rw [← hs48]
                  have hf49 := (show σ47 (358) = σ30 (358) by rw [hs48, va_up_ne _ _ (by omega)]).trans hm7
                  have hf50 : σ47 (372) = (eJ G 3072 (va_up (Ql 372) (((64 * (k + 1)) + x)) (1))) := by rw [hs48, va_up_self]
                  obtain ⟨Q52, eQ53⟩ : ∃ Qq, Qq = va_up Ql 372 (va_up (Ql 372) (((64 * (k + 1)) + x)) (1)) := ⟨_, rfl⟩
                  have hQ51 : pMa G σ47 Q52 := by rw [eQ53]; exact lQ.set 372 (fun i hi => by rw [hs48, va_up_ne _ _ hi]) (fun a b => absurd b (by decide)) (fun a b => absurd b (by decide)) (fun a => absurd a (by decide)) (fun _ => (by rw [hs48, va_up_self])) (fun a b => absurd a (by decide)) (fun a => absurd a (by decide))
                  refine v_iincN (a := x) (n := 1) (lv' := [(6, .int (iv ((((x + 1) : Nat) : Int)))), (7, .int (iv (1))), (0, .ref (ad 358)), (1, .int (iv (((k : Nat) : Int)))), (2, .long (jv (a))), (4, .long (jv (b)))]) hX d_Mo_nextStage_227 rfl 5 rfl (by decide) rfl ?_
                  refine v_goto (tgt := 135) hX d_Mo_nextStage_230 (by decide) ?_
                  refine v_lv [2, 3, 4, 5, 0] rfl ?_
                  exact ih_LB (x + 1) (σ47) ((va_up (va_up Sv 31 (U x 10)) 32 (U x 11))) (Q52) (by omega) (lP.up (by rw [hs48, va_up_ne _ _ (by decide)]; exact lP.1) (by rw [hs48, va_up_ne _ _ (by decide)]) (by rw [hs48, va_up_ne _ _ (by decide)]) (by rw [hs48, va_up_ne _ _ (by decide)])) hQ51 lSk (fun q a1 a2 => by rw [eQ53, va_up_ne _ _ (by omega), lq q a1 (by omega)]; exact hq q a1 a2) (fun i hi => by rw [eQ53, va_up_self, va_up_ne _ _ (by omega), lq 372 (by decide) (by decide)]; exact hr i hi) (fun i i1 i2 => by rw [hs48, va_up_ne _ _ (by omega)]; exact lFr i i1 i2) (by omega) (fun y hy => by
                      rw [eQ53, va_up_self]
                      by_cases qy : y = x
                      · subst qy; rw [va_up_self]; exact (by unfold nwF; rw [if_pos (stR_of hpu)]; first | (rw [if_pos (by omega)]; done) | (rw [if_neg (by omega)]; done) | (rw [if_pos (by omega)]; rfl) | (rw [if_neg (by omega)]; rfl))
                      · rw [va_up_ne _ _ (by omega)]; rw [lq 372 (by decide) (by decide)]; exact h2 y (by omega)) (by rw [eQ53, va_up_ne _ _ (by decide), lq 373 (by decide) (by decide)]; exact h373) (by rw [eQ53, va_up_ne _ _ (by decide), lq 374 (by decide) (by decide)]; exact h374)
              · have hp2 : stF T (k : Int) x = 1 ∨ stF T (k : Int) x = 2 := stF_12 hp
                have hpu : ¬ (¬ U x 9 ≤ (k : Int) ∧ ¬ U x 8 ≤ (k : Int)) := by rw [(hu89 x).1, (hu89 x).2]; exact fun q => hp (stR_of q)
                refine v_if_ne (tgt := 210) hX d_Mo_nextStage_160 (by decide) (by first | assumption | (unfold ir; omega)) (fun c160_10 => ?_) (fun c160_10 => absurd c160_10 (by omega))
                refine v_aload_n hX d_Mo_nextStage_210 1 rfl ?_
                refine g_get (i := 358) hX hj fl_Mo_57 d_Mo_nextStage_211 (by omega) hm8 rfl ?_
                refine v_bipush hX (64) d_Mo_nextStage_214 rfl ?_
                refine v_aload_n hX d_Mo_nextStage_216 1 rfl ?_
                refine g_get (i := 358) hX hj fl_Mo_200 d_Mo_nextStage_217 (by omega) hm8 rfl ?_
                refine v_imulN (a := 64) (b := (k + 1)) hX d_Mo_nextStage_220 ?_
                refine v_iload hX d_Mo_nextStage_221 5 rfl ?_
                refine v_iaddN (a := (64 * (k + 1))) (b := x) hX d_Mo_nextStage_223 ?_
                refine v_iload hX d_Mo_nextStage_224 0 rfl ?_
                refine g_iast (i := 372) hX hj d_Mo_nextStage_226 (by omega) hQv.2.2.2.1 (by decide) (((64 * (k + 1)) + x)) rfl (by omega) ?_
                obtain ⟨σ54, hs55⟩ : ∃ s9, s9 = va_up σv (372) (eJ G 3072 (va_up (Qv 372) (((64 * (k + 1)) + x)) ((stF T (k : Int) x)))) := ⟨_, rfl⟩
                rw [← hs55]
                have hf56 := (show σ54 (358) = σv (358) by rw [hs55, va_up_ne _ _ (by omega)]).trans hm8
                have hf57 : σ54 (372) = (eJ G 3072 (va_up (Qv 372) (((64 * (k + 1)) + x)) ((stF T (k : Int) x)))) := by rw [hs55, va_up_self]
                obtain ⟨Q59, eQ60⟩ : ∃ Qq, Qq = va_up Qv 372 (va_up (Qv 372) (((64 * (k + 1)) + x)) ((stF T (k : Int) x))) := ⟨_, rfl⟩
                have hQ58 : pMa G σ54 Q59 := by rw [eQ60]; exact hQv.set 372 (fun i hi => by rw [hs55, va_up_ne _ _ hi]) (fun a b => absurd b (by decide)) (fun a b => absurd b (by decide)) (fun a => absurd a (by decide)) (fun _ => (by rw [hs55, va_up_self])) (fun a b => absurd a (by decide)) (fun a => absurd a (by decide))
                refine v_iincN (a := x) (n := 1) (lv' := [(6, .int (iv ((((x + 1) : Nat) : Int)))), (7, .int (iv ((stF T (k : Int) x)))), (0, .ref (ad 358)), (1, .int (iv (((k : Nat) : Int)))), (2, .long (jv (a))), (4, .long (jv (b)))]) hX d_Mo_nextStage_227 rfl 5 rfl (by decide) rfl ?_
                refine v_goto (tgt := 135) hX d_Mo_nextStage_230 (by decide) ?_
                refine v_lv [2, 3, 4, 5, 0] rfl ?_
                exact ih_LB (x + 1) (σ54) (Sv) (Q59) (by omega) (hP.up (by rw [hs55, va_up_ne _ _ (by decide)]; exact hP.1) (by rw [hs55, va_up_ne _ _ (by decide)]) (by rw [hs55, va_up_ne _ _ (by decide)]) (by rw [hs55, va_up_ne _ _ (by decide)])) hQ58 hSk (fun q a1 a2 => by rw [eQ60, va_up_ne _ _ (by omega)]; exact hq q a1 a2) (fun i hi => by rw [eQ60, va_up_self, va_up_ne _ _ (by omega)]; exact hr i hi) (fun i i1 i2 => by rw [hs55, va_up_ne _ _ (by omega)]; exact hFr i i1 i2) (by omega) (fun y hy => by
                    rw [eQ60, va_up_self]
                    by_cases qy : y = x
                    · subst qy; rw [va_up_self]; exact (by unfold nwF; rw [if_neg (fun q => hpu (stR_0 q))]; show stR (T y) (k : Int) = stR (U y) (k : Int); unfold stR; rw [(hu89 y).1, (hu89 y).2])
                    · rw [va_up_ne _ _ (by omega)]; exact h2 y (by omega)) (by rw [eQ60, va_up_ne _ _ (by decide)]; exact h373) (by rw [eQ60, va_up_ne _ _ (by decide)]; exact h374)
        refine v_lv [1, 2, 3, 4, 0] rfl ?_
        exact LB _ (0) (σ8) (Sv) (Q13) (Nat.lt_succ_self _) (hP.up (by rw [hs9, va_up_ne _ _ (by decide), hs2, va_up_ne _ _ (by decide)]; exact hP.1) (by rw [hs9, va_up_ne _ _ (by decide), hs2, va_up_ne _ _ (by decide)]) (by rw [hs9, va_up_ne _ _ (by decide), hs2, va_up_ne _ _ (by decide)]) (by rw [hs9, va_up_ne _ _ (by decide), hs2, va_up_ne _ _ (by decide)])) hQ12 hSk (fun q a1 a2 => by rw [eQ14, va_up_ne _ _ (by omega), eQ7, va_up_ne _ _ (by omega)]; exact hq q a1 a2) (fun i hi => by rw [eQ14, va_up_ne _ _ (by decide), eQ7, va_up_ne _ _ (by decide)]; exact hr i hi) (fun i i1 i2 => by rw [hs9, va_up_ne _ _ (by omega), hs2, va_up_ne _ _ (by omega)]; exact hFr i i1 i2) (Nat.zero_le _) (fun y hy => absurd hy (Nat.not_lt_zero y)) (by rw [eQ14, va_up_ne _ _ (by decide), eQ7, va_up_self, hq3]) (by rw [eQ14, va_up_self, eQ7, va_up_ne _ _ (by decide), hq4])
      · have hx : x < s.1 := by omega
        obtain ⟨g1, g2, g3⟩ := hG x hx
        obtain ⟨⟨o1, o2⟩, -, -⟩ := hgi.1.2.2 x hx
        obtain ⟨-, -, -, hx5⟩ := hni.1 x hx
        obtain ⟨ro, ero⟩ : ∃ ro : Nat, s.2.1 x 2 = (ro : Int) := ⟨(s.2.1 x 2).toNat, by omega⟩
        rw [ero, Int.toNat_natCast] at hx5
        have hro24 : ro < 16777216 := by omega
        obtain ⟨⟨u1, u2⟩, ⟨u3, u4⟩, u5, u6⟩ := hub x hx
        have hw5 : wrI (mC n cl) ro = U x 5 := by rw [u5]; exact hx5.symm
        refine v_aload_n hX d_Mo_nextStage_26 0 rfl ?_
        refine g_get (i := 358) hX hj fl_Mo_57 d_Mo_nextStage_27 (by omega) hm8 rfl ?_
        refine v_bipush hX (64) d_Mo_nextStage_30 rfl ?_
        refine v_iload_n hX d_Mo_nextStage_32 1 rfl ?_
        refine v_imulN (a := 64) (b := k) hX d_Mo_nextStage_33 ?_
        refine v_iload hX d_Mo_nextStage_34 4 rfl ?_
        refine v_iaddN (a := (64 * k)) (b := x) hX d_Mo_nextStage_36 ?_
        refine g_iald (i := 372) hX hj d_Mo_nextStage_37 (by omega) hQv.2.2.2.1 (by decide) (((64 * k) + x)) rfl (by omega) ?_
        refine v_top (x' := iv ((stF T (k : Int) x))) (congrArg iv (hrv x hx)) ?_
        by_cases hp : stR (T x) (k : Int) = 0
        · refine v_top (x' := iv ((0 : Nat) : Int)) (congrArg iv hp) ?_
          have hpp := stR_0 hp
          have hpu : ¬ U x 9 ≤ (k : Int) ∧ ¬ U x 8 ≤ (k : Int) := by rw [(hu89 x).1, (hu89 x).2]; exact hpp
          refine v_if_eq (tgt := 44) hX d_Mo_nextStage_38 (by decide) (by first | assumption | (unfold ir; omega)) (fun c9 => ?_) (fun c9 => absurd c9 (by omega))
          refine v_aload_n hX d_Mo_nextStage_44 0 rfl ?_
          refine v_iload_n hX d_Mo_nextStage_45 1 rfl ?_
          refine v_iload hX d_Mo_nextStage_46 4 rfl ?_
          refine g_callVV (As := [.int (iv (((k : Nat) : Int))), .int (iv (((x : Nat) : Int)))]) (st := []) hX hj (i := 358) (by omega) hm8 (m_Mo_look hj hP hD hQv hGv hgi hni hsi.1 k (by omega) hrv hsi.2.2.2.2 x hx hpp.1) cl_Mo_208 d_Mo_nextStage_48 rfl ⟨by decide, by decide⟩ ⟨by decide, by decide⟩ (Nat.le_of_ble_eq_true rfl) (fun σ62 hp64 => ?_)
          obtain ⟨gl, lP, lQ, lF⟩ := hp64
          rw [← hU] at lP
          obtain ⟨Ql, eQl⟩ : ∃ Ql, Ql = va_up Qv 375 gl := ⟨_, rfl⟩
          rw [← eQl] at lQ
          have hm7 : σ62 358 = eO 9 [.ref (ad 359), .int (iv (((n : Nat) : Int))), .ref (ad 360), .ref (ad 361), .int (iv (((de : Nat) : Int))), .int (iv (((le : Nat) : Int))), .int (iv (((wo : Nat) : Int))), .int (iv ((Sv 7))), .long (jv ((Sv 8))), .long (jv ((Sv 9))), .int (iv ((Sv 10))), .int (iv ((Sv 11))), .int (iv ((Sv 12))), .long (jv ((Sv 13))), .long (jv ((Sv 14))), .int (iv (((s.1 : Nat) : Int))), .ref (ad 362), .ref (ad 363), .ref (ad 364), .ref (ad 365), .ref (ad 366), .ref (ad 367), .ref (ad 368), .ref (ad 369), .ref (ad 370), .ref (ad 371), .int (iv ((((k + 1) : Nat) : Int))), .ref (ad 372), .ref (ad 373), .ref (ad 374), .ref (ad 375), .int (iv ((U x 10))), .int (iv ((U x 11)))] := by have h : σ62 358 = moE ad n de le wo (va_up (va_up Sv 31 (U x 10)) 32 (U x 11)) := lP.1; unfold moE at h; rw [show va_up (va_up Sv 31 (U x 10)) 32 (U x 11) 15 = (s.1 : Int) from (hSk 15 (by decide) (by decide)).trans h15, show va_up (va_up Sv 31 (U x 10)) 32 (U x 11) 26 = ((k + 1 : Nat) : Int) from (hSk 26 (by decide) (by decide)).trans h26] at h; exact h
          have lFr : ∀ i, i ≠ 358 → (i < 372 ∨ 375 < i) → σ62 i = σ i := fun i i1 i2 => (lF i i1 (by omega)).trans (hFr i i1 i2)
          have lSk : ∀ i, i ≠ 31 → i ≠ 32 → va_up (va_up Sv 31 (U x 10)) 32 (U x 11) i = S i := fun i i1 i2 => by rw [va_up_ne _ _ i2, va_up_ne _ _ i1]; exact hSk i i1 i2
          have lq : ∀ q, 362 ≤ q → q ≤ 374 → Ql q = Qv q := fun q a1 a2 => by rw [eQl, va_up_ne _ _ (by omega)]
          refine v_aload_n hX d_Mo_nextStage_51 0 rfl ?_
          refine v_aload_n hX d_Mo_nextStage_52 0 rfl ?_
          refine g_get (i := 358) hX hj fl_Mo_26 d_Mo_nextStage_53 (by omega) hm7 rfl ?_
          refine v_iload hX d_Mo_nextStage_56 4 rfl ?_
          refine g_iald (i := 362) hX hj d_Mo_nextStage_58 (by omega) (lQ.1 362 (by decide) (by decide)) (by decide) (x) rfl (by omega) ?_
          refine v_top (x' := iv (((ro : Nat) : Int))) (congrArg iv (by rw [lq 362 (by decide) (by decide), hq 362 (by decide) (by decide)]; exact g1.trans ero)) ?_
          refine g_callVI (As := [.int (iv (((ro : Nat) : Int)))]) (st := []) hX hj (i := 358) (by omega) hm7 (m_Mo_wrongOf hj lP hD ro hro24) cl_Mo_150 d_Mo_nextStage_59 rfl ⟨by decide, by decide⟩ ⟨by decide, by decide⟩ (Nat.le_of_ble_eq_true rfl) (fun z65 σ66 hz67 hp68 => ?_)
          obtain ⟨he69, hv70⟩ := hp68
          rw [he69]
          have hv70 : z65 = U x 5 := hv70.trans hw5
          subst hv70
          refine v_aload_n hX d_Mo_nextStage_62 0 rfl ?_
          refine g_get (i := 358) hX hj fl_Mo_197 d_Mo_nextStage_63 (by omega) hm7 rfl ?_
          refine v_isub hX d_Mo_nextStage_66 ?_
          refine v_i2l hX d_Mo_nextStage_67 (by first | assumption | (unfold ir; omega)) ?_
          refine v_lstore (lv' := [(7, .long (jv (((U x 5) - (U x 11))))), (0, .ref (ad 358)), (1, .int (iv (((k : Nat) : Int)))), (2, .long (jv (a))), (4, .long (jv (b))), (6, .int (iv (((x : Nat) : Int))))]) hX d_Mo_nextStage_68 (by decide) rfl ?_
          refine v_aload_n hX d_Mo_nextStage_70 1 rfl ?_
          refine g_get (i := 358) hX hj fl_Mo_194 d_Mo_nextStage_71 (by omega) hm7 rfl ?_
          refine v_iconst hX (1) d_Mo_nextStage_74 ?_
          refine v_isub hX d_Mo_nextStage_75 ?_
          refine v_i2l hX d_Mo_nextStage_76 (by first | assumption | (unfold ir; omega)) ?_
          refine v_lstore (lv' := [(9, .long (jv (((U x 10) - 1)))), (7, .long (jv (((U x 5) - (U x 11))))), (0, .ref (ad 358)), (1, .int (iv (((k : Nat) : Int)))), (2, .long (jv (a))), (4, .long (jv (b))), (6, .int (iv (((x : Nat) : Int))))]) hX d_Mo_nextStage_77 (by decide) rfl ?_
          refine v_lload_n hX d_Mo_nextStage_79 4 rfl ?_
          refine v_lconst hX 0 d_Mo_nextStage_80 rfl ?_
          refine v_lcmp hX d_Mo_nextStage_81 (by unfold ir at ra; unfold jr; omega) (by unfold jr; omega) ?_
          obtain ⟨z71, hz71, hz71r, hz71a, hz71b, hz71c⟩ := cmp_ex (a) (0)
          rw [← hz71]
          refine v_if_lt (tgt := 98) hX d_Mo_nextStage_82 (by decide) (by first | assumption | (unfold ir; omega)) (fun c82_12 => ?_) (fun c82_12 => ?_)
          · refine v_lload hX d_Mo_nextStage_98 1 rfl ?_
            refine v_lstore_n (lv' := [(2, .long (jv (((U x 5) - (U x 11))))), (9, .long (jv (((U x 10) - 1)))), (7, .long (jv (((U x 5) - (U x 11))))), (0, .ref (ad 358)), (1, .int (iv (((k : Nat) : Int)))), (4, .long (jv (b))), (6, .int (iv (((x : Nat) : Int))))]) hX d_Mo_nextStage_100 rfl (by decide) rfl ?_
            refine v_lload hX d_Mo_nextStage_101 1 rfl ?_
            refine v_lstore (lv' := [(4, .long (jv (((U x 10) - 1)))), (2, .long (jv (((U x 5) - (U x 11))))), (9, .long (jv (((U x 10) - 1)))), (7, .long (jv (((U x 5) - (U x 11))))), (0, .ref (ad 358)), (1, .int (iv (((k : Nat) : Int)))), (6, .int (iv (((x : Nat) : Int))))]) hX d_Mo_nextStage_103 (by decide) rfl ?_
            refine v_iincN (a := x) (n := 1) (lv' := [(6, .int (iv ((((x + 1) : Nat) : Int)))), (4, .long (jv (((U x 10) - 1)))), (2, .long (jv (((U x 5) - (U x 11))))), (9, .long (jv (((U x 10) - 1)))), (7, .long (jv (((U x 5) - (U x 11))))), (0, .ref (ad 358)), (1, .int (iv (((k : Nat) : Int))))]) hX d_Mo_nextStage_105 rfl 6 rfl (by decide) rfl ?_
            refine v_goto (tgt := 17) hX d_Mo_nextStage_108 (by decide) ?_
            refine v_lv [5, 6, 2, 1, 0] rfl ?_
            exact ih_LA (x + 1) (σ62) ((va_up (va_up Sv 31 (U x 10)) 32 (U x 11))) (Ql) (((U x 5) - (U x 11))) (((U x 10) - 1)) (by omega) lP lQ lSk (fun q a1 a2 => (lq q a1 (by omega)).trans (hq q a1 a2)) (fun i hi => by rw [lq 372 (by decide) (by decide)]; exact hr i hi) lFr (by omega) (alR_t hal hpu (by omega) (by omega)) (by unfold ir; omega) (by unfold ir; omega) ⟨(lq 373 (by decide) (by decide)).trans hq34.1, (lq 374 (by decide) (by decide)).trans hq34.2⟩
          · refine v_lload hX d_Mo_nextStage_85 1 rfl ?_
            refine v_lload hX d_Mo_nextStage_87 5 rfl ?_
            refine v_lmul hX d_Mo_nextStage_89 ?_
            refine v_lload_n hX d_Mo_nextStage_90 4 rfl ?_
            refine v_lload hX d_Mo_nextStage_91 0 rfl ?_
            refine v_lmul hX d_Mo_nextStage_93 ?_
            refine v_lcmp hX d_Mo_nextStage_94 (by first | (unfold jr; omega) | exact jr_mul (by first | assumption | (unfold ir; omega)) (by first | assumption | (unfold ir; omega))) (by first | (unfold jr; omega) | exact jr_mul (by first | assumption | (unfold ir; omega)) (by first | assumption | (unfold ir; omega))) ?_
            obtain ⟨z72, hz72, hz72r, hz72a, hz72b, hz72c⟩ := cmp_ex ((((U x 5) - (U x 11)) * b)) ((a * ((U x 10) - 1)))
            rw [← hz72]
            refine v_if_ge (tgt := 105) hX d_Mo_nextStage_95 (by decide) (by first | assumption | (unfold ir; omega)) (fun c95_13 => ?_) (fun c95_13 => ?_)
            · refine v_iincN (a := x) (n := 1) (lv' := [(6, .int (iv ((((x + 1) : Nat) : Int)))), (9, .long (jv (((U x 10) - 1)))), (7, .long (jv (((U x 5) - (U x 11))))), (0, .ref (ad 358)), (1, .int (iv (((k : Nat) : Int)))), (2, .long (jv (a))), (4, .long (jv (b)))]) hX d_Mo_nextStage_105 rfl 6 rfl (by decide) rfl ?_
              refine v_goto (tgt := 17) hX d_Mo_nextStage_108 (by decide) ?_
              refine v_lv [3, 4, 5, 6, 0] rfl ?_
              exact ih_LA (x + 1) (σ62) ((va_up (va_up Sv 31 (U x 10)) 32 (U x 11))) (Ql) (a) (b) (by omega) lP lQ lSk (fun q a1 a2 => (lq q a1 (by omega)).trans (hq q a1 a2)) (fun i hi => by rw [lq 372 (by decide) (by decide)]; exact hr i hi) lFr (by omega) (alR_k hal hpu (by omega)) ra rb ⟨(lq 373 (by decide) (by decide)).trans hq34.1, (lq 374 (by decide) (by decide)).trans hq34.2⟩
            · refine v_lload hX d_Mo_nextStage_98 1 rfl ?_
              refine v_lstore_n (lv' := [(2, .long (jv (((U x 5) - (U x 11))))), (9, .long (jv (((U x 10) - 1)))), (7, .long (jv (((U x 5) - (U x 11))))), (0, .ref (ad 358)), (1, .int (iv (((k : Nat) : Int)))), (4, .long (jv (b))), (6, .int (iv (((x : Nat) : Int))))]) hX d_Mo_nextStage_100 rfl (by decide) rfl ?_
              refine v_lload hX d_Mo_nextStage_101 1 rfl ?_
              refine v_lstore (lv' := [(4, .long (jv (((U x 10) - 1)))), (2, .long (jv (((U x 5) - (U x 11))))), (9, .long (jv (((U x 10) - 1)))), (7, .long (jv (((U x 5) - (U x 11))))), (0, .ref (ad 358)), (1, .int (iv (((k : Nat) : Int)))), (6, .int (iv (((x : Nat) : Int))))]) hX d_Mo_nextStage_103 (by decide) rfl ?_
              refine v_iincN (a := x) (n := 1) (lv' := [(6, .int (iv ((((x + 1) : Nat) : Int)))), (4, .long (jv (((U x 10) - 1)))), (2, .long (jv (((U x 5) - (U x 11))))), (9, .long (jv (((U x 10) - 1)))), (7, .long (jv (((U x 5) - (U x 11))))), (0, .ref (ad 358)), (1, .int (iv (((k : Nat) : Int))))]) hX d_Mo_nextStage_105 rfl 6 rfl (by decide) rfl ?_
              refine v_goto (tgt := 17) hX d_Mo_nextStage_108 (by decide) ?_
              refine v_lv [5, 6, 2, 1, 0] rfl ?_
              exact ih_LA (x + 1) (σ62) ((va_up (va_up Sv 31 (U x 10)) 32 (U x 11))) (Ql) (((U x 5) - (U x 11))) (((U x 10) - 1)) (by omega) lP lQ lSk (fun q a1 a2 => (lq q a1 (by omega)).trans (hq q a1 a2)) (fun i hi => by rw [lq 372 (by decide) (by decide)]; exact hr i hi) lFr (by omega) (alR_t hal hpu (by omega) (by omega)) (by unfold ir; omega) (by unfold ir; omega) ⟨(lq 373 (by decide) (by decide)).trans hq34.1, (lq 374 (by decide) (by decide)).trans hq34.2⟩
        · have hp2 : stF T (k : Int) x = 1 ∨ stF T (k : Int) x = 2 := stF_12 hp
          have hpu : ¬ (¬ U x 9 ≤ (k : Int) ∧ ¬ U x 8 ≤ (k : Int)) := by rw [(hu89 x).1, (hu89 x).2]; exact fun q => hp (stR_of q)
          refine v_if_eq (tgt := 44) hX d_Mo_nextStage_38 (by decide) (by first | assumption | (unfold ir; omega)) (fun c38_14 => absurd c38_14 (by omega)) (fun c38_14 => ?_)
          refine v_goto (tgt := 105) hX d_Mo_nextStage_41 (by decide) ?_
          refine v_iincN (a := x) (n := 1) (lv' := [(6, .int (iv ((((x + 1) : Nat) : Int)))), (0, .ref (ad 358)), (1, .int (iv (((k : Nat) : Int)))), (2, .long (jv (a))), (4, .long (jv (b)))]) hX d_Mo_nextStage_105 rfl 4 rfl (by decide) rfl ?_
          refine v_goto (tgt := 17) hX d_Mo_nextStage_108 (by decide) ?_
          refine v_lv [1, 2, 3, 4, 0] rfl ?_
          exact ih_LA (x + 1) (σv) (Sv) (Qv) (a) (b) (by omega) hP hQv hSk hq hr hFr (by omega) (alR_s hal hpu) ra rb hq34
  refine v_lv [4, 3, 2, 1, 0] rfl ?_
  exact LA _ (0) (σ) (S) (Q) ((-1)) (1) (Nat.lt_succ_self _) hM hQ (fun _ _ _ => rfl) (fun _ _ _ => rfl) (fun _ _ => rfl) (fun _ _ _ => rfl) (Nat.zero_le _) (Or.inl ⟨rfl, rfl, rfl⟩) (by unfold ir; omega) (by unfold ir; omega) ⟨rfl, rfl⟩

theorem st0_n {ch : Nat → Option Nat} {sz : Nat} {T0 : Nat → Nat → Int} {x : Nat} (hx : x < sz) (h : ch x = none) : (1 : Int) = stF (kBg ch sz T0) ((0 : Nat) : Int) x := by
  obtain ⟨g8, g9⟩ := kBg_at (ch := ch) (T := T0) sz hx
  rw [if_pos h] at g8
  unfold stF
  rw [g9, g8]; rfl
theorem st0_k {ch : Nat → Option Nat} {sz : Nat} {T0 : Nat → Nat → Int} {x q : Nat} (hx : x < sz) (h : ch x = some q) : (0 : Int) = stF (kBg ch sz T0) ((0 : Nat) : Int) x := by
  obtain ⟨g8, g9⟩ := kBg_at (ch := ch) (T := T0) sz hx
  rw [if_neg (by rw [h]; exact fun e => by cases e)] at g8
  unfold stF
  rw [g9, g8]; rfl

set_option maxHeartbeats 1000000 in
set_option maxRecDepth 100000 in
theorem m_Mo_findStages {G : xG} {f0 : xF} {ad : Nat → Nat} (hj : adOk ad 400) {σ : xF} {n : Nat} {val : Nat → Nat → Int} {cl so : Nat → Nat} {de le wo : Nat} {S : Nat → Int} (hM : pMo G ad σ n val cl so de le wo S) (hD : dTab n val cl so) {Q : Nat → Nat → Int} (hQ : pMa G σ Q) {s : gS} {kk : Nat} (hG : moG Q s) (hgi : gInv 0 s) (hni : nIv n so (mC n cl) (mK n val) (mLf n val so) le wo 0 s kk) (ht : trO s.1 s.2.1 s.2.2) (h15 : S 15 = (s.1 : Int))  : ∀ l, gVo l G f0 ad 400 y_Mo_findStages (.code y_Mo_findStages c_Mo_findStages 2 none) rm_Mo_findStages [.ref (ad 358)] σ (fun σ' => ∃ k Sv Qv, pMo G ad σ' n val cl so de le wo Sv ∧ pMa G σ' Qv ∧ (∀ i, i ≠ 26 → i ≠ 31 → i ≠ 32 → Sv i = S i) ∧ Sv 26 = ((k + 1 : Nat) : Int) ∧ (∀ q, 362 ≤ q → q ≤ 371 → Qv q = Q q) ∧ (∀ i, i ≠ 358 → (i < 372 ∨ 375 < i) → σ' i = σ i) ∧ isE s.1 s.2.1 s.2.2 (k + 1) ∧ (∀ j x : Nat, j ≤ k → x < s.1 → Qv 372 (64 * j + x) = stF (yT s.2.2 s.1 s.2.1 j) (j : Int) x) ∧ (Qv 373 0 = 0 ∧ Qv 374 0 = 1 ∧ ∀ j : Nat, j < k → Qv 373 (j + 1) = (yA s.2.2 s.1 s.2.1 j).1 ∧ Qv 374 (j + 1) = (yA s.2.2 s.1 s.2.1 j).2)) := by
  intro l
  refine mV_of (by decide) (Nat.le_of_ble_eq_true rfl) (fun X hX hret => ?_)
  show vV G X 0 0 0 [(0, .ref (ad 358))] [] (ov f0 ad 400 σ)
  obtain ⟨m0, ⟨sf, m1, m1e⟩, ⟨vf, m2, m2e⟩, ⟨cf, m3, m3e⟩⟩ := id hM
  obtain ⟨d1, d2, d3, d4⟩ := id hD
  have hs47 := hgi.1.2.1
  have hs1 := ht.1.1
  have hm9 : σ 358 = eO 9 [.ref (ad 359), .int (iv (((n : Nat) : Int))), .ref (ad 360), .ref (ad 361), .int (iv (((de : Nat) : Int))), .int (iv (((le : Nat) : Int))), .int (iv (((wo : Nat) : Int))), .int (iv ((S 7))), .long (jv ((S 8))), .long (jv ((S 9))), .int (iv ((S 10))), .int (iv ((S 11))), .int (iv ((S 12))), .long (jv ((S 13))), .long (jv ((S 14))), .int (iv (((s.1 : Nat) : Int))), .ref (ad 362), .ref (ad 363), .ref (ad 364), .ref (ad 365), .ref (ad 366), .ref (ad 367), .ref (ad 368), .ref (ad 369), .ref (ad 370), .ref (ad 371), .int (iv ((S 26))), .ref (ad 372), .ref (ad 373), .ref (ad 374), .ref (ad 375), .int (iv ((S 31))), .int (iv ((S 32)))] := by rw [← h15]; exact m0
  refine v_iconst hX (0) d_Mo_findStages_0 ?_
  refine v_istore_n (lv' := [(1, .int (iv (0))), (0, .ref (ad 358))]) hX d_Mo_findStages_1 rfl (by decide) rfl ?_
  have LA : ∀ (fuel : Nat) (x : Nat) (σv : xF) (Qv : Nat → Nat → Int), s.1 - x < fuel → (pMo G ad σv n val cl so de le wo S) → (pMa G σv Qv) → (∀ q, 362 ≤ q → q ≤ 371 → Qv q = Q q) → (∀ i, i ≠ 358 → (i < 372 ∨ 375 < i) → σv i = σ i) → (x ≤ s.1) → (∀ y, y < x → Qv 372 y = stF (kBg s.2.2 s.1 s.2.1) ((0 : Nat) : Int) y) → vV G X 0 0 2 [(0, .ref (ad 358)), (1, .int (iv (((x : Nat) : Int))))] [] (ov f0 ad 400 σv) := by
    intro fuel
    induction fuel with
    | zero => intro x σv Qv hm; exact absurd hm (Nat.not_lt_zero _)
    | succ fuel ih_LA =>
      intro x σv Qv hm hP hQv hq hFr hxs h2
      have hm8 : σv 358 = eO 9 [.ref (ad 359), .int (iv (((n : Nat) : Int))), .ref (ad 360), .ref (ad 361), .int (iv (((de : Nat) : Int))), .int (iv (((le : Nat) : Int))), .int (iv (((wo : Nat) : Int))), .int (iv ((S 7))), .long (jv ((S 8))), .long (jv ((S 9))), .int (iv ((S 10))), .int (iv ((S 11))), .int (iv ((S 12))), .long (jv ((S 13))), .long (jv ((S 14))), .int (iv (((s.1 : Nat) : Int))), .ref (ad 362), .ref (ad 363), .ref (ad 364), .ref (ad 365), .ref (ad 366), .ref (ad 367), .ref (ad 368), .ref (ad 369), .ref (ad 370), .ref (ad 371), .int (iv ((S 26))), .ref (ad 372), .ref (ad 373), .ref (ad 374), .ref (ad 375), .int (iv ((S 31))), .int (iv ((S 32)))] := by rw [← h15]; exact hP.1
      refine v_iload_n hX d_Mo_findStages_2 1 rfl ?_
      refine v_aload_n hX d_Mo_findStages_3 0 rfl ?_
      refine g_get (i := 358) hX hj fl_Mo_147 d_Mo_findStages_4 (by omega) hm8 rfl ?_
      refine v_icmp_ge (tgt := 36) hX d_Mo_findStages_7 (by decide) (by first | assumption | (unfold ir; omega)) (by first | assumption | (unfold ir; omega)) (fun c7_1 => ?_) (fun c7_1 => ?_)
      · refine v_aload_n hX d_Mo_findStages_36 0 rfl ?_
        refine g_get (i := 358) hX hj fl_Mo_60 d_Mo_findStages_37 (by omega) hm8 rfl ?_
        refine v_iconst hX (0) d_Mo_findStages_40 ?_
        refine v_lconst hX 0 d_Mo_findStages_41 rfl ?_
        refine g_last (i := 373) hX hj d_Mo_findStages_42 (by omega) (hQv.2.2.2.2.1 373 (by decide) (by decide)) (by decide) (0) rfl (by omega) ?_
        obtain ⟨σ1, hs2⟩ : ∃ s9, s9 = va_up σv (373) (eL G 48 (va_up (Qv 373) (0) (0))) := ⟨_, rfl⟩
        rw [← hs2]
        have hf3 := (show σ1 (358) = σv (358) by rw [hs2, va_up_ne _ _ (by omega)]).trans hm8
        have hf4 : σ1 (373) = (eL G 48 (va_up (Qv 373) (0) (0))) := by rw [hs2, va_up_self]
        obtain ⟨Q6, eQ7⟩ : ∃ Qq, Qq = va_up Qv 373 (va_up (Qv 373) (0) (0)) := ⟨_, rfl⟩
        have hQ5 : pMa G σ1 Q6 := by rw [eQ7]; exact hQv.set 373 (fun i hi => by rw [hs2, va_up_ne _ _ hi]) (fun a b => absurd b (by decide)) (fun a b => absurd b (by decide)) (fun a => absurd a (by decide)) (fun a => absurd a (by decide)) (fun _ _ => (by rw [hs2, va_up_self])) (fun a => absurd a (by decide))
        refine v_aload_n hX d_Mo_findStages_43 0 rfl ?_
        refine g_get (i := 358) hX hj fl_Mo_63 d_Mo_findStages_44 (by omega) hf3 rfl ?_
        refine v_iconst hX (0) d_Mo_findStages_47 ?_
        refine v_lconst hX 1 d_Mo_findStages_48 rfl ?_
        refine g_last (i := 374) hX hj d_Mo_findStages_49 (by omega) (hQ5.2.2.2.2.1 374 (by decide) (by decide)) (by decide) (0) rfl (by omega) ?_
        obtain ⟨σ8, hs9⟩ : ∃ s9, s9 = va_up σ1 (374) (eL G 48 (va_up (Q6 374) (0) (1))) := ⟨_, rfl⟩
        rw [← hs9]
        have hf10 := (show σ8 (358) = σ1 (358) by rw [hs9, va_up_ne _ _ (by omega)]).trans hf3
        have hf11 : σ8 (374) = (eL G 48 (va_up (Q6 374) (0) (1))) := by rw [hs9, va_up_self]
        obtain ⟨Q13, eQ14⟩ : ∃ Qq, Qq = va_up Q6 374 (va_up (Q6 374) (0) (1)) := ⟨_, rfl⟩
        have hQ12 : pMa G σ8 Q13 := by rw [eQ14]; exact hQ5.set 374 (fun i hi => by rw [hs9, va_up_ne _ _ hi]) (fun a b => absurd b (by decide)) (fun a b => absurd b (by decide)) (fun a => absurd a (by decide)) (fun a => absurd a (by decide)) (fun _ _ => (by rw [hs9, va_up_self])) (fun a => absurd a (by decide))
        refine v_aload_n hX d_Mo_findStages_50 0 rfl ?_
        refine v_iconst hX (1) d_Mo_findStages_51 ?_
        refine g_put (i := 358) (fs' := [.ref (ad 359), .int (iv (((n : Nat) : Int))), .ref (ad 360), .ref (ad 361), .int (iv (((de : Nat) : Int))), .int (iv (((le : Nat) : Int))), .int (iv (((wo : Nat) : Int))), .int (iv ((S 7))), .long (jv ((S 8))), .long (jv ((S 9))), .int (iv ((S 10))), .int (iv ((S 11))), .int (iv ((S 12))), .long (jv ((S 13))), .long (jv ((S 14))), .int (iv (((s.1 : Nat) : Int))), .ref (ad 362), .ref (ad 363), .ref (ad 364), .ref (ad 365), .ref (ad 366), .ref (ad 367), .ref (ad 368), .ref (ad 369), .ref (ad 370), .ref (ad 371), .int (iv (1)), .ref (ad 372), .ref (ad 373), .ref (ad 374), .ref (ad 375), .int (iv ((S 31))), .int (iv ((S 32)))]) hX hj pf_Mo_200 d_Mo_findStages_52 (by omega) hf10 rfl rfl (Nat.le_of_ble_eq_true rfl) rfl ?_
        obtain ⟨σ15, hs16⟩ : ∃ s9, s9 = va_up σ8 (358) (eO 9 [.ref (ad 359), .int (iv (((n : Nat) : Int))), .ref (ad 360), .ref (ad 361), .int (iv (((de : Nat) : Int))), .int (iv (((le : Nat) : Int))), .int (iv (((wo : Nat) : Int))), .int (iv ((S 7))), .long (jv ((S 8))), .long (jv ((S 9))), .int (iv ((S 10))), .int (iv ((S 11))), .int (iv ((S 12))), .long (jv ((S 13))), .long (jv ((S 14))), .int (iv (((s.1 : Nat) : Int))), .ref (ad 362), .ref (ad 363), .ref (ad 364), .ref (ad 365), .ref (ad 366), .ref (ad 367), .ref (ad 368), .ref (ad 369), .ref (ad 370), .ref (ad 371), .int (iv (1)), .ref (ad 372), .ref (ad 373), .ref (ad 374), .ref (ad 375), .int (iv ((S 31))), .int (iv ((S 32)))]) := ⟨_, rfl⟩
        rw [← hs16]
        have hf18 : σ15 (358) = (eO 9 [.ref (ad 359), .int (iv (((n : Nat) : Int))), .ref (ad 360), .ref (ad 361), .int (iv (((de : Nat) : Int))), .int (iv (((le : Nat) : Int))), .int (iv (((wo : Nat) : Int))), .int (iv ((S 7))), .long (jv ((S 8))), .long (jv ((S 9))), .int (iv ((S 10))), .int (iv ((S 11))), .int (iv ((S 12))), .long (jv ((S 13))), .long (jv ((S 14))), .int (iv (((s.1 : Nat) : Int))), .ref (ad 362), .ref (ad 363), .ref (ad 364), .ref (ad 365), .ref (ad 366), .ref (ad 367), .ref (ad 368), .ref (ad 369), .ref (ad 370), .ref (ad 371), .int (iv (1)), .ref (ad 372), .ref (ad 373), .ref (ad 374), .ref (ad 375), .int (iv ((S 31))), .int (iv ((S 32)))]) := by rw [hs16, va_up_self]
        have hQ19 : pMa G σ15 Q13 := hQ12.oth (fun i h1 h2 => by rw [hs16, va_up_ne _ _ (by omega)])
        have LB : ∀ (fuel : Nat) (k : Nat) (σv : xF) (Sv : Nat → Int) (Qv : Nat → Nat → Int), 24 - k < fuel → (pMo G ad σv n val cl so de le wo Sv) → (pMa G σv Qv) → (∀ i, i ≠ 26 → i ≠ 31 → i ≠ 32 → Sv i = S i) → (Sv 26 = ((k + 1 : Nat) : Int)) → (∀ q, 362 ≤ q → q ≤ 371 → Qv q = Q q) → (∀ i, i ≠ 358 → (i < 372 ∨ 375 < i) → σv i = σ i) → (k < 24) → (∀ j : Nat, j < k → stR (yT s.2.2 s.1 s.2.1 j 0) (j : Int) = 0) → (∀ j x : Nat, j ≤ k → x < s.1 → Qv 372 (64 * j + x) = stF (yT s.2.2 s.1 s.2.1 j) (j : Int) x) → (Qv 373 0 = 0 ∧ Qv 374 0 = 1 ∧ ∀ j : Nat, j < k → Qv 373 (j + 1) = (yA s.2.2 s.1 s.2.1 j).1 ∧ Qv 374 (j + 1) = (yA s.2.2 s.1 s.2.1 j).2) → vV G X 0 0 55 [(0, .ref (ad 358))] [] (ov f0 ad 400 σv) := by
          intro fuel
          induction fuel with
          | zero => intro k σv Sv Qv hm; exact absurd hm (Nat.not_lt_zero _)
          | succ fuel ih_LB =>
            intro k σv Sv Qv hm hP hQv hSk h26 hq hFr hk hpa hrs hal
            have hm8 : σv 358 = eO 9 [.ref (ad 359), .int (iv (((n : Nat) : Int))), .ref (ad 360), .ref (ad 361), .int (iv (((de : Nat) : Int))), .int (iv (((le : Nat) : Int))), .int (iv (((wo : Nat) : Int))), .int (iv ((Sv 7))), .long (jv ((Sv 8))), .long (jv ((Sv 9))), .int (iv ((Sv 10))), .int (iv ((Sv 11))), .int (iv ((Sv 12))), .long (jv ((Sv 13))), .long (jv ((Sv 14))), .int (iv (((s.1 : Nat) : Int))), .ref (ad 362), .ref (ad 363), .ref (ad 364), .ref (ad 365), .ref (ad 366), .ref (ad 367), .ref (ad 368), .ref (ad 369), .ref (ad 370), .ref (ad 371), .int (iv ((((k + 1) : Nat) : Int))), .ref (ad 372), .ref (ad 373), .ref (ad 374), .ref (ad 375), .int (iv ((Sv 31))), .int (iv ((Sv 32)))] := by have h := hP.1; unfold moE at h; rw [hSk 15 (by decide) (by decide) (by decide), h15, h26] at h; exact h
            have hrk : ∀ x, x < s.1 → Qv 372 (64 * k + x) = stF (yT s.2.2 s.1 s.2.1 k) (k : Int) x := fun x hx => hrs k x (Nat.le_refl _) hx
            refine v_aload_n hX d_Mo_findStages_55 0 rfl ?_
            refine g_get (i := 358) hX hj fl_Mo_57 d_Mo_findStages_56 (by omega) hm8 rfl ?_
            refine v_bipush hX (64) d_Mo_findStages_59 rfl ?_
            refine v_aload_n hX d_Mo_findStages_61 0 rfl ?_
            refine g_get (i := 358) hX hj fl_Mo_200 d_Mo_findStages_62 (by omega) hm8 rfl ?_
            refine v_iconst hX (1) d_Mo_findStages_65 ?_
            refine v_isub hX d_Mo_findStages_66 ?_
            refine v_imul hX d_Mo_findStages_67 ?_
            refine v_top (x' := iv ((64 * k : Nat) : Int)) (congrArg iv (by omega)) ?_
            refine v_eq (st' := [.int (iv (((((64 * k) + 0) : Nat) : Int))), .ref (ad 372)]) (by rw [Nat.add_zero]) ?_
            refine g_iald (i := 372) hX hj d_Mo_findStages_68 (by omega) hQv.2.2.2.1 (by decide) (((64 * k) + 0)) rfl (by omega) ?_
            refine v_top (x' := iv ((stF (yT s.2.2 s.1 s.2.1 k) (k : Int) 0))) (congrArg iv (hrk 0 (by omega))) ?_
            by_cases hp0 : stR (yT s.2.2 s.1 s.2.1 k 0) (k : Int) = 0
            · refine v_top (x' := iv ((0 : Nat) : Int)) (congrArg iv hp0) ?_
              have hk1 := isE_next ht hk hpa hp0
              refine v_if_ne (tgt := 89) hX d_Mo_findStages_69 (by decide) (by first | assumption | (unfold ir; omega)) (fun c9 => absurd c9 (by omega)) (fun c9 => ?_)
              refine v_aload_n hX d_Mo_findStages_72 0 rfl ?_
              refine g_callVV (As := []) (st := []) hX hj (i := 358) (by omega) hm8 (m_Mo_nextStage hj hP hD hQv (moG_c hG (fun q a1 a2 => hq q a1 (by omega))) hgi hni ht ((hSk 15 (by decide) (by decide) (by decide)).trans h15) k hk1 h26 hrk hp0) cl_Mo_203 d_Mo_findStages_73 rfl ⟨by decide, by decide⟩ ⟨by decide, by decide⟩ (Nat.le_of_ble_eq_true rfl) (fun σ21 hp23 => ?_)
              obtain ⟨Sn, Qn, nP, nQ, nS, nq, nr, nF, nrow, n3, n4⟩ := hp23
              have hm7 : σ21 358 = eO 9 [.ref (ad 359), .int (iv (((n : Nat) : Int))), .ref (ad 360), .ref (ad 361), .int (iv (((de : Nat) : Int))), .int (iv (((le : Nat) : Int))), .int (iv (((wo : Nat) : Int))), .int (iv ((Sn 7))), .long (jv ((Sn 8))), .long (jv ((Sn 9))), .int (iv ((Sn 10))), .int (iv ((Sn 11))), .int (iv ((Sn 12))), .long (jv ((Sn 13))), .long (jv ((Sn 14))), .int (iv (((s.1 : Nat) : Int))), .ref (ad 362), .ref (ad 363), .ref (ad 364), .ref (ad 365), .ref (ad 366), .ref (ad 367), .ref (ad 368), .ref (ad 369), .ref (ad 370), .ref (ad 371), .int (iv ((((k + 1) : Nat) : Int))), .ref (ad 372), .ref (ad 373), .ref (ad 374), .ref (ad 375), .int (iv ((Sn 31))), .int (iv ((Sn 32)))] := by have h := nP.1; unfold moE at h; rw [nS 15 (by decide) (by decide), nS 26 (by decide) (by decide), hSk 15 (by decide) (by decide) (by decide), h15, h26] at h; exact h
              refine v_aload_n hX d_Mo_findStages_76 0 rfl ?_
              refine v_dup hX d_Mo_findStages_77 rfl ?_
              refine g_get (i := 358) hX hj fl_Mo_200 d_Mo_findStages_78 (by omega) hm7 rfl ?_
              refine v_iconst hX (1) d_Mo_findStages_81 ?_
              refine v_iaddN (a := (k + 1)) (b := 1) hX d_Mo_findStages_82 ?_
              refine g_put (i := 358) (fs' := [.ref (ad 359), .int (iv (((n : Nat) : Int))), .ref (ad 360), .ref (ad 361), .int (iv (((de : Nat) : Int))), .int (iv (((le : Nat) : Int))), .int (iv (((wo : Nat) : Int))), .int (iv ((Sn 7))), .long (jv ((Sn 8))), .long (jv ((Sn 9))), .int (iv ((Sn 10))), .int (iv ((Sn 11))), .int (iv ((Sn 12))), .long (jv ((Sn 13))), .long (jv ((Sn 14))), .int (iv (((s.1 : Nat) : Int))), .ref (ad 362), .ref (ad 363), .ref (ad 364), .ref (ad 365), .ref (ad 366), .ref (ad 367), .ref (ad 368), .ref (ad 369), .ref (ad 370), .ref (ad 371), .int (iv (((((k + 1) + 1) : Nat) : Int))), .ref (ad 372), .ref (ad 373), .ref (ad 374), .ref (ad 375), .int (iv ((Sn 31))), .int (iv ((Sn 32)))]) hX hj pf_Mo_200 d_Mo_findStages_83 (by omega) hm7 rfl rfl (Nat.le_of_ble_eq_true rfl) rfl ?_
              obtain ⟨σ24, hs25⟩ : ∃ s9, s9 = va_up σ21 (358) (eO 9 [.ref (ad 359), .int (iv (((n : Nat) : Int))), .ref (ad 360), .ref (ad 361), .int (iv (((de : Nat) : Int))), .int (iv (((le : Nat) : Int))), .int (iv (((wo : Nat) : Int))), .int (iv ((Sn 7))), .long (jv ((Sn 8))), .long (jv ((Sn 9))), .int (iv ((Sn 10))), .int (iv ((Sn 11))), .int (iv ((Sn 12))), .long (jv ((Sn 13))), .long (jv ((Sn 14))), .int (iv (((s.1 : Nat) : Int))), .ref (ad 362), .ref (ad 363), .ref (ad 364), .ref (ad 365), .ref (ad 366), .ref (ad 367), .ref (ad 368), .ref (ad 369), .ref (ad 370), .ref (ad 371), .int (iv (((((k + 1) + 1) : Nat) : Int))), .ref (ad 372), .ref (ad 373), .ref (ad 374), .ref (ad 375), .int (iv ((Sn 31))), .int (iv ((Sn 32)))]) := ⟨_, rfl⟩
              rw [← hs25]
              have hf27 : σ24 (358) = (eO 9 [.ref (ad 359), .int (iv (((n : Nat) : Int))), .ref (ad 360), .ref (ad 361), .int (iv (((de : Nat) : Int))), .int (iv (((le : Nat) : Int))), .int (iv (((wo : Nat) : Int))), .int (iv ((Sn 7))), .long (jv ((Sn 8))), .long (jv ((Sn 9))), .int (iv ((Sn 10))), .int (iv ((Sn 11))), .int (iv ((Sn 12))), .long (jv ((Sn 13))), .long (jv ((Sn 14))), .int (iv (((s.1 : Nat) : Int))), .ref (ad 362), .ref (ad 363), .ref (ad 364), .ref (ad 365), .ref (ad 366), .ref (ad 367), .ref (ad 368), .ref (ad 369), .ref (ad 370), .ref (ad 371), .int (iv (((((k + 1) + 1) : Nat) : Int))), .ref (ad 372), .ref (ad 373), .ref (ad 374), .ref (ad 375), .int (iv ((Sn 31))), .int (iv ((Sn 32)))]) := by rw [hs25, va_up_self]
              have hQ28 : pMa G σ24 Qn := nQ.oth (fun i h1 h2 => by rw [hs25, va_up_ne _ _ (by omega)])
              refine v_goto (tgt := 55) hX d_Mo_findStages_86 (by decide) ?_
              refine v_lv [0] rfl ?_
              exact ih_LB (k + 1) (σ24) ((va_up Sn 26 ((k + 1 + 1 : Nat) : Int))) (Qn) (by omega) (nP.up (by rw [hs25, va_up_self]; unfold moE; rw [show va_up Sn 26 ((k + 1 + 1 : Nat) : Int) 15 = (s.1 : Int) from (nS 15 (by decide) (by decide)).trans ((hSk 15 (by decide) (by decide) (by decide)).trans h15)]; rfl) (by rw [hs25, va_up_ne _ _ (by decide)]) (by rw [hs25, va_up_ne _ _ (by decide)]) (by rw [hs25, va_up_ne _ _ (by decide)])) hQ28 (fun i i1 i2 i3 => by rw [va_up_ne _ _ i1, nS i i2 i3]; exact hSk i i1 i2 i3) (va_up_self _ _ _) (fun q a1 a2 => (nq q a1 a2).trans (hq q a1 a2)) (fun i i1 i2 => by rw [hs25, va_up_ne _ _ i1, nF i i1 i2]; exact hFr i i1 i2) hk1 (fun j hj => by rcases Nat.lt_or_ge j k with q | q <;> first | exact hpa j q | (have e : j = k := (by omega); rw [e]; exact hp0)) (fun j y hj hy => by rcases Nat.lt_or_ge j (k + 1) with q | q <;> first | (rw [nr _ (by omega)]; exact hrs j y (by omega) hy) | (have e : j = k + 1 := (by omega); rw [e]; exact nrow y hy)) ⟨by rw [n3, va_up_ne _ _ (by omega)]; exact hal.1, by rw [n4, va_up_ne _ _ (by omega)]; exact hal.2.1, fun j hj => by rcases Nat.lt_or_ge j k with q | q <;> first | (rw [n3, n4, va_up_ne _ _ (by omega), va_up_ne _ _ (by omega)]; exact hal.2.2 j q) | (have e : j = k := (by omega); rw [e, n3, n4, va_up_self, va_up_self]; exact ⟨rfl, rfl⟩)⟩
            · have hp2 := stF_12 hp0
              obtain ⟨rr, hrr⟩ : ∃ rr, rr = stF (yT s.2.2 s.1 s.2.1 k) (k : Int) 0 := ⟨_, rfl⟩
              rw [← hrr] at hp2 ⊢
              refine v_if_ne (tgt := 89) hX d_Mo_findStages_69 (by decide) (by first | assumption | (unfold ir; omega)) (fun c69_3 => ?_) (fun c69_3 => absurd c69_3 (by omega))
              have hE : isE s.1 s.2.1 s.2.2 (k + 1) := ⟨by omega, by omega, fun j hj => hpa j (by omega), hp0⟩
              exact hret _ _ _ d_Mo_findStages_89 ⟨_, rfl, k, Sv, Qv, hP, hQv, hSk, h26, hq, hFr, hE, hrs, hal⟩
        refine v_lv [0] rfl ?_
        exact LB _ (0) (σ15) ((va_up S 26 ((0 + 1 : Nat) : Int))) (Q13) (Nat.lt_succ_self _) (hP.up (by rw [hs16, va_up_self]; unfold moE; rw [show va_up S 26 ((0 + 1 : Nat) : Int) 15 = (s.1 : Int) from h15]; rfl) (by rw [hs16, va_up_ne _ _ (by decide), hs9, va_up_ne _ _ (by decide), hs2, va_up_ne _ _ (by decide)]) (by rw [hs16, va_up_ne _ _ (by decide), hs9, va_up_ne _ _ (by decide), hs2, va_up_ne _ _ (by decide)]) (by rw [hs16, va_up_ne _ _ (by decide), hs9, va_up_ne _ _ (by decide), hs2, va_up_ne _ _ (by decide)])) hQ19 (fun i i1 _ _ => va_up_ne _ _ i1) (va_up_self _ _ _) (fun q a1 a2 => by rw [eQ14, va_up_ne _ _ (by omega), eQ7, va_up_ne _ _ (by omega)]; exact hq q a1 a2) (fun i i1 i2 => by rw [hs16, va_up_ne _ _ i1, hs9, va_up_ne _ _ (by omega), hs2, va_up_ne _ _ (by omega)]; exact hFr i i1 i2) (by decide) (fun j hj => absurd hj (Nat.not_lt_zero j)) (fun j y hj hy => by have e : j = 0 := (by omega); subst e; rw [eQ14, va_up_ne _ _ (by decide), eQ7, va_up_ne _ _ (by decide), show 64 * 0 + y = y by omega]; exact h2 y (by omega)) ⟨by rw [eQ14, va_up_ne _ _ (by decide), eQ7, va_up_self, va_up_self], by rw [eQ14, va_up_self, va_up_self], fun j hj => absurd hj (Nat.not_lt_zero j)⟩
      · have hx : x < s.1 := by omega
        obtain ⟨g1, g2, g3⟩ := hG x hx
        rcases g3 with ⟨hn0, kn⟩ | ⟨m, hch, k7, k8, -⟩
        · refine v_aload_n hX d_Mo_findStages_10 0 rfl ?_
          refine g_get (i := 358) hX hj fl_Mo_57 d_Mo_findStages_11 (by omega) hm8 rfl ?_
          refine v_iload_n hX d_Mo_findStages_14 1 rfl ?_
          refine v_aload_n hX d_Mo_findStages_15 0 rfl ?_
          refine g_get (i := 358) hX hj fl_Mo_41 d_Mo_findStages_16 (by omega) hm8 rfl ?_
          refine v_iload_n hX d_Mo_findStages_19 1 rfl ?_
          refine g_iald (i := 367) hX hj d_Mo_findStages_20 (by omega) (hQv.1 367 (by decide) (by decide)) (by decide) (x) rfl (by omega) ?_
          refine v_top (x' := iv ((-1))) (congrArg iv (by rw [hq 367 (by decide) (by decide)]; exact kn)) ?_
          refine v_if_ge (tgt := 28) hX d_Mo_findStages_21 (by decide) (by first | assumption | (unfold ir; omega)) (fun c9 => absurd c9 (by omega)) (fun c9 => ?_)
          refine v_iconst hX (1) d_Mo_findStages_24 ?_
          refine v_goto (tgt := 29) hX d_Mo_findStages_25 (by decide) ?_
          refine g_iast (i := 372) hX hj d_Mo_findStages_29 (by omega) hQv.2.2.2.1 (by decide) (x) rfl (by omega) ?_
          obtain ⟨σ29, hs30⟩ : ∃ s9, s9 = va_up σv (372) (eJ G 3072 (va_up (Qv 372) (x) (1))) := ⟨_, rfl⟩
          rw [← hs30]
          have hf31 := (show σ29 (358) = σv (358) by rw [hs30, va_up_ne _ _ (by omega)]).trans hm8
          have hf32 : σ29 (372) = (eJ G 3072 (va_up (Qv 372) (x) (1))) := by rw [hs30, va_up_self]
          obtain ⟨Q34, eQ35⟩ : ∃ Qq, Qq = va_up Qv 372 (va_up (Qv 372) (x) (1)) := ⟨_, rfl⟩
          have hQ33 : pMa G σ29 Q34 := by rw [eQ35]; exact hQv.set 372 (fun i hi => by rw [hs30, va_up_ne _ _ hi]) (fun a b => absurd b (by decide)) (fun a b => absurd b (by decide)) (fun a => absurd a (by decide)) (fun _ => (by rw [hs30, va_up_self])) (fun a b => absurd a (by decide)) (fun a => absurd a (by decide))
          refine v_iincN (a := x) (n := 1) (lv' := [(1, .int (iv ((((x + 1) : Nat) : Int)))), (0, .ref (ad 358))]) hX d_Mo_findStages_30 rfl 1 rfl (by decide) rfl ?_
          refine v_goto (tgt := 2) hX d_Mo_findStages_33 (by decide) ?_
          refine v_lv [1, 0] rfl ?_
          exact ih_LA (x + 1) (σ29) (Q34) (by omega) (hP.up (by rw [hs30, va_up_ne _ _ (by decide)]; exact hP.1) (by rw [hs30, va_up_ne _ _ (by decide)]) (by rw [hs30, va_up_ne _ _ (by decide)]) (by rw [hs30, va_up_ne _ _ (by decide)])) hQ33 (fun q a1 a2 => by rw [eQ35, va_up_ne _ _ (by omega)]; exact hq q a1 a2) (fun i i1 i2 => by rw [hs30, va_up_ne _ _ (by omega)]; exact hFr i i1 i2) (by omega) (fun y hy => by
              rw [eQ35, va_up_self]
              by_cases qy : y = x
              · subst qy; rw [va_up_self]; exact st0_n hx hn0
              · rw [va_up_ne _ _ (by omega)]; exact h2 y (by omega))
        · obtain ⟨m9, z1, hm1, hm2, -⟩ := hgi.2.2.2 x _ hx hch
          refine v_aload_n hX d_Mo_findStages_10 0 rfl ?_
          refine g_get (i := 358) hX hj fl_Mo_57 d_Mo_findStages_11 (by omega) hm8 rfl ?_
          refine v_iload_n hX d_Mo_findStages_14 1 rfl ?_
          refine v_aload_n hX d_Mo_findStages_15 0 rfl ?_
          refine g_get (i := 358) hX hj fl_Mo_41 d_Mo_findStages_16 (by omega) hm8 rfl ?_
          refine v_iload_n hX d_Mo_findStages_19 1 rfl ?_
          refine g_iald (i := 367) hX hj d_Mo_findStages_20 (by omega) (hQv.1 367 (by decide) (by decide)) (by decide) (x) rfl (by omega) ?_
          refine v_top (x' := iv (((m : Nat) : Int))) (congrArg iv (by rw [hq 367 (by decide) (by decide)]; exact k7)) ?_
          refine v_if_ge (tgt := 28) hX d_Mo_findStages_21 (by decide) (by first | assumption | (unfold ir; omega)) (fun c21_5 => ?_) (fun c21_5 => absurd c21_5 (by omega))
          refine v_iconst hX (0) d_Mo_findStages_28 ?_
          refine g_iast (i := 372) hX hj d_Mo_findStages_29 (by omega) hQv.2.2.2.1 (by decide) (x) rfl (by omega) ?_
          obtain ⟨σ36, hs37⟩ : ∃ s9, s9 = va_up σv (372) (eJ G 3072 (va_up (Qv 372) (x) (0))) := ⟨_, rfl⟩
          rw [← hs37]
          have hf38 := (show σ36 (358) = σv (358) by rw [hs37, va_up_ne _ _ (by omega)]).trans hm8
          have hf39 : σ36 (372) = (eJ G 3072 (va_up (Qv 372) (x) (0))) := by rw [hs37, va_up_self]
          obtain ⟨Q41, eQ42⟩ : ∃ Qq, Qq = va_up Qv 372 (va_up (Qv 372) (x) (0)) := ⟨_, rfl⟩
          have hQ40 : pMa G σ36 Q41 := by rw [eQ42]; exact hQv.set 372 (fun i hi => by rw [hs37, va_up_ne _ _ hi]) (fun a b => absurd b (by decide)) (fun a b => absurd b (by decide)) (fun a => absurd a (by decide)) (fun _ => (by rw [hs37, va_up_self])) (fun a b => absurd a (by decide)) (fun a => absurd a (by decide))
          refine v_iincN (a := x) (n := 1) (lv' := [(1, .int (iv ((((x + 1) : Nat) : Int)))), (0, .ref (ad 358))]) hX d_Mo_findStages_30 rfl 1 rfl (by decide) rfl ?_
          refine v_goto (tgt := 2) hX d_Mo_findStages_33 (by decide) ?_
          refine v_lv [1, 0] rfl ?_
          exact ih_LA (x + 1) (σ36) (Q41) (by omega) (hP.up (by rw [hs37, va_up_ne _ _ (by decide)]; exact hP.1) (by rw [hs37, va_up_ne _ _ (by decide)]) (by rw [hs37, va_up_ne _ _ (by decide)]) (by rw [hs37, va_up_ne _ _ (by decide)])) hQ40 (fun q a1 a2 => by rw [eQ42, va_up_ne _ _ (by omega)]; exact hq q a1 a2) (fun i i1 i2 => by rw [hs37, va_up_ne _ _ (by omega)]; exact hFr i i1 i2) (by omega) (fun y hy => by
              rw [eQ42, va_up_self]
              by_cases qy : y = x
              · subst qy; rw [va_up_self]; exact st0_k hx hch
              · rw [va_up_ne _ _ (by omega)]; exact h2 y (by omega))
  refine v_lv [1, 0] rfl ?_
  exact LA _ (0) (σ) (Q) (Nat.lt_succ_self _) hM hQ (fun _ _ _ => rfl) (fun _ _ _ => rfl) (Nat.zero_le _) (fun y hy => absurd hy (Nat.not_lt_zero y))
