/-! THE REFERENCE WALKS OVER A STAGE; by program -/
theorem U_le {s : gS} (hgi : gInv 0 s) {T : Nat → Nat → Int} (hz : zEq s.2.1 T) (st : Int) {x : Nat} (hx : x < s.1) : kSum s.2.2 st s.1 s.1 T x 10 ≤ 32 := by
  obtain ⟨sz, T0, ch⟩ := s
  have h := sB_sum hgi.1 hgi.2.2.2 hz st sz (Nat.le_refl _) x (by omega) hx
  unfold sB at h
  have e3 : kSum ch st sz sz T x 3 = T0 x 3 := by rw [kSum_hi _ _ _ _ _ _ (by decide), hz _ _ (by decide) (by decide) (by decide) (by decide)]
  rw [e3] at h
  have d0 : 0 ≤ T0 x 3 := (hgi.1.2.2 x hx).2.1.1
  have := wt_le d0
  show kSum ch st sz sz T x 10 ≤ 32
  omega

set_option maxHeartbeats 1000000 in
set_option maxRecDepth 100000 in
theorem m_Mo_look {G : xG} {f0 : xF} {ad : Nat → Nat} (hj : adOk ad 400) {σ : xF} {n : Nat} {val : Nat → Nat → Int} {cl so : Nat → Nat} {de le wo : Nat} {S : Nat → Int} (hM : pMo G ad σ n val cl so de le wo S) (hD : dTab n val cl so) {Q : Nat → Nat → Int} (hQ : pMa G σ Q) {s : gS} {kk : Nat} (hG : moG Q s) (hgi : gInv 0 s) (hni : nIv n so (mC n cl) (mK n val) (mLf n val so) le wo 0 s kk) {T : Nat → Nat → Int} (hz : zEq s.2.1 T) (st : Nat) (hst : st < 48) (hrow : ∀ x, x < s.1 → Q 372 (64 * st + x) = stF T (st : Int) x) (hW : lkW s.1 T s.2.2 (st : Int)) (x0 : Nat) (hx0 : x0 < s.1) (h9 : ¬ T x0 9 ≤ (st : Int)) : ∀ l, gVo l G f0 ad 400 y_Mo_look (.code y_Mo_look c_Mo_look 5 none) rm_Mo_look [.ref (ad 358), .int (iv (((st : Nat) : Int))), .int (iv (((x0 : Nat) : Int)))] σ (fun σ' => ∃ g, pMo G ad σ' n val cl so de le wo (va_up (va_up S 31 ((kSum s.2.2 st s.1 s.1 T) x0 10)) 32 ((kSum s.2.2 st s.1 s.1 T) x0 11)) ∧ pMa G σ' (va_up Q 375 g) ∧ (∀ i, i ≠ 358 → i ≠ 375 → σ' i = σ i)) := by
  intro l
  refine mV_of (by decide) (Nat.le_of_ble_eq_true rfl) (fun X hX hret => ?_)
  show vV G X 0 0 0 [(0, .ref (ad 358)), (1, .int (iv (((st : Nat) : Int)))), (2, .int (iv (((x0 : Nat) : Int))))] [] (ov f0 ad 400 σ)
  obtain ⟨m0, ⟨sf, m1, m1e⟩, ⟨vf, m2, m2e⟩, ⟨cf, m3, m3e⟩⟩ := id hM
  obtain ⟨d1, d2, d3, d4⟩ := id hD
  have hs47 := hgi.1.2.1
  have hd : ∀ x q, x < s.1 → s.2.2 x = some q → ∃ m, q = 76 + 141 * 0 + 3 * m ∧ x < m ∧ m + 1 < s.1 := fun x q hx hq => by obtain ⟨m, a1, a2, a3, -⟩ := hgi.2.2.2 x q hx hq; exact ⟨m, a1, a2, a3⟩
  have hA32 : ((kSum s.2.2 st s.1 s.1 T) x0 10) ≤ 32 := U_le hgi hz (st : Int) hx0
  refine v_aload_n hX d_Mo_look_0 0 rfl ?_
  refine v_iconst hX (0) d_Mo_look_1 ?_
  refine g_put (i := 358) (fs' := [.ref (ad 359), .int (iv (((n : Nat) : Int))), .ref (ad 360), .ref (ad 361), .int (iv (((de : Nat) : Int))), .int (iv (((le : Nat) : Int))), .int (iv (((wo : Nat) : Int))), .int (iv ((S 7))), .long (jv ((S 8))), .long (jv ((S 9))), .int (iv ((S 10))), .int (iv ((S 11))), .int (iv ((S 12))), .long (jv ((S 13))), .long (jv ((S 14))), .int (iv ((S 15))), .ref (ad 362), .ref (ad 363), .ref (ad 364), .ref (ad 365), .ref (ad 366), .ref (ad 367), .ref (ad 368), .ref (ad 369), .ref (ad 370), .ref (ad 371), .int (iv ((S 26))), .ref (ad 372), .ref (ad 373), .ref (ad 374), .ref (ad 375), .int (iv (0)), .int (iv ((S 32)))]) hX hj pf_Mo_194 d_Mo_look_2 (by omega) m0 rfl rfl (Nat.le_of_ble_eq_true rfl) rfl ?_
  obtain ⟨σ1, hs2⟩ : ∃ s9, s9 = va_up σ (358) (eO 9 [.ref (ad 359), .int (iv (((n : Nat) : Int))), .ref (ad 360), .ref (ad 361), .int (iv (((de : Nat) : Int))), .int (iv (((le : Nat) : Int))), .int (iv (((wo : Nat) : Int))), .int (iv ((S 7))), .long (jv ((S 8))), .long (jv ((S 9))), .int (iv ((S 10))), .int (iv ((S 11))), .int (iv ((S 12))), .long (jv ((S 13))), .long (jv ((S 14))), .int (iv ((S 15))), .ref (ad 362), .ref (ad 363), .ref (ad 364), .ref (ad 365), .ref (ad 366), .ref (ad 367), .ref (ad 368), .ref (ad 369), .ref (ad 370), .ref (ad 371), .int (iv ((S 26))), .ref (ad 372), .ref (ad 373), .ref (ad 374), .ref (ad 375), .int (iv (0)), .int (iv ((S 32)))]) := ⟨_, rfl⟩
  rw [← hs2]
  have hf4 := (show σ1 (359) = σ (359) by rw [hs2, va_up_ne _ _ (by omega)]).trans m1
  have hf5 := (show σ1 (360) = σ (360) by rw [hs2, va_up_ne _ _ (by omega)]).trans m2
  have hf6 := (show σ1 (361) = σ (361) by rw [hs2, va_up_ne _ _ (by omega)]).trans m3
  have hf7 : σ1 (358) = (eO 9 [.ref (ad 359), .int (iv (((n : Nat) : Int))), .ref (ad 360), .ref (ad 361), .int (iv (((de : Nat) : Int))), .int (iv (((le : Nat) : Int))), .int (iv (((wo : Nat) : Int))), .int (iv ((S 7))), .long (jv ((S 8))), .long (jv ((S 9))), .int (iv ((S 10))), .int (iv ((S 11))), .int (iv ((S 12))), .long (jv ((S 13))), .long (jv ((S 14))), .int (iv ((S 15))), .ref (ad 362), .ref (ad 363), .ref (ad 364), .ref (ad 365), .ref (ad 366), .ref (ad 367), .ref (ad 368), .ref (ad 369), .ref (ad 370), .ref (ad 371), .int (iv ((S 26))), .ref (ad 372), .ref (ad 373), .ref (ad 374), .ref (ad 375), .int (iv (0)), .int (iv ((S 32)))]) := by rw [hs2, va_up_self]
  have hQ8 : pMa G σ1 Q := hQ.oth (fun i h1 h2 => by rw [hs2, va_up_ne _ _ (by omega)])
  refine v_aload_n hX d_Mo_look_5 0 rfl ?_
  refine v_iconst hX (0) d_Mo_look_6 ?_
  refine g_put (i := 358) (fs' := [.ref (ad 359), .int (iv (((n : Nat) : Int))), .ref (ad 360), .ref (ad 361), .int (iv (((de : Nat) : Int))), .int (iv (((le : Nat) : Int))), .int (iv (((wo : Nat) : Int))), .int (iv ((S 7))), .long (jv ((S 8))), .long (jv ((S 9))), .int (iv ((S 10))), .int (iv ((S 11))), .int (iv ((S 12))), .long (jv ((S 13))), .long (jv ((S 14))), .int (iv ((S 15))), .ref (ad 362), .ref (ad 363), .ref (ad 364), .ref (ad 365), .ref (ad 366), .ref (ad 367), .ref (ad 368), .ref (ad 369), .ref (ad 370), .ref (ad 371), .int (iv ((S 26))), .ref (ad 372), .ref (ad 373), .ref (ad 374), .ref (ad 375), .int (iv (0)), .int (iv (0))]) hX hj pf_Mo_197 d_Mo_look_7 (by omega) hf7 rfl rfl (Nat.le_of_ble_eq_true rfl) rfl ?_
  obtain ⟨σ9, hs10⟩ : ∃ s9, s9 = va_up σ1 (358) (eO 9 [.ref (ad 359), .int (iv (((n : Nat) : Int))), .ref (ad 360), .ref (ad 361), .int (iv (((de : Nat) : Int))), .int (iv (((le : Nat) : Int))), .int (iv (((wo : Nat) : Int))), .int (iv ((S 7))), .long (jv ((S 8))), .long (jv ((S 9))), .int (iv ((S 10))), .int (iv ((S 11))), .int (iv ((S 12))), .long (jv ((S 13))), .long (jv ((S 14))), .int (iv ((S 15))), .ref (ad 362), .ref (ad 363), .ref (ad 364), .ref (ad 365), .ref (ad 366), .ref (ad 367), .ref (ad 368), .ref (ad 369), .ref (ad 370), .ref (ad 371), .int (iv ((S 26))), .ref (ad 372), .ref (ad 373), .ref (ad 374), .ref (ad 375), .int (iv (0)), .int (iv (0))]) := ⟨_, rfl⟩
  rw [← hs10]
  have hf11 := (show σ9 (359) = σ1 (359) by rw [hs10, va_up_ne _ _ (by omega)]).trans hf4
  have hf12 := (show σ9 (360) = σ1 (360) by rw [hs10, va_up_ne _ _ (by omega)]).trans hf5
  have hf13 := (show σ9 (361) = σ1 (361) by rw [hs10, va_up_ne _ _ (by omega)]).trans hf6
  have hf15 : σ9 (358) = (eO 9 [.ref (ad 359), .int (iv (((n : Nat) : Int))), .ref (ad 360), .ref (ad 361), .int (iv (((de : Nat) : Int))), .int (iv (((le : Nat) : Int))), .int (iv (((wo : Nat) : Int))), .int (iv ((S 7))), .long (jv ((S 8))), .long (jv ((S 9))), .int (iv ((S 10))), .int (iv ((S 11))), .int (iv ((S 12))), .long (jv ((S 13))), .long (jv ((S 14))), .int (iv ((S 15))), .ref (ad 362), .ref (ad 363), .ref (ad 364), .ref (ad 365), .ref (ad 366), .ref (ad 367), .ref (ad 368), .ref (ad 369), .ref (ad 370), .ref (ad 371), .int (iv ((S 26))), .ref (ad 372), .ref (ad 373), .ref (ad 374), .ref (ad 375), .int (iv (0)), .int (iv (0))]) := by rw [hs10, va_up_self]
  have hQ16 : pMa G σ9 Q := hQ8.oth (fun i h1 h2 => by rw [hs10, va_up_ne _ _ (by omega)])
  refine v_iconst hX (1) d_Mo_look_10 ?_
  refine v_istore_n (lv' := [(3, .int (iv (1))), (0, .ref (ad 358)), (1, .int (iv (((st : Nat) : Int)))), (2, .int (iv (((x0 : Nat) : Int))))]) hX d_Mo_look_11 rfl (by decide) rfl ?_
  refine v_aload_n hX d_Mo_look_12 1 rfl ?_
  refine g_get (i := 358) hX hj fl_Mo_66 d_Mo_look_13 (by omega) hf15 rfl ?_
  refine v_iconst hX (0) d_Mo_look_16 ?_
  refine v_iload_n hX d_Mo_look_17 3 rfl ?_
  refine g_iast (i := 375) hX hj d_Mo_look_18 (by omega) hQ16.2.2.2.2.2 (by decide) (0) rfl (by omega) ?_
  obtain ⟨σ17, hs18⟩ : ∃ s9, s9 = va_up σ9 (375) (eJ G 64 (va_up (Q 375) (0) (((x0 : Nat) : Int)))) := ⟨_, rfl⟩
  rw [← hs18]
  have hf19 := (show σ17 (359) = σ9 (359) by rw [hs18, va_up_ne _ _ (by omega)]).trans hf11
  have hf20 := (show σ17 (360) = σ9 (360) by rw [hs18, va_up_ne _ _ (by omega)]).trans hf12
  have hf21 := (show σ17 (361) = σ9 (361) by rw [hs18, va_up_ne _ _ (by omega)]).trans hf13
  have hf22 := (show σ17 (358) = σ9 (358) by rw [hs18, va_up_ne _ _ (by omega)]).trans hf15
  have hf23 : σ17 (375) = (eJ G 64 (va_up (Q 375) (0) (((x0 : Nat) : Int)))) := by rw [hs18, va_up_self]
  obtain ⟨Q25, eQ26⟩ : ∃ Qq, Qq = va_up Q 375 (va_up (Q 375) (0) (((x0 : Nat) : Int))) := ⟨_, rfl⟩
  have hQ24 : pMa G σ17 Q25 := by rw [eQ26]; exact hQ16.set 375 (fun i hi => by rw [hs18, va_up_ne _ _ hi]) (fun a b => absurd b (by decide)) (fun a b => absurd b (by decide)) (fun a => absurd a (by decide)) (fun a => absurd a (by decide)) (fun a b => absurd b (by decide)) (fun _ => (by rw [hs18, va_up_self]))
  have LOOP : ∀ (fuel : Nat) (p : Nat) (σv : xF) (pl : Nat → Int) (a : Int) (w : Int), (2 * (((kSum s.2.2 st s.1 s.1 T) x0 10) - a) - (p : Int)).toNat < fuel → (pMo G ad σv n val cl so de le wo (va_up (va_up S 31 a) 32 w)) → (pMa G σv (va_up Q 375 pl)) → (piI s.1 T (kSum s.2.2 st s.1 s.1 T) st p pl a w ((kSum s.2.2 st s.1 s.1 T) x0 10) ((kSum s.2.2 st s.1 s.1 T) x0 11)) → (∀ i, i ≠ 358 → i ≠ 375 → σv i = σ i) → vV G X 0 0 19 [(0, .ref (ad 358)), (1, .int (iv (((st : Nat) : Int)))), (2, .int (iv (((x0 : Nat) : Int)))), (3, .int (iv (((p : Nat) : Int))))] [] (ov f0 ad 400 σv) := by
    intro fuel
    induction fuel with
    | zero => intro p σv pl a w hm; exact absurd hm (Nat.not_lt_zero _)
    | succ fuel ih_LOOP =>
      intro p σv pl a w hm hP hQv hpi hFr
      obtain ⟨Qv, eQv⟩ : ∃ Qv, Qv = va_up Q 375 pl := ⟨_, rfl⟩
      rw [← eQv] at hQv
      have hm9 : σv 358 = eO 9 [.ref (ad 359), .int (iv (((n : Nat) : Int))), .ref (ad 360), .ref (ad 361), .int (iv (((de : Nat) : Int))), .int (iv (((le : Nat) : Int))), .int (iv (((wo : Nat) : Int))), .int (iv ((S 7))), .long (jv ((S 8))), .long (jv ((S 9))), .int (iv ((S 10))), .int (iv ((S 11))), .int (iv ((S 12))), .long (jv ((S 13))), .long (jv ((S 14))), .int (iv ((S 15))), .ref (ad 362), .ref (ad 363), .ref (ad 364), .ref (ad 365), .ref (ad 366), .ref (ad 367), .ref (ad 368), .ref (ad 369), .ref (ad 370), .ref (ad 371), .int (iv ((S 26))), .ref (ad 372), .ref (ad 373), .ref (ad 374), .ref (ad 375), .int (iv (a)), .int (iv (w))] := hP.1
      have hpl : (p : Int) ≤ 32 := by
        have h9 := sumZ_ge (f := fun i => (kSum s.2.2 st s.1 s.1 T) (pl i).toNat 10) p (fun i hi => by obtain ⟨x, e, hx, -⟩ := hpi.1 i hi; show 1 ≤ (kSum s.2.2 st s.1 s.1 T) (pl i).toNat 10; rw [e, Int.toNat_natCast]; exact kSum_1 hd (s.1 - 1 - x) x (Nat.le_refl _) hx)
        have := hpi.2.1
        have := hpi.2.2.2
        omega
      have hps : (p : Int) ≤ sumZ (fun i => (kSum s.2.2 st s.1 s.1 T) (pl i).toNat 10) p := sumZ_ge p (fun i hi => by obtain ⟨x, e, hx, -⟩ := hpi.1 i hi; show 1 ≤ (kSum s.2.2 st s.1 s.1 T) (pl i).toNat 10; rw [e, Int.toNat_natCast]; exact kSum_1 hd (s.1 - 1 - x) x (Nat.le_refl _) hx)
      have hpa := hpi.2.1
      refine v_iload_n hX d_Mo_look_19 3 rfl ?_
      refine v_if_le (tgt := 117) hX d_Mo_look_20 (by decide) (by first | assumption | (unfold ir; omega)) (fun c20_1 => ?_) (fun c20_1 => ?_)
      · have p0 : p = 0 := by omega
        subst p0
        have e1 := hpi.2.1
        have e2 := hpi.2.2.1
        have e1 : a + 0 = ((kSum s.2.2 st s.1 s.1 T) x0 10) := e1
        have e2 : w + 0 = ((kSum s.2.2 st s.1 s.1 T) x0 11) := e2
        rw [Int.add_zero] at e1 e2
        rw [e1, e2] at hP
        rw [eQv] at hQv
        exact hret _ _ _ d_Mo_look_117 ⟨_, rfl, pl, hP, hQv, hFr⟩
      · obtain ⟨j, rfl⟩ : ∃ j, p = j + 1 := ⟨p - 1, by omega⟩
        refine v_iinc (lv' := [(3, .int (iv ((((j + 1) : Nat) : Int) + (-1)))), (0, .ref (ad 358)), (1, .int (iv (((st : Nat) : Int)))), (2, .int (iv (((x0 : Nat) : Int))))]) hX d_Mo_look_23 3 rfl (by decide) rfl ?_
        rw [show ((((j + 1) : Nat) : Int) + (-1)) = ((j : Nat) : Int) by omega]
        obtain ⟨x, hxj, hx, hx9⟩ := hpi.1 j (by omega)
        obtain ⟨g1, g2, g3⟩ := hG x hx
        obtain ⟨⟨o1, o2⟩, -, -⟩ := hgi.1.2.2 x hx
        obtain ⟨-, -, -, hx5⟩ := hni.1 x hx
        obtain ⟨ro, ero⟩ : ∃ ro : Nat, s.2.1 x 2 = (ro : Int) := ⟨(s.2.1 x 2).toNat, by omega⟩
        rw [ero, Int.toNat_natCast] at hx5
        have hro24 : ro < 16777216 := by omega
        refine v_aload_n hX d_Mo_look_26 1 rfl ?_
        refine g_get (i := 358) hX hj fl_Mo_66 d_Mo_look_27 (by omega) hm9 rfl ?_
        refine v_iload_n hX d_Mo_look_30 0 rfl ?_
        refine g_iald (i := 375) hX hj d_Mo_look_31 (by omega) hQv.2.2.2.2.2 (by decide) (j) rfl (by omega) ?_
        refine v_top (x' := iv (((x : Nat) : Int))) (congrArg iv (by rw [eQv, va_up_self]; exact hxj)) ?_
        refine v_istore (lv' := [(4, .int (iv (((x : Nat) : Int)))), (3, .int (iv (((j : Nat) : Int)))), (0, .ref (ad 358)), (1, .int (iv (((st : Nat) : Int)))), (2, .int (iv (((x0 : Nat) : Int))))]) hX d_Mo_look_32 (by decide) rfl ?_
        refine v_aload_n hX d_Mo_look_34 2 rfl ?_
        refine g_get (i := 358) hX hj fl_Mo_57 d_Mo_look_35 (by omega) hm9 rfl ?_
        refine v_bipush hX (64) d_Mo_look_38 rfl ?_
        refine v_iload_n hX d_Mo_look_40 3 rfl ?_
        refine v_imulN (a := 64) (b := st) hX d_Mo_look_41 ?_
        refine v_iload hX d_Mo_look_42 0 rfl ?_
        refine v_iaddN (a := (64 * st)) (b := x) hX d_Mo_look_44 ?_
        refine g_iald (i := 372) hX hj d_Mo_look_45 (by omega) hQv.2.2.2.1 (by decide) (((64 * st) + x)) rfl (by omega) ?_
        refine v_top (x' := iv ((stF T (st : Int) x))) (congrArg iv (by rw [eQv, va_up_ne _ _ (by decide)]; exact hrow x hx)) ?_
        by_cases h8 : T x 8 ≤ (st : Int)
        · refine v_top (x' := iv ((1 : Nat) : Int)) (congrArg iv (by unfold stF; rw [if_neg hx9, if_pos h8]; rfl)) ?_
          refine v_iconst hX (1) d_Mo_look_46 ?_
          refine v_icmp_ne (tgt := 83) hX d_Mo_look_47 (by decide) (by first | assumption | (unfold ir; omega)) (by first | assumption | (unfold ir; omega)) (fun c9 => absurd c9 (by omega)) (fun c9 => ?_)
          refine v_aload_n hX d_Mo_look_50 2 rfl ?_
          refine v_dup hX d_Mo_look_51 rfl ?_
          refine g_get (i := 358) hX hj fl_Mo_194 d_Mo_look_52 (by omega) hm9 rfl ?_
          refine v_iconst hX (1) d_Mo_look_55 ?_
          refine v_iadd hX d_Mo_look_56 ?_
          refine g_put (i := 358) (fs' := [.ref (ad 359), .int (iv (((n : Nat) : Int))), .ref (ad 360), .ref (ad 361), .int (iv (((de : Nat) : Int))), .int (iv (((le : Nat) : Int))), .int (iv (((wo : Nat) : Int))), .int (iv ((S 7))), .long (jv ((S 8))), .long (jv ((S 9))), .int (iv ((S 10))), .int (iv ((S 11))), .int (iv ((S 12))), .long (jv ((S 13))), .long (jv ((S 14))), .int (iv ((S 15))), .ref (ad 362), .ref (ad 363), .ref (ad 364), .ref (ad 365), .ref (ad 366), .ref (ad 367), .ref (ad 368), .ref (ad 369), .ref (ad 370), .ref (ad 371), .int (iv ((S 26))), .ref (ad 372), .ref (ad 373), .ref (ad 374), .ref (ad 375), .int (iv ((a + 1))), .int (iv (w))]) hX hj pf_Mo_194 d_Mo_look_57 (by omega) hm9 rfl rfl (Nat.le_of_ble_eq_true rfl) rfl ?_
          obtain ⟨σ27, hs28⟩ : ∃ s9, s9 = va_up σv (358) (eO 9 [.ref (ad 359), .int (iv (((n : Nat) : Int))), .ref (ad 360), .ref (ad 361), .int (iv (((de : Nat) : Int))), .int (iv (((le : Nat) : Int))), .int (iv (((wo : Nat) : Int))), .int (iv ((S 7))), .long (jv ((S 8))), .long (jv ((S 9))), .int (iv ((S 10))), .int (iv ((S 11))), .int (iv ((S 12))), .long (jv ((S 13))), .long (jv ((S 14))), .int (iv ((S 15))), .ref (ad 362), .ref (ad 363), .ref (ad 364), .ref (ad 365), .ref (ad 366), .ref (ad 367), .ref (ad 368), .ref (ad 369), .ref (ad 370), .ref (ad 371), .int (iv ((S 26))), .ref (ad 372), .ref (ad 373), .ref (ad 374), .ref (ad 375), .int (iv ((a + 1))), .int (iv (w))]) := ⟨_, rfl⟩
          rw [← hs28]
          have hf30 : σ27 (358) = (eO 9 [.ref (ad 359), .int (iv (((n : Nat) : Int))), .ref (ad 360), .ref (ad 361), .int (iv (((de : Nat) : Int))), .int (iv (((le : Nat) : Int))), .int (iv (((wo : Nat) : Int))), .int (iv ((S 7))), .long (jv ((S 8))), .long (jv ((S 9))), .int (iv ((S 10))), .int (iv ((S 11))), .int (iv ((S 12))), .long (jv ((S 13))), .long (jv ((S 14))), .int (iv ((S 15))), .ref (ad 362), .ref (ad 363), .ref (ad 364), .ref (ad 365), .ref (ad 366), .ref (ad 367), .ref (ad 368), .ref (ad 369), .ref (ad 370), .ref (ad 371), .int (iv ((S 26))), .ref (ad 372), .ref (ad 373), .ref (ad 374), .ref (ad 375), .int (iv ((a + 1))), .int (iv (w))]) := by rw [hs28, va_up_self]
          have hQ31 : pMa G σ27 Qv := hQv.oth (fun i h1 h2 => by rw [hs28, va_up_ne _ _ (by omega)])
          refine v_aload_n hX d_Mo_look_60 2 rfl ?_
          refine v_dup hX d_Mo_look_61 rfl ?_
          refine g_get (i := 358) hX hj fl_Mo_197 d_Mo_look_62 (by omega) hf30 rfl ?_
          refine v_aload_n hX d_Mo_look_65 2 rfl ?_
          refine v_aload_n hX d_Mo_look_66 2 rfl ?_
          refine g_get (i := 358) hX hj fl_Mo_26 d_Mo_look_67 (by omega) hf30 rfl ?_
          refine v_iload hX d_Mo_look_70 0 rfl ?_
          refine g_iald (i := 362) hX hj d_Mo_look_72 (by omega) (hQ31.1 362 (by decide) (by decide)) (by decide) (x) rfl (by omega) ?_
          refine v_top (x' := iv (((ro : Nat) : Int))) (congrArg iv (by rw [eQv, va_up_ne _ _ (by decide)]; exact g1.trans ero)) ?_
          refine g_callVI (As := [.int (iv (((ro : Nat) : Int)))]) (st := [.int (iv (w)), .ref (ad 358)]) hX hj (i := 358) (by omega) hf30 (m_Mo_wrongOf hj (hP.up (S' := va_up (va_up (va_up S 31 a) 32 w) 31 (a + 1)) (by rw [hs28, va_up_self]; rfl) (by rw [hs28, va_up_ne _ _ (by decide)]) (by rw [hs28, va_up_ne _ _ (by decide)]) (by rw [hs28, va_up_ne _ _ (by decide)])) hD ro hro24) cl_Mo_150 d_Mo_look_73 rfl ⟨by decide, by decide⟩ ⟨by decide, by decide⟩ (Nat.le_of_ble_eq_true rfl) (fun z32 σ33 hz34 hp35 => ?_)
          obtain ⟨he36, hv37⟩ := hp35
          rw [he36]
          have hv37 : z32 = wrI (mC n cl) ro := hv37
          subst hv37
          refine v_iadd hX d_Mo_look_76 ?_
          refine g_put (i := 358) (fs' := [.ref (ad 359), .int (iv (((n : Nat) : Int))), .ref (ad 360), .ref (ad 361), .int (iv (((de : Nat) : Int))), .int (iv (((le : Nat) : Int))), .int (iv (((wo : Nat) : Int))), .int (iv ((S 7))), .long (jv ((S 8))), .long (jv ((S 9))), .int (iv ((S 10))), .int (iv ((S 11))), .int (iv ((S 12))), .long (jv ((S 13))), .long (jv ((S 14))), .int (iv ((S 15))), .ref (ad 362), .ref (ad 363), .ref (ad 364), .ref (ad 365), .ref (ad 366), .ref (ad 367), .ref (ad 368), .ref (ad 369), .ref (ad 370), .ref (ad 371), .int (iv ((S 26))), .ref (ad 372), .ref (ad 373), .ref (ad 374), .ref (ad 375), .int (iv ((a + 1))), .int (iv ((w + (wrI (mC n cl) ro))))]) hX hj pf_Mo_197 d_Mo_look_77 (by omega) hf30 rfl rfl (Nat.le_of_ble_eq_true rfl) rfl ?_
          obtain ⟨σ38, hs39⟩ : ∃ s9, s9 = va_up σ27 (358) (eO 9 [.ref (ad 359), .int (iv (((n : Nat) : Int))), .ref (ad 360), .ref (ad 361), .int (iv (((de : Nat) : Int))), .int (iv (((le : Nat) : Int))), .int (iv (((wo : Nat) : Int))), .int (iv ((S 7))), .long (jv ((S 8))), .long (jv ((S 9))), .int (iv ((S 10))), .int (iv ((S 11))), .int (iv ((S 12))), .long (jv ((S 13))), .long (jv ((S 14))), .int (iv ((S 15))), .ref (ad 362), .ref (ad 363), .ref (ad 364), .ref (ad 365), .ref (ad 366), .ref (ad 367), .ref (ad 368), .ref (ad 369), .ref (ad 370), .ref (ad 371), .int (iv ((S 26))), .ref (ad 372), .ref (ad 373), .ref (ad 374), .ref (ad 375), .int (iv ((a + 1))), .int (iv ((w + (wrI (mC n cl) ro))))]) := ⟨_, rfl⟩
          rw [← hs39]
          have hf41 : σ38 (358) = (eO 9 [.ref (ad 359), .int (iv (((n : Nat) : Int))), .ref (ad 360), .ref (ad 361), .int (iv (((de : Nat) : Int))), .int (iv (((le : Nat) : Int))), .int (iv (((wo : Nat) : Int))), .int (iv ((S 7))), .long (jv ((S 8))), .long (jv ((S 9))), .int (iv ((S 10))), .int (iv ((S 11))), .int (iv ((S 12))), .long (jv ((S 13))), .long (jv ((S 14))), .int (iv ((S 15))), .ref (ad 362), .ref (ad 363), .ref (ad 364), .ref (ad 365), .ref (ad 366), .ref (ad 367), .ref (ad 368), .ref (ad 369), .ref (ad 370), .ref (ad 371), .int (iv ((S 26))), .ref (ad 372), .ref (ad 373), .ref (ad 374), .ref (ad 375), .int (iv ((a + 1))), .int (iv ((w + (wrI (mC n cl) ro))))]) := by rw [hs39, va_up_self]
          have hQ42 : pMa G σ38 Qv := hQ31.oth (fun i h1 h2 => by rw [hs39, va_up_ne _ _ (by omega)])
          refine v_goto (tgt := 114) hX d_Mo_look_80 (by decide) ?_
          refine v_goto (tgt := 19) hX d_Mo_look_114 (by decide) ?_
          refine v_lv [2, 3, 4, 1] rfl ?_
          exact ih_LOOP (j) (σ38) (pl) ((a + 1)) ((w + wrI (mC n cl) ro)) (by omega) (hP.up (by rw [hs39, hs28, bx_uu, va_up_self]; rfl) (by rw [hs39, va_up_ne _ _ (by decide), hs28, va_up_ne _ _ (by decide)]) (by rw [hs39, va_up_ne _ _ (by decide), hs28, va_up_ne _ _ (by decide)]) (by rw [hs39, va_up_ne _ _ (by decide), hs28, va_up_ne _ _ (by decide)])) (by rw [← eQv]; exact hQ42) (piI_l hpi hxj (kSum_l hx h8).1 ((kSum_l hx h8).2.trans ((hz x 5 (by decide) (by decide) (by decide) (by decide)).trans hx5))) (fun i i1 i2 => by rw [hs39, va_up_ne _ _ i1, hs28, va_up_ne _ _ i1]; exact hFr i i1 i2)
        · refine v_top (x' := iv ((0 : Nat) : Int)) (congrArg iv (by unfold stF; rw [if_neg hx9, if_neg h8]; rfl)) ?_
          rcases g3 with ⟨hn0, -⟩ | ⟨m, hch, k7, k8, -⟩
          · exact absurd (hW.2 x hx hn0) h8
          obtain ⟨m9, z1, hm1, hm2, -⟩ := hgi.2.2.2 x _ hx hch
          have em : m9 = m := by omega
          rw [em] at hm1 hm2
          refine v_iconst hX (1) d_Mo_look_46 ?_
          refine v_icmp_ne (tgt := 83) hX d_Mo_look_47 (by decide) (by first | assumption | (unfold ir; omega)) (by first | assumption | (unfold ir; omega)) (fun c9 => ?_) (fun c9 => absurd c9 (by omega))
          refine v_aload_n hX d_Mo_look_83 2 rfl ?_
          refine g_get (i := 358) hX hj fl_Mo_66 d_Mo_look_84 (by omega) hm9 rfl ?_
          refine v_iload_n hX d_Mo_look_87 1 rfl ?_
          refine v_aload_n hX d_Mo_look_88 2 rfl ?_
          refine g_get (i := 358) hX hj fl_Mo_41 d_Mo_look_89 (by omega) hm9 rfl ?_
          refine v_iload hX d_Mo_look_92 0 rfl ?_
          refine g_iald (i := 367) hX hj d_Mo_look_94 (by omega) (hQv.1 367 (by decide) (by decide)) (by decide) (x) rfl (by omega) ?_
          refine v_top (x' := iv (((m : Nat) : Int))) (congrArg iv (by rw [eQv, va_up_ne _ _ (by decide)]; exact k7)) ?_
          refine g_iast (i := 375) hX hj d_Mo_look_95 (by omega) hQv.2.2.2.2.2 (by decide) (j) rfl (by omega) ?_
          obtain ⟨σ43, hs44⟩ : ∃ s9, s9 = va_up σv (375) (eJ G 64 (va_up (Qv 375) (j) (((m : Nat) : Int)))) := ⟨_, rfl⟩
          rw [← hs44]
          have hf45 := (show σ43 (358) = σv (358) by rw [hs44, va_up_ne _ _ (by omega)]).trans hm9
          have hf46 : σ43 (375) = (eJ G 64 (va_up (Qv 375) (j) (((m : Nat) : Int)))) := by rw [hs44, va_up_self]
          obtain ⟨Q48, eQ49⟩ : ∃ Qq, Qq = va_up Qv 375 (va_up (Qv 375) (j) (((m : Nat) : Int))) := ⟨_, rfl⟩
          have hQ47 : pMa G σ43 Q48 := by rw [eQ49]; exact hQv.set 375 (fun i hi => by rw [hs44, va_up_ne _ _ hi]) (fun a b => absurd b (by decide)) (fun a b => absurd b (by decide)) (fun a => absurd a (by decide)) (fun a => absurd a (by decide)) (fun a b => absurd b (by decide)) (fun _ => (by rw [hs44, va_up_self]))
          refine v_aload_n hX d_Mo_look_96 2 rfl ?_
          refine g_get (i := 358) hX hj fl_Mo_66 d_Mo_look_97 (by omega) hf45 rfl ?_
          refine v_iload_n hX d_Mo_look_100 1 rfl ?_
          refine v_iconst hX (1) d_Mo_look_101 ?_
          refine v_iaddN (a := j) (b := 1) hX d_Mo_look_102 ?_
          refine v_aload_n hX d_Mo_look_103 2 rfl ?_
          refine g_get (i := 358) hX hj fl_Mo_44 d_Mo_look_104 (by omega) hf45 rfl ?_
          refine v_iload hX d_Mo_look_107 0 rfl ?_
          refine g_iald (i := 368) hX hj d_Mo_look_109 (by omega) (hQ47.1 368 (by decide) (by decide)) (by decide) (x) rfl (by omega) ?_
          refine v_top (x' := iv ((((m + 1) : Nat) : Int))) (congrArg iv (by rw [eQ49, va_up_ne _ _ (by decide), eQv, va_up_ne _ _ (by decide)]; exact k8)) ?_
          refine g_iast (i := 375) hX hj d_Mo_look_110 (by omega) hQ47.2.2.2.2.2 (by decide) ((j + 1)) rfl (by omega) ?_
          obtain ⟨σ50, hs51⟩ : ∃ s9, s9 = va_up σ43 (375) (eJ G 64 (va_up (Q48 375) ((j + 1)) ((((m + 1) : Nat) : Int)))) := ⟨_, rfl⟩
          rw [← hs51]
          have hf52 := (show σ50 (358) = σ43 (358) by rw [hs51, va_up_ne _ _ (by omega)]).trans hf45
          have hf53 : σ50 (375) = (eJ G 64 (va_up (Q48 375) ((j + 1)) ((((m + 1) : Nat) : Int)))) := by rw [hs51, va_up_self]
          obtain ⟨Q55, eQ56⟩ : ∃ Qq, Qq = va_up Q48 375 (va_up (Q48 375) ((j + 1)) ((((m + 1) : Nat) : Int))) := ⟨_, rfl⟩
          have hQ54 : pMa G σ50 Q55 := by rw [eQ56]; exact hQ47.set 375 (fun i hi => by rw [hs51, va_up_ne _ _ hi]) (fun a b => absurd b (by decide)) (fun a b => absurd b (by decide)) (fun a => absurd a (by decide)) (fun a => absurd a (by decide)) (fun a b => absurd b (by decide)) (fun _ => (by rw [hs51, va_up_self]))
          refine v_iincN (a := j) (n := 2) (lv' := [(3, .int (iv ((((j + 2) : Nat) : Int)))), (4, .int (iv (((x : Nat) : Int)))), (0, .ref (ad 358)), (1, .int (iv (((st : Nat) : Int)))), (2, .int (iv (((x0 : Nat) : Int))))]) hX d_Mo_look_111 rfl 1 rfl (by decide) rfl ?_
          refine v_goto (tgt := 19) hX d_Mo_look_114 (by decide) ?_
          refine v_lv [2, 3, 4, 0] rfl ?_
          exact ih_LOOP (j + 2) (σ50) ((va_up (va_up pl j (m : Int)) (j + 1) ((m + 1 : Nat) : Int))) (a) (w) (by omega) (hP.up (by rw [hs51, va_up_ne _ _ (by decide), hs44, va_up_ne _ _ (by decide)]; exact hP.1) (by rw [hs51, va_up_ne _ _ (by decide), hs44, va_up_ne _ _ (by decide)]) (by rw [hs51, va_up_ne _ _ (by decide), hs44, va_up_ne _ _ (by decide)]) (by rw [hs51, va_up_ne _ _ (by decide), hs44, va_up_ne _ _ (by decide)])) (by have e : Q55 = va_up Q 375 (va_up (va_up pl j (m : Int)) (j + 1) ((m + 1 : Nat) : Int)) := (by rw [eQ56, eQ49, eQv]; simp only [va_up_self, bx_uu]); rw [← e]; exact hQ54) (piI_p hpi hxj hm2 (hW.1 x m hx hch hx9 h8).1 (hW.1 x m hx hch hx9 h8).2 (kSum_p hx hch hm1 hm2 h8).1 (kSum_p hx hch hm1 hm2 h8).2) (fun i i1 i2 => by rw [hs51, va_up_ne _ _ i2, hs44, va_up_ne _ _ i2]; exact hFr i i1 i2)
  refine v_lv [1, 2, 3, 0] rfl ?_
  exact LOOP _ (1) (σ17) ((va_up (Q 375) 0 (x0 : Int))) (0) (0) (Nat.lt_succ_self _) (hM.up (by rw [hs18, va_up_ne _ _ (by decide), hs10, hs2, bx_uu, va_up_self]; rfl) (by rw [hs18, va_up_ne _ _ (by decide), hs10, va_up_ne _ _ (by decide), hs2, va_up_ne _ _ (by decide)]) (by rw [hs18, va_up_ne _ _ (by decide), hs10, va_up_ne _ _ (by decide), hs2, va_up_ne _ _ (by decide)]) (by rw [hs18, va_up_ne _ _ (by decide), hs10, va_up_ne _ _ (by decide), hs2, va_up_ne _ _ (by decide)])) (by rw [← eQ26]; exact hQ24) (piI_0 hx0 h9) (fun i i1 i2 => by rw [hs18, va_up_ne _ _ i2, hs10, va_up_ne _ _ i1, hs2, va_up_ne _ _ i1])
