/-! A ROW IS ADDED; by program -/
set_option maxHeartbeats 1000000 in
set_option maxRecDepth 100000 in
theorem m_Tab_add {G : xG} {f0 : xF} {ad : Nat → Nat} (hj : adOk ad 400) {σ : xF} {n : Nat} {val : Nat → Nat → Int} {cl so rC rK : Nat → Nat} {rL : Nat → Nat → Nat} (hT : pTab G ad σ n val cl so rC rK rL) (hB : bTab n cl so rC rK rL) (a : Nat → Int) (ha : σ 11 = eJ G 4 a) (htk : tks so a = true) (hra : ∀ q, ir (a q)) (k : Nat) (hk : k < 3) (hn : n < 24) : ∀ l, gI l G f0 ad 400 y_Tab_add (.code y_Tab_add c_Tab_add 5 (some (.int))) rm_Tab_add [.ref (ad 1), .ref (ad 11), .int (iv (((k : Nat) : Int)))] σ (fun z σ' => pTab G ad σ' (n + 1) (va_up val n (adV a (val n) 4)) (va_up cl n k) so (va_up rC k (rC k ||| 2 ^ n)) (adK (2 ^ n) a rK 4) (adL so (2 ^ n) a rL 4) ∧ (∀ i, i ≠ 1 → (i < 12 ∨ 17 < i) → (i < 24 ∨ 51 < i) → σ' i = σ i) ∧ z = ((n : Nat) : Int)) := by
  intro l
  refine mI_of (rt := .int) (by decide) (Nat.le_of_ble_eq_true rfl) (fun X hX hret => ?_)
  show vV G X 0 0 0 [(0, .ref (ad 1)), (1, .ref (ad 11)), (2, .int (iv (((k : Nat) : Int))))] [] (ov f0 ad 400 σ)
  obtain ⟨a1, a2, a3, a4, a5, a6, a7, a8, a9⟩ := id hT
  obtain ⟨b1, b2, b3, b4, b5, b6⟩ := id hB
  refine v_aload_n hX d_Tab_add_0 0 rfl ?_
  refine g_get (i := 1) hX hj fl_Tab_20 d_Tab_add_1 (by omega) a1 rfl ?_
  refine v_bipush hX (24) d_Tab_add_4 rfl ?_
  refine v_icmp_ge (tgt := 16) hX d_Tab_add_6 (by decide) (by first | assumption | exact hra _ | (unfold ir; omega)) (by first | assumption | exact hra _ | (unfold ir; omega)) (fun c6_1 => absurd c6_1 (by omega)) (fun c6_1 => ?_)
  refine v_iload_n hX d_Tab_add_9 2 rfl ?_
  refine g_callSI (As := [.int (iv (((k : Nat) : Int)))]) (st := []) hX (k0_Bs_isClass (((k : Nat) : Int)) (by first | assumption | (unfold ir at *; omega))) cl_Tab_40 d_Tab_add_10 rfl ⟨by decide, by decide⟩ ⟨by decide, by decide⟩ (Nat.le_of_ble_eq_true rfl) (fun z1 hz2 hp3 => ?_)
  have z1e : z1 = 1 := hp3.trans (if_pos (by omega))
  subst z1e
  refine v_if_ne (tgt := 19) hX d_Tab_add_13 (by decide) (by first | assumption | exact hra _ | (unfold ir; omega)) (fun c9 => ?_) (fun c9 => absurd c9 (by omega))
  refine v_aload_n hX d_Tab_add_19 0 rfl ?_
  refine g_get (i := 1) hX hj fl_Tab_20 d_Tab_add_20 (by omega) a1 rfl ?_
  refine v_istore_n (lv' := [(3, .int (iv (((n : Nat) : Int)))), (0, .ref (ad 1)), (1, .ref (ad 11)), (2, .int (iv (((k : Nat) : Int))))]) hX d_Tab_add_23 rfl (by decide) rfl ?_
  refine v_iconst hX (0) d_Tab_add_24 ?_
  refine v_istore (lv' := [(4, .int (iv (0))), (3, .int (iv (((n : Nat) : Int)))), (0, .ref (ad 1)), (1, .ref (ad 11)), (2, .int (iv (((k : Nat) : Int))))]) hX d_Tab_add_25 (by decide) rfl ?_
  have LOOP : ∀ (fuel : Nat) (c : Nat) (σv : xF), 4 - c < fuel → (c ≤ 4) → (pTab G ad σv n (va_up val n (adV a (val n) c)) cl so rC (adK (2 ^ n) a rK c) (adL so (2 ^ n) a rL c)) → (∀ i, i ≠ 16 → (i < 24 ∨ 51 < i) → σv i = σ i) → vV G X 0 0 27 [(0, .ref (ad 1)), (1, .ref (ad 11)), (2, .int (iv (((k : Nat) : Int)))), (3, .int (iv (((n : Nat) : Int)))), (4, .int (iv (((c : Nat) : Int))))] [] (ov f0 ad 400 σv) := by
    intro fuel
    induction fuel with
    | zero => intro c σv hm; exact absurd hm (Nat.not_lt_zero _)
    | succ fuel ih_LOOP =>
      intro c σv hm hc hTv hFr
      obtain ⟨d1, d2, d3, d4, d5, d6, d7, d8, d9⟩ := id hTv
      have hrow : σv (28 + n) = eJ G 4 (adV a (val n) c) := by have h := d9 n (by omega); rw [va_up_self] at h; exact h
      have ha2 : σv 11 = eJ G 4 a := (hFr 11 (by decide) (by decide)).trans ha
      have hBv := bTab_ad hB (two_lt (show n < 24 by omega)) a c
      refine v_iload hX d_Tab_add_27 4 rfl ?_
      refine v_iconst hX (4) d_Tab_add_29 ?_
      refine v_icmp_ge (tgt := 78) hX d_Tab_add_30 (by decide) (by first | assumption | exact hra _ | (unfold ir; omega)) (by first | assumption | exact hra _ | (unfold ir; omega)) (fun c30_3 => ?_) (fun c30_3 => ?_)
      · have ec : c = 4 := by omega
        subst ec
        refine v_aload_n hX d_Tab_add_78 0 rfl ?_
        refine g_get (i := 1) hX hj fl_Tab_16 d_Tab_add_79 (by omega) d1 rfl ?_
        refine v_iload_n hX d_Tab_add_82 3 rfl ?_
        refine v_iload_n hX d_Tab_add_83 2 rfl ?_
        refine g_iast (i := 13) hX hj d_Tab_add_84 (by omega) d3 (by decide) (n) rfl (by omega) ?_
        obtain ⟨σ4, hs5⟩ : ∃ s9, s9 = va_up σv (13) (eJ G 24 (va_up (fun j => (((cl j) : Nat) : Int)) (n) (((k : Nat) : Int)))) := ⟨_, rfl⟩
        rw [← hs5]
        have hf6 := (show σ4 (1) = σv (1) by rw [hs5, va_up_ne _ _ (by omega)]).trans d1
        have hf7 := (show σ4 (12) = σv (12) by rw [hs5, va_up_ne _ _ (by omega)]).trans d2
        have hf8 := (show σ4 (28 + n) = σv (28 + n) by rw [hs5, va_up_ne _ _ (by omega)]).trans hrow
        have hf9 := (show σ4 (11) = σv (11) by rw [hs5, va_up_ne _ _ (by omega)]).trans ha2
        have hf11 := (show σ4 (15) = σv (15) by rw [hs5, va_up_ne _ _ (by omega)]).trans d5
        have hf12 : σ4 (13) = (eJ G 24 (va_up (fun j => (((cl j) : Nat) : Int)) (n) (((k : Nat) : Int)))) := by rw [hs5, va_up_self]
        refine v_aload_n hX d_Tab_add_85 0 rfl ?_
        refine g_get (i := 1) hX hj fl_Tab_27 d_Tab_add_86 (by omega) hf6 rfl ?_
        refine v_iload_n hX d_Tab_add_89 2 rfl ?_
        refine v_dup2_11 hX d_Tab_add_90 rfl rfl ?_
        refine g_iald (i := 15) hX hj d_Tab_add_91 (by omega) hf11 (by decide) (k) rfl (by omega) ?_
        refine v_iconst hX (1) d_Tab_add_92 ?_
        refine v_iload_n hX d_Tab_add_93 3 rfl ?_
        refine v_ishl (z := (((2 ^ n) : Nat) : Int)) hX d_Tab_add_94 (iv_shl1 (n) (by omega)) ?_
        refine v_ior (z := ((((rC k) ||| (2 ^ n)) : Nat) : Int)) hX d_Tab_add_95 (iv_or ((rC k)) ((2 ^ n))) ?_
        refine g_iast (i := 15) hX hj d_Tab_add_96 (by omega) hf11 (by decide) (k) rfl (by omega) ?_
        obtain ⟨σ13, hs14⟩ : ∃ s9, s9 = va_up σ4 (15) (eJ G 3 (va_up (fun j => (((rC j) : Nat) : Int)) (k) (((((rC k) ||| (2 ^ n)) : Nat) : Int)))) := ⟨_, rfl⟩
        rw [← hs14]
        have hf15 := (show σ13 (1) = σ4 (1) by rw [hs14, va_up_ne _ _ (by omega)]).trans hf6
        have hf16 := (show σ13 (12) = σ4 (12) by rw [hs14, va_up_ne _ _ (by omega)]).trans hf7
        have hf17 := (show σ13 (28 + n) = σ4 (28 + n) by rw [hs14, va_up_ne _ _ (by omega)]).trans hf8
        have hf18 := (show σ13 (11) = σ4 (11) by rw [hs14, va_up_ne _ _ (by omega)]).trans hf9
        have hf20 := (show σ13 (13) = σ4 (13) by rw [hs14, va_up_ne _ _ (by omega)]).trans hf12
        have hf21 : σ13 (15) = (eJ G 3 (va_up (fun j => (((rC j) : Nat) : Int)) (k) (((((rC k) ||| (2 ^ n)) : Nat) : Int)))) := by rw [hs14, va_up_self]
        refine v_aload_n hX d_Tab_add_97 0 rfl ?_
        refine v_iload_n hX d_Tab_add_98 3 rfl ?_
        refine v_iconst hX (1) d_Tab_add_99 ?_
        refine v_iaddN (a := n) (b := 1) hX d_Tab_add_100 ?_
        refine g_put (i := 1) (fs' := [.ref (ad 12), .ref (ad 13), .int (iv ((((n + 1) : Nat) : Int))), .ref (ad 14), .ref (ad 15), .ref (ad 16), .ref (ad 17)]) hX hj pf_Tab_20 d_Tab_add_101 (by omega) hf15 rfl rfl (Nat.le_of_ble_eq_true rfl) rfl ?_
        obtain ⟨σ22, hs23⟩ : ∃ s9, s9 = va_up σ13 (1) (eO 6 [.ref (ad 12), .ref (ad 13), .int (iv ((((n + 1) : Nat) : Int))), .ref (ad 14), .ref (ad 15), .ref (ad 16), .ref (ad 17)]) := ⟨_, rfl⟩
        rw [← hs23]
        have hf25 := (show σ22 (12) = σ13 (12) by rw [hs23, va_up_ne _ _ (by omega)]).trans hf16
        have hf26 := (show σ22 (28 + n) = σ13 (28 + n) by rw [hs23, va_up_ne _ _ (by omega)]).trans hf17
        have hf27 := (show σ22 (11) = σ13 (11) by rw [hs23, va_up_ne _ _ (by omega)]).trans hf18
        have hf28 := (show σ22 (13) = σ13 (13) by rw [hs23, va_up_ne _ _ (by omega)]).trans hf20
        have hf29 := (show σ22 (15) = σ13 (15) by rw [hs23, va_up_ne _ _ (by omega)]).trans hf21
        have hf30 : σ22 (1) = (eO 6 [.ref (ad 12), .ref (ad 13), .int (iv ((((n + 1) : Nat) : Int))), .ref (ad 14), .ref (ad 15), .ref (ad 16), .ref (ad 17)]) := by rw [hs23, va_up_self]
        refine v_iload_n hX d_Tab_add_104 3 rfl ?_
        have g1 := hTv.cl1 (σ' := σ4) (cl2 := va_up cl n k) (fun i hi => by rw [hs5, va_up_ne _ _ hi]) (by rw [hs5, va_up_self, eJ_nat])
        have g2 := g1.rC1 (σ' := σ13) (rC2 := va_up rC k (rC k ||| 2 ^ n)) (fun i hi => by rw [hs14, va_up_ne _ _ hi]) (by rw [hs14, va_up_self, eJ_nat])
        have g3 := g2.n1 (σ' := σ22) (n2 := n + 1) (fun i hi => by rw [hs23, va_up_ne _ _ hi]) (by rw [hs23, va_up_self])
        exact hret _ _ _ _ d_Tab_add_105 (by unfold ir; omega) ⟨_, rfl, g3, fun i i1 i2 i3 => (by rw [hs23, va_up_ne _ _ i1, hs14, va_up_ne _ _ (by omega), hs5, va_up_ne _ _ (by omega)]; exact hFr i (by omega) i3), rfl⟩ rfl
      · refine v_iload hX d_Tab_add_33 4 rfl ?_
        refine v_aload_n hX d_Tab_add_35 1 rfl ?_
        refine g_alenJ (i := 11) hX hj d_Tab_add_36 (by omega) ha2 ?_
        refine v_icmp_ge (tgt := 78) hX d_Tab_add_37 (by decide) (by first | assumption | exact hra _ | (unfold ir; omega)) (by first | assumption | exact hra _ | (unfold ir; omega)) (fun c37_4 => absurd c37_4 (by omega)) (fun c37_4 => ?_)
        refine v_aload_n hX d_Tab_add_40 0 rfl ?_
        refine g_get (i := 1) hX hj fl_Tab_11 d_Tab_add_41 (by omega) d1 rfl ?_
        refine v_iload_n hX d_Tab_add_44 3 rfl ?_
        refine g_aaldA (i := 12) hX hj d_Tab_add_45 (by omega) d2 rfl (by decide) (n) rfl (by omega) (if_pos (by omega)) ?_
        refine v_iload hX d_Tab_add_46 4 rfl ?_
        refine v_aload_n hX d_Tab_add_48 1 rfl ?_
        refine v_iload hX d_Tab_add_49 4 rfl ?_
        refine g_iald (i := 11) hX hj d_Tab_add_51 (by omega) ha2 (by decide) (c) rfl (by omega) ?_
        refine g_iast (i := 28 + n) hX hj d_Tab_add_52 (by omega) hrow (by decide) (c) rfl (by omega) ?_
        obtain ⟨σ31, hs32⟩ : ∃ s9, s9 = va_up σv (28 + n) (eJ G 4 (va_up (adV a (val n) c) (c) ((a c)))) := ⟨_, rfl⟩
        rw [← hs32]
        have hf33 := (show σ31 (1) = σv (1) by rw [hs32, va_up_ne _ _ (by omega)]).trans d1
        have hf34 := (show σ31 (12) = σv (12) by rw [hs32, va_up_ne _ _ (by omega)]).trans d2
        have hf36 := (show σ31 (11) = σv (11) by rw [hs32, va_up_ne _ _ (by omega)]).trans ha2
        have hf37 := (show σ31 (13) = σv (13) by rw [hs32, va_up_ne _ _ (by omega)]).trans d3
        have hf38 := (show σ31 (15) = σv (15) by rw [hs32, va_up_ne _ _ (by omega)]).trans d5
        have hf39 : σ31 (28 + n) = (eJ G 4 (va_up (adV a (val n) c) (c) ((a c)))) := by rw [hs32, va_up_self]
        have hTm : pTab G ad σ31 n (va_up val n (adV a (val n) (c + 1))) cl so rC (adK (2 ^ n) a rK c) (adL so (2 ^ n) a rL c) := by
          have h9 := hTv.val1 (show n < 24 by omega) (g := va_up (adV a (val n) c) c (a c)) (σ' := σ31) (fun i hi => by rw [hs32, va_up_ne _ _ hi]) (by rw [hs32, va_up_self])
          rw [bx_uu, adV_s] at h9
          exact h9
        have hFm : ∀ i, i ≠ 16 → (i < 24 ∨ 51 < i) → σ31 i = σ i := fun i i1 i2 => by rw [hs32, va_up_ne _ _ (by omega)]; exact hFr i i1 i2
        have tkc := tk_of (tks_iff.mp htk c (by omega))
        refine v_aload_n hX d_Tab_add_53 1 rfl ?_
        refine v_iload hX d_Tab_add_54 4 rfl ?_
        refine g_iald (i := 11) hX hj d_Tab_add_56 (by omega) hf36 (by decide) (c) rfl (by omega) ?_
        refine v_iconst hX (-1) d_Tab_add_57 ?_
        refine v_icmp_eq (tgt := 72) hX d_Tab_add_58 (by decide) (by first | assumption | exact hra _ | (unfold ir; omega)) (by first | assumption | exact hra _ | (unfold ir; omega)) (fun c58_5 => ?_) (fun c58_5 => ?_)
        · have hTn : pTab G ad σ31 n (va_up val n (adV a (val n) (c + 1))) cl so rC (adK (2 ^ n) a rK (c + 1)) (adL so (2 ^ n) a rL (c + 1)) := by rw [← adK_n (by omega), ← adL_n (by omega)]; exact hTm
          have hFn := hFm
          refine v_iincN (a := c) (n := 1) (lv' := [(4, .int (iv ((((c + 1) : Nat) : Int)))), (0, .ref (ad 1)), (1, .ref (ad 11)), (2, .int (iv (((k : Nat) : Int)))), (3, .int (iv (((n : Nat) : Int))))]) hX d_Tab_add_72 rfl 4 rfl (by decide) rfl ?_
          refine v_goto (tgt := 27) hX d_Tab_add_75 (by decide) ?_
          refine v_lv [1, 2, 3, 4, 0] rfl ?_
          exact ih_LOOP (c + 1) (σ31) (by omega) (by omega) hTn hFn
        · refine v_aload_n hX d_Tab_add_61 0 rfl ?_
          refine v_iload_n hX d_Tab_add_62 3 rfl ?_
          refine v_iload hX d_Tab_add_63 4 rfl ?_
          refine v_aload_n hX d_Tab_add_65 1 rfl ?_
          refine v_iload hX d_Tab_add_66 4 rfl ?_
          refine g_iald (i := 11) hX hj d_Tab_add_68 (by omega) hf36 (by decide) (c) rfl (by omega) ?_
          refine v_top (x' := iv (((a c).toNat : Nat) : Int)) (congrArg iv (by omega)) ?_
          refine g_callVV (As := [.int (iv (((n : Nat) : Int))), .int (iv (((c : Nat) : Int))), .int (iv ((((a c).toNat : Nat) : Int)))]) (st := []) hX hj (i := 1) (by omega) hf33 (m_Tab_enterKnown hj hTm hBv n c (a c).toNat (by omega) (by omega) (by omega) (by omega)) cl_Tab_43 d_Tab_add_69 rfl ⟨by decide, by decide⟩ ⟨by decide, by decide⟩ (Nat.le_of_ble_eq_true rfl) (fun σ41 hp43 => ?_)
          obtain ⟨hTq, hFq⟩ := hp43
          have hTn : pTab G ad σ41 n (va_up val n (adV a (val n) (c + 1))) cl so rC (adK (2 ^ n) a rK (c + 1)) (adL so (2 ^ n) a rL (c + 1)) := by rw [← adK_s (by omega), ← adL_s (by omega)]; exact hTq
          have hFn : ∀ i, i ≠ 16 → (i < 24 ∨ 51 < i) → σ41 i = σ i := fun i i1 i2 => (hFq i i1 (by omega)).trans (hFm i i1 i2)
          refine v_iincN (a := c) (n := 1) (lv' := [(4, .int (iv ((((c + 1) : Nat) : Int)))), (0, .ref (ad 1)), (1, .ref (ad 11)), (2, .int (iv (((k : Nat) : Int)))), (3, .int (iv (((n : Nat) : Int))))]) hX d_Tab_add_72 rfl 4 rfl (by decide) rfl ?_
          refine v_goto (tgt := 27) hX d_Tab_add_75 (by decide) ?_
          refine v_lv [1, 2, 3, 4, 0] rfl ?_
          exact ih_LOOP (c + 1) (σ41) (by omega) (by omega) hTn hFn
  refine v_lv [2, 3, 4, 1, 0] rfl ?_
  exact LOOP _ (0) (σ) (Nat.lt_succ_self _) (by decide) (by rw [adV_0, adK_0, adL_0, va_up_id]; exact hT) (fun _ _ _ => rfl)
