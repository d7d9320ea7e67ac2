/-! GROWING; by program -/
/-- what partIfDue does, as a step of growing -/
theorem pt_step {G : xG} {ad : Nat → Nat} {σ σ' : xF} {so rC rK : Nat → Nat} {rL : Nat → Nat → Nat} {le de wo t sz : Nat} {T : Nat → Nat → Int} {ch : Nat → Option Nat} {B0 : Int × Int × Int × Int × Int} (hTr : pTre G ad σ t sz T ch) (hI0 : lkI ad σ σ (0, B0)) (ht : t ≤ 1) (hok : gOk (sz, T, ch)) (hde : de ≤ 5) {k b ro dp : Nat} (hk : k < sz) (hb : b = 76 + 141 * t + 3 * k) (h2 : T k 2 = (ro : Int)) (h3 : T k 3 = (dp : Int)) (hp : ((T k 5 = 0 ∨ de ≤ dp ∨ 47 < sz + 2) ∧ σ' = σ) ∨ (¬ (T k 5 = 0 ∨ de ≤ dp ∨ 47 < sz + 2) ∧ ∃ (B : lkB) (σs : xF), B = lk0 so rC rK rL le ro 4 (0, B0) ∧ lkI ad σ σs B ∧ (((B.1 = 0 ∨ ¬ (wo : Int) * B.2.2.2.2.2 < 100 * B.2.2.2.2.1) ∧ σ' = σs) ∨ (¬ (B.1 = 0 ∨ ¬ (wo : Int) * B.2.2.2.2.2 < 100 * B.2.2.2.2.1) ∧ ∃ c num side : Nat, c < 4 ∧ num ≤ 100 ∧ side ≤ 1 ∧ B.2.1 = c ∧ B.2.2.1 = num ∧ B.2.2.2.1 = side ∧ σ' = va_up (va_up (va_up (va_up (va_up (va_up σs (b + 1) (eO 0 [.ref (ad (b + 2)), .int (iv B.2.1), .int (iv B.2.2.1), .int (iv B.2.2.2.1)])) (b + 2) (eO 1 [.int (iv B.2.2.2.2.1), .int (iv B.2.2.2.2.2)])) (76 + 141 * t + 3 * sz) (nodE ad (76 + 141 * t + 3 * sz) sz (fBeg rC (T sz) (kLeft rK rL ro c num side) ((dp + 1 : Nat) : Int)) none)) (76 + 141 * t + 3 * (sz + 1)) (nodE ad (76 + 141 * t + 3 * (sz + 1)) (sz + 1) (fBeg rC (T (sz + 1)) (nd ro (kLeft rK rL ro c num side)) ((dp + 1 : Nat) : Int)) none)) b (nodE ad b k (T k) (some (76 + 141 * t + 3 * sz)))) (8 + t) (eO 7 [.int (iv ((sz + 2 : Nat) : Int)), .ref (ad 1), .ref (ad 2), .ref (ad 3), .ref (ad (18 + t)), .ref (ad (76 + 141 * t))]))))) :
    gOk (kStp so rC rK rL le de wo t (sz, T, ch) k) ∧ pTre G ad σ' t (kStp so rC rK rL le de wo t (sz, T, ch) k).1 (kStp so rC rK rL le de wo t (sz, T, ch) k).2.1 (kStp so rC rK rL le de wo t (sz, T, ch) k).2.2 ∧ gFr t σ σ' ∧ lkO ad σ' := by
  have e2 : (T k 2).toNat = ro := by rw [h2]; exact Int.toNat_natCast ro
  have e3 : (T k 3).toNat = dp := by rw [h3]; exact Int.toNat_natCast dp
  rcases hp with ⟨p1, p2⟩ | ⟨p1, B, σs, hBe, hI, hp⟩
  · have hd : ¬ kDue so rC rK rL le de wo (sz, T, ch) k = true := fun q => (kDue_of q).1 (by show T k 5 = 0 ∨ de ≤ (T k 3).toNat ∨ 47 < sz + 2; rw [e3]; exact p1)
    unfold kStp
    rw [if_neg hd, p2]
    exact ⟨hok, hTr, fun _ _ _ _ _ _ _ => rfl, ⟨B0, hI0⟩⟩
  · have hE := kBest_e hBe
    rcases hp with ⟨q1, q2⟩ | ⟨q1, c, num, side, hc, hn, hs, g1, g2, g3, hf⟩
    · have hd : ¬ kDue so rC rK rL le de wo (sz, T, ch) k = true := fun q => by
        obtain ⟨-, d1, d2⟩ := kDue_of q
        have d1 : 0 < (kBest so rC rK rL le (T k 2).toNat).1 := d1
        have d2 : (wo : Int) * (kBest so rC rK rL le (T k 2).toNat).2.2.2.2.2 < 100 * (kBest so rC rK rL le (T k 2).toNat).2.2.2.2.1 := d2
        rw [e2] at d1 d2
        have e := hE.2 (by rw [hE.1]; exact d1)
        rw [← e] at d1 d2
        rcases q1 with q1 | q1
        · omega
        · exact q1 d2
      unfold kStp
      rw [if_neg hd, q2]
      exact ⟨hok, pt_sur hTr hI, fun q q4 q5 q6 q7 _ _ => hI.1 q q4 q5 q6 q7, lkI_O hI⟩
    · have b1 : 0 < B.1 := by omega
      have e := hE.2 b1
      have hd : kDue so rC rK rL le de wo (sz, T, ch) k = true := kDue_t (by show ¬ (T k 5 = 0 ∨ de ≤ (T k 3).toNat ∨ 47 < sz + 2); rw [e3]; exact p1) (by show 0 < (kBest so rC rK rL le (T k 2).toNat).1; rw [e2, ← e]; exact b1) (by show (wo : Int) * (kBest so rC rK rL le (T k 2).toNat).2.2.2.2.2 < 100 * (kBest so rC rK rL le (T k 2).toNat).2.2.2.2.1; rw [e2, ← e]; exact Classical.byContradiction fun q => q1 (Or.inr q))
      have hz : sz + 2 ≤ 47 := by omega
      have es : kStp so rC rK rL le de wo t (sz, T, ch) k = kPut rC rK rL t (sz, T, ch) k B := by
        unfold kStp
        rw [if_pos hd]
        show kPut rC rK rL t (sz, T, ch) k (kBest so rC rK rL le (T k 2).toNat) = _
        rw [e2, ← e]
      rw [es]
      have h := pt_fin (rC := rC) (rK := rK) (rL := rL) hTr hI ht hk hz hb h2 h3 g1 g2 g3 hf
      exact ⟨gOk_put hok hk hz (by show T k 3 < 5; omega), h.1, h.2.1, h.2.2⟩
theorem kItr_stop {so rC rK : Nat → Nat} {rL : Nat → Nat → Nat} {le de wo t : Nat} {s0 : gS} {k : Nat} (h : (kItr so rC rK rL le de wo t s0 k).1 ≤ k) : ∀ j, kItr so rC rK rL le de wo t s0 (k + j) = kItr so rC rK rL le de wo t s0 k
  | 0 => rfl
  | j + 1 => by
    have h1 := kItr_stop h j
    show (if k + j < (kItr so rC rK rL le de wo t s0 (k + j)).1 then _ else _) = _
    rw [h1, if_neg (by omega)]
    exact h1
theorem pt_beg {G : xG} {ad : Nat → Nat} {σ σ' : xF} {t sz : Nat} {T : Nat → Nat → Int} {ch : Nat → Option Nat} {rC : Nat → Nat} {rows : Nat} (hTr : pTre G ad σ t sz T ch) (ht : t ≤ 1) (hO : lkO ad σ) (hR : rows < 16777216)
    (hf : σ' = va_up (va_up σ (76 + 141 * t) (nodE ad (76 + 141 * t) 0 (fBeg rC (T 0) rows 0) none)) (8 + t) (eO 7 [.int (iv 1), .ref (ad 1), .ref (ad 2), .ref (ad 3), .ref (ad (18 + t)), .ref (ad (76 + 141 * t))])) :
    gOk (1, va_up T 0 (fBeg rC (T 0) rows 0), va_up ch 0 none) ∧ pTre G ad σ' t 1 (va_up T 0 (fBeg rC (T 0) rows 0)) (va_up ch 0 none) ∧ gFr t σ σ' ∧ lkO ad σ' := by
  obtain ⟨r1, r2, r3⟩ := hTr
  have out : ∀ q, q ≠ 8 + t → q ≠ 76 + 141 * t → σ' q = σ q := fun q q1 q2 => by rw [hf, va_up_ne _ _ q1, va_up_ne _ _ q2]
  refine ⟨⟨Nat.le_refl 1, (show 1 ≤ 47 by decide), fun n hn => ?_⟩, ⟨?_, ?_, fun n hn => ?_⟩, fun q q4 q5 q6 q7 q8 qr => out q q8 (by omega), lkO_up hO (out 4 (by omega) (by omega)) (out 5 (by omega) (by omega)) (out 6 (by omega) (by omega)) (out 7 (by omega) (by omega))⟩
  · have e : n = 0 := by
      have : n < 1 := hn
      omega
    subst e
    show gON (va_up T 0 (fBeg rC (T 0) rows 0) 0)
    rw [va_up_self]
    obtain ⟨f1, f2, f3⟩ := fBeg_5 rC (T 0) rows 0
    unfold gON
    rw [f1, f2]
    exact ⟨by omega, by omega, f3⟩
  · rw [hf, va_up_self]
    rfl
  · exact (out _ (by omega) (by omega)).trans r2
  · by_cases n0 : n = 0
    · subst n0
      rw [va_up_self, va_up_self]
      refine ⟨?_, ?_, ?_⟩
      · show σ' (76 + 141 * t) = _
        rw [hf, va_up_ne _ _ (by omega), va_up_self]
        rfl
      · exact (out _ (by omega) (by omega)).trans (r3 0 hn).2.1
      · exact (out _ (by omega) (by omega)).trans (r3 0 hn).2.2
    · rw [va_up_ne _ _ n0, va_up_ne _ _ n0]
      exact (r3 n hn).up (out _ (by omega) (by omega)) (out _ (by omega) (by omega)) (out _ (by omega) (by omega))
theorem gFr_tr {t : Nat} {a b c : xF} (h : gFr t a b) (h2 : gFr t b c) : gFr t a c := fun q q4 q5 q6 q7 q8 qr => (h2 q q4 q5 q6 q7 q8 qr).trans (h q q4 q5 q6 q7 q8 qr)
theorem gFr_tab {G : xG} {ad : Nat → Nat} {t : Nat} {σ σv : xF} (h : gFr t σ σv) (ht : t ≤ 1) {n : Nat} {val : Nat → Nat → Int} {cl so rC rK : Nat → Nat} {rL : Nat → Nat → Nat} (hT : pTab G ad σ n val cl so rC rK rL) : pTab G ad σv n val cl so rC rK rL := hT.up (fun i hi => h i (by omega) (by omega) (by omega) (by omega) (by omega) (by omega))

set_option maxHeartbeats 1000000 in
set_option maxRecDepth 100000 in
theorem m_Tre_grow {G : xG} {f0 : xF} {ad : Nat → Nat} (hj : adOk ad 400) {σ : xF} {n : Nat} {val : Nat → Nat → Int} {cl so rC rK : Nat → Nat} {rL : Nat → Nat → Nat} (hT : pTab G ad σ n val cl so rC rK rL) (hB : bTab n cl so rC rK rL) (hS : pSur ad σ) {le de wo : Nat} (hL : pLim σ de le wo) (hle : le ≤ 10) (hwo : wo ≤ 1000) (hde : de ≤ 5) (hO : lkO ad σ) (t : Nat) (ht : t ≤ 1) (sz : Nat) (hz : sz ≤ 47) (T : Nat → Nat → Int) (ch : Nat → Option Nat) (hTr : pTre G ad σ t sz T ch) (rows : Nat) (hR : rows < 16777216) : ∀ l, gVo l G f0 ad 400 y_Tre_grow (.code y_Tre_grow c_Tre_grow 3 none) rm_Tre_grow [.ref (ad (8 + t)), .int (iv (((rows : Nat) : Int)))] σ (fun σ' => gFr t σ σ' ∧ lkO ad σ' ∧ gOk (kItr so rC rK rL le de wo t (1, va_up T 0 (fBeg rC (T 0) rows 0), va_up ch 0 none) 47) ∧ pTre G ad σ' t (kItr so rC rK rL le de wo t (1, va_up T 0 (fBeg rC (T 0) rows 0), va_up ch 0 none) 47).1 (kItr so rC rK rL le de wo t (1, va_up T 0 (fBeg rC (T 0) rows 0), va_up ch 0 none) 47).2.1 (kItr so rC rK rL le de wo t (1, va_up T 0 (fBeg rC (T 0) rows 0), va_up ch 0 none) 47).2.2) := by
  intro l
  refine mV_of (by decide) (Nat.le_of_ble_eq_true rfl) (fun X hX hret => ?_)
  show vV G X 0 0 0 [(0, .ref (ad (8 + t))), (1, .int (iv (((rows : Nat) : Int))))] [] (ov f0 ad 400 σ)
  obtain ⟨r1, r2, r3⟩ := id hTr
  have h0 := (r3 0 (by decide)).1
  have h0 : σ (76 + 141 * t) = nodE ad (76 + 141 * t) 0 (T 0) (ch 0) := h0
  refine v_aload_n hX d_Tre_grow_0 0 rfl ?_
  refine v_aload_n hX d_Tre_grow_1 0 rfl ?_
  refine g_get (i := 8 + t) hX hj fl_Tre_32 d_Tre_grow_2 (by omega) r1 rfl ?_
  refine v_iload_n hX d_Tre_grow_5 1 rfl ?_
  refine v_iconst hX (0) d_Tre_grow_6 ?_
  refine g_callVV (As := [.ref (ad (76 + 141 * t)), .int (iv (((rows : Nat) : Int))), .int (iv (0))]) (st := []) hX hj (i := 8 + t) (by omega) r1 (m_Tre_begin hj hT hB t sz ht r1 (76 + 141 * t) 0 (by omega) (T 0) (ch 0) h0 rows hR 0) cl_Tre_40 d_Tre_grow_7 rfl ⟨by decide, by decide⟩ ⟨by decide, by decide⟩ (Nat.le_of_ble_eq_true rfl) (fun σ2 hp4 => ?_)
  have hf5 := (show σ2 (8 + t) = σ (8 + t) by rw [hp4, va_up_ne _ _ (by omega)]).trans r1
  have hf6 := (show σ2 (18 + t) = σ (18 + t) by rw [hp4, va_up_ne _ _ (by omega)]).trans r2
  refine v_aload_n hX d_Tre_grow_10 0 rfl ?_
  refine v_iconst hX (1) d_Tre_grow_11 ?_
  refine g_put (i := 8 + t) (fs' := [.int (iv (1)), .ref (ad 1), .ref (ad 2), .ref (ad 3), .ref (ad (18 + t)), .ref (ad (76 + 141 * t))]) hX hj pf_Tre_36 d_Tre_grow_12 (by omega) hf5 rfl rfl (Nat.le_of_ble_eq_true rfl) rfl ?_
  obtain ⟨σ7, hs8⟩ : ∃ s9, s9 = va_up σ2 (8 + t) (eO 7 [.int (iv (1)), .ref (ad 1), .ref (ad 2), .ref (ad 3), .ref (ad (18 + t)), .ref (ad (76 + 141 * t))]) := ⟨_, rfl⟩
  rw [← hs8]
  have hf10 := (show σ7 (18 + t) = σ2 (18 + t) by rw [hs8, va_up_ne _ _ (by omega)]).trans hf6
  have hf11 : σ7 (8 + t) = (eO 7 [.int (iv (1)), .ref (ad 1), .ref (ad 2), .ref (ad 3), .ref (ad (18 + t)), .ref (ad (76 + 141 * t))]) := by rw [hs8, va_up_self]
  refine v_iconst hX (0) d_Tre_grow_15 ?_
  refine v_istore_n (lv' := [(2, .int (iv (0))), (0, .ref (ad (8 + t))), (1, .int (iv (((rows : Nat) : Int))))]) hX d_Tre_grow_16 rfl (by decide) rfl ?_
  have hq := pt_beg (rC := rC) hTr ht hO hR (show σ7 = _ by rw [hs8, hp4])
  have LOOP : ∀ (fuel : Nat) (k : Nat) (σv : xF) (s : gS), 47 - k < fuel → (k ≤ 47) → (s = kItr so rC rK rL le de wo t (1, va_up T 0 (fBeg rC (T 0) rows 0), va_up ch 0 none) k) → (gOk s) → (pTre G ad σv t s.1 s.2.1 s.2.2) → (gFr t σ σv) → (lkO ad σv) → vV G X 0 0 17 [(0, .ref (ad (8 + t))), (1, .int (iv (((rows : Nat) : Int)))), (2, .int (iv (((k : Nat) : Int))))] [] (ov f0 ad 400 σv) := by
    intro fuel
    induction fuel with
    | zero => intro k σv s hm; exact absurd hm (Nat.not_lt_zero _)
    | succ fuel ih_LOOP =>
      intro k σv s hm hk hse hok hTv hFr hOv
      obtain ⟨v1, v2, v3⟩ := id hTv
      obtain ⟨g1, g2, g3⟩ := id hok
      refine v_iload_n hX d_Tre_grow_17 2 rfl ?_
      refine v_aload_n hX d_Tre_grow_18 0 rfl ?_
      refine g_get (i := 8 + t) hX hj fl_Tre_36 d_Tre_grow_19 (by omega) v1 rfl ?_
      refine v_icmp_ge (tgt := 47) hX d_Tre_grow_22 (by decide) (by unfold ir; omega) (by unfold ir; omega) (fun c22_1 => ?_) (fun c22_1 => ?_)
      · have e : kItr so rC rK rL le de wo t (1, va_up T 0 (fBeg rC (T 0) rows 0), va_up ch 0 none) 47 = s := by
          have e1 := kItr_stop (so := so) (rC := rC) (rK := rK) (rL := rL) (le := le) (de := de) (wo := wo) (t := t) (s0 := (1, va_up T 0 (fBeg rC (T 0) rows 0), va_up ch 0 none)) (k := k) (by rw [← hse]; omega) (47 - k)
          rw [show k + (47 - k) = 47 by omega] at e1
          rw [e1, hse]
        exact hret _ _ _ d_Tre_grow_47 ⟨_, rfl, by rw [e]; exact ⟨hFr, hOv, hok, hTv⟩⟩
      · refine v_iload_n hX d_Tre_grow_25 2 rfl ?_
        refine v_bipush hX (47) d_Tre_grow_26 rfl ?_
        refine v_icmp_ge (tgt := 47) hX d_Tre_grow_28 (by decide) (by unfold ir; omega) (by unfold ir; omega) (fun c28_2 => absurd c28_2 (by omega)) (fun c28_2 => ?_)
        have hks : k < s.1 := by omega
        obtain ⟨⟨n1, n2⟩, ⟨n3, n4⟩, n5, n6⟩ := g3 k hks
        have h2 : s.2.1 k 2 = (((s.2.1 k 2).toNat : Nat) : Int) := by omega
        have h3 : s.2.1 k 3 = (((s.2.1 k 3).toNat : Nat) : Int) := by omega
        have h5 : ir (s.2.1 k 5) := by unfold ir; omega
        obtain ⟨B0, hI0⟩ := id hOv
        refine v_aload_n hX d_Tre_grow_31 0 rfl ?_
        refine v_aload_n hX d_Tre_grow_32 0 rfl ?_
        refine g_get (i := 8 + t) hX hj fl_Tre_11 d_Tre_grow_33 (by omega) v1 rfl ?_
        refine v_iload_n hX d_Tre_grow_36 2 rfl ?_
        refine g_aald (i := 18 + t) hX hj d_Tre_grow_37 (by omega) v2 rfl (by decide) (k) rfl (by omega) (if_pos (by omega)) ?_
        refine g_callVV (As := [.ref (ad (76 + 141 * t + 3 * k))]) (st := []) hX hj (i := 8 + t) (by omega) v1 (m_Tre_partIfDue hj (gFr_tab hFr ht hT) hB ((hFr 3 (by decide) (by decide) (by decide) (by decide) (by omega) (by omega)).trans hS) ((hFr 2 (by decide) (by decide) (by decide) (by decide) (by omega) (by omega)).trans hL) hle hwo hde B0 hI0 t ht s.1 g2 s.2.1 s.2.2 hTv k (76 + 141 * t + 3 * k) hks rfl (s.2.1 k 2).toNat (s.2.1 k 3).toNat (by omega) (by omega) h2 h3 h5) cl_Tre_44 d_Tre_grow_38 rfl ⟨by decide, by decide⟩ ⟨by decide, by decide⟩ (Nat.le_of_ble_eq_true rfl) (fun σ13 hp15 => ?_)
        have hx := pt_step (so := so) (le := le) (wo := wo) hTv hI0 ht hok hde hks rfl h2 h3 hp15
        refine v_iincN (a := k) (n := 1) (lv' := [(2, .int (iv ((((k + 1) : Nat) : Int)))), (0, .ref (ad (8 + t))), (1, .int (iv (((rows : Nat) : Int))))]) hX d_Tre_grow_41 rfl 2 rfl (by decide) rfl ?_
        refine v_goto (tgt := 17) hX d_Tre_grow_44 (by decide) ?_
        refine v_lv [1, 2, 0] rfl ?_
        exact ih_LOOP (k + 1) (σ13) (kStp so rC rK rL le de wo t s k) (by omega) (by omega) (by show _ = (if k < (kItr so rC rK rL le de wo t (1, va_up T 0 (fBeg rC (T 0) rows 0), va_up ch 0 none) k).1 then _ else _); rw [← hse, if_pos (by omega)]) hx.1 hx.2.1 (gFr_tr hFr hx.2.2.1) hx.2.2.2
  refine v_lv [1, 2, 0] rfl ?_
  exact LOOP _ (0) (σ7) ((1, va_up T 0 (fBeg rC (T 0) rows 0), va_up ch 0 none)) (Nat.lt_succ_self _) (by decide) rfl hq.1 hq.2.1 hq.2.2.1 hq.2.2.2
