/-! ROW; by program -/
theorem as4_ir {g : Nat → Int} (hg : ∀ q, ir (g q)) {a b c d : Int} (ha : ir a) (hb : ir b) (hc : ir c) (hd : ir d) (q : Nat) : ir (as4 g a b c d q) := by
  unfold as4
  by_cases e3 : q = 3
  · rw [e3, va_up_self]; exact hd
  · rw [va_up_ne _ _ e3]
    by_cases e2 : q = 2
    · rw [e2, va_up_self]; exact hc
    · rw [va_up_ne _ _ e2]
      by_cases e1 : q = 1
      · rw [e1, va_up_self]; exact hb
      · rw [va_up_ne _ _ e1]
        by_cases e0 : q = 0
        · rw [e0, va_up_self]; exact ha
        · rw [va_up_ne _ _ e0]; exact hg q

set_option maxHeartbeats 1000000 in
set_option maxRecDepth 100000 in
theorem m_Bs_row {G : xG} {f0 : xF} {ad : Nat → Nat} (hj : adOk ad 400) {σ : xF} {n : Nat} {val : Nat → Nat → Int} {cl so rC rK : Nat → Nat} {rL : Nat → Nat → Nat} (hT : pTab G ad σ n val cl so rC rK rL) (hB : bTab n cl so rC rK rL) (cg lo : Int) (hBs : σ 0 = bsE ad cg lo) (g : Nat → Int) (hg : σ 11 = eJ G 4 g) (hgi : ∀ q, ir (g q)) (a b c d k : Int) (ha : ir a) (hb : ir b) (hc : ir c) (hd : ir d) (hk : ir k) : ∀ l, gI l G f0 ad 400 y_Bs_row (.code y_Bs_row c_Bs_row 6 (some (.int))) rm_Bs_row [.ref (ad 0), .int (iv (a)), .int (iv (b)), .int (iv (c)), .int (iv (d)), .int (iv (k))] σ (fun z σ' => (¬ (tks so (as4 g a b c d) = true ∧ 0 ≤ k ∧ k < 3) ∧ z = -2 ∧ σ' = va_up σ 11 (eJ G 4 (as4 g a b c d))) ∨ ((tks so (as4 g a b c d) = true ∧ 0 ≤ k ∧ k < 3) ∧ 24 ≤ n ∧ z = -4 ∧ σ' = va_up σ 11 (eJ G 4 (as4 g a b c d))) ∨ ((tks so (as4 g a b c d) = true ∧ 0 ≤ k ∧ k < 3) ∧ n < 24 ∧ pTab G ad σ' (n + 1) (va_up val n (adV (as4 g a b c d) (val n) 4)) (va_up cl n k.toNat) so (va_up rC k.toNat (rC k.toNat ||| 2 ^ n)) (adK (2 ^ n) (as4 g a b c d) rK 4) (adL so (2 ^ n) (as4 g a b c d) rL 4) ∧ σ' 0 = bsE ad 1 (-1) ∧ σ' 11 = eJ G 4 (as4 g a b c d) ∧ (∀ i, i ≠ 0 → i ≠ 11 → i ≠ 1 → (i < 12 ∨ 17 < i) → (i < 24 ∨ 51 < i) → σ' i = σ i) ∧ z = ((n : Nat) : Int))) := by
  intro l
  refine mI_of (rt := .int) (by decide) (Nat.le_of_ble_eq_true rfl) (fun X hX hret => ?_)
  show vV G X 0 0 0 [(0, .ref (ad 0)), (1, .int (iv (a))), (2, .int (iv (b))), (3, .int (iv (c))), (4, .int (iv (d))), (5, .int (iv (k)))] [] (ov f0 ad 400 σ)
  have b1 := hB.1
  have hir : ∀ q, ir ((as4 g a b c d) q) := fun q => as4_ir hgi ha hb hc hd q
  refine v_aload_n hX d_Bs_row_0 0 rfl ?_
  refine v_iload_n hX d_Bs_row_1 1 rfl ?_
  refine v_iload_n hX d_Bs_row_2 2 rfl ?_
  refine v_iload_n hX d_Bs_row_3 3 rfl ?_
  refine v_iload hX d_Bs_row_4 4 rfl ?_
  refine g_callVV (As := [.int (iv (a)), .int (iv (b)), .int (iv (c)), .int (iv (d))]) (st := []) hX hj (i := 0) (by omega) hBs (m_Bs_ask hj cg lo hBs g hg a b c d) cl_Bs_79 d_Bs_row_6 rfl ⟨by decide, by decide⟩ ⟨by decide, by decide⟩ (Nat.le_of_ble_eq_true rfl) (fun σ2 hp4 => ?_)
  have hTa : pTab G ad σ2 n val cl so rC rK rL := hT.up (fun i hi => by rw [hp4, va_up_ne _ _ (by omega)])
  have hBa : σ2 0 = bsE ad cg lo := by rw [hp4, va_up_ne _ _ (by decide)]; exact hBs
  have hga : σ2 11 = eJ G 4 (as4 g a b c d) := by rw [hp4, va_up_self]
  refine v_aload_n hX d_Bs_row_9 0 rfl ?_
  refine g_get (i := 0) hX hj fl_Bs_12 d_Bs_row_10 (by omega) hBa rfl ?_
  refine v_aload_n hX d_Bs_row_13 0 rfl ?_
  refine g_get (i := 0) hX hj fl_Bs_53 d_Bs_row_14 (by omega) hBa rfl ?_
  refine g_callVI (As := [.ref (ad 11)]) (st := []) hX hj (i := 1) (by omega) hTa.1 (m_Tab_takes hj hTa hB 11 (by decide) (as4 g a b c d) hga hir) cl_Bs_83 d_Bs_row_17 rfl ⟨by decide, by decide⟩ ⟨by decide, by decide⟩ (Nat.le_of_ble_eq_true rfl) (fun z5 σ6 hz7 hp8 => ?_)
  obtain ⟨he9, hv10⟩ := hp8
  rw [he9]
  by_cases qt : tks so (as4 g a b c d) = true
  · have z5e : z5 = 1 := hv10.trans (if_pos qt)
    subst z5e
    refine v_if_eq (tgt := 31) hX d_Bs_row_20 (by decide) (by first | assumption | (unfold ir at *; omega)) (fun c9 => absurd c9 (by omega)) (fun c9 => ?_)
    refine v_iload hX d_Bs_row_23 5 rfl ?_
    refine g_callSI (As := [.int (iv (k))]) (st := []) hX (k0_Bs_isClass (k) (by first | assumption | (unfold ir at *; omega))) cl_Bs_87 d_Bs_row_25 rfl ⟨by decide, by decide⟩ ⟨by decide, by decide⟩ (Nat.le_of_ble_eq_true rfl) (fun z11 hz12 hp13 => ?_)
    by_cases qz11 : 0 ≤ k ∧ k < 3
    · have z11e : z11 = 1 := hp13.trans (if_pos qz11)
      subst z11e
      refine v_if_ne (tgt := 34) hX d_Bs_row_28 (by decide) (by first | assumption | (unfold ir at *; omega)) (fun c9 => ?_) (fun c9 => absurd c9 (by omega))
      refine v_aload_n hX d_Bs_row_34 0 rfl ?_
      refine g_get (i := 0) hX hj fl_Bs_12 d_Bs_row_35 (by omega) hBa rfl ?_
      refine g_get (i := 1) hX hj fl_Bs_69 d_Bs_row_38 (by omega) hTa.1 rfl ?_
      refine v_bipush hX (24) d_Bs_row_41 rfl ?_
      refine v_icmp_lt (tgt := 49) hX d_Bs_row_43 (by decide) (by first | assumption | (unfold ir at *; omega)) (by first | assumption | (unfold ir at *; omega)) (fun c43_3 => ?_) (fun c43_3 => ?_)
      · refine v_aload_n hX d_Bs_row_49 0 rfl ?_
        refine g_callVV (As := []) (st := []) hX hj (i := 0) (by omega) hBa (m_Bs_noteChange hj cg lo hBa) cl_Bs_72 d_Bs_row_50 rfl ⟨by decide, by decide⟩ ⟨by decide, by decide⟩ (Nat.le_of_ble_eq_true rfl) (fun σ15 hp17 => ?_)
        have hT1 : pTab G ad σ15 n val cl so rC rK rL := hTa.up (fun i hi => by rw [hp17, va_up_ne _ _ (by omega)])
        have hB1 : σ15 0 = bsE ad 1 (-1) := by rw [hp17, va_up_self]
        have hg1 : σ15 11 = eJ G 4 (as4 g a b c d) := by rw [hp17, va_up_ne _ _ (by decide)]; exact hga
        refine v_aload_n hX d_Bs_row_53 0 rfl ?_
        refine g_get (i := 0) hX hj fl_Bs_12 d_Bs_row_54 (by omega) hB1 rfl ?_
        refine v_aload_n hX d_Bs_row_57 0 rfl ?_
        refine g_get (i := 0) hX hj fl_Bs_53 d_Bs_row_58 (by omega) hB1 rfl ?_
        refine v_iload hX d_Bs_row_61 5 rfl ?_
        refine v_eq (st' := [.int (iv (((k.toNat : Nat) : Int))), .ref (ad 11), .ref (ad 1)]) (by rw [show ((k.toNat : Nat) : Int) = k by omega]) ?_
        refine g_callVI (As := [.ref (ad 11), .int (iv (((k.toNat : Nat) : Int)))]) (st := []) hX hj (i := 1) (by omega) hT1.1 (m_Tab_add hj hT1 hB (as4 g a b c d) hg1 qt hir k.toNat (by omega) (by omega)) cl_Bs_90 d_Bs_row_63 rfl ⟨by decide, by decide⟩ ⟨by decide, by decide⟩ (Nat.le_of_ble_eq_true rfl) (fun z18 σ19 hz20 hp21 => ?_)
        obtain ⟨e1, e2, e3⟩ := hp21
        exact hret _ _ _ _ d_Bs_row_66 hz20 ⟨_, rfl, Or.inr (Or.inr ⟨⟨qt, by omega, by omega⟩, by omega, e1, (by rw [e2 0 (by decide) (by decide) (by decide)]; exact hB1), (by rw [e2 11 (by decide) (by decide) (by decide)]; exact hg1), (fun i i0 i9 i1 i2 i3 => by rw [e2 i i1 i2 i3, hp17, va_up_ne _ _ i0, hp4, va_up_ne _ _ i9]), e3⟩)⟩ rfl
      · refine v_bipush hX (-4) d_Bs_row_46 rfl ?_
        exact hret _ _ _ _ d_Bs_row_48 (by unfold ir; omega) ⟨_, rfl, Or.inr (Or.inl ⟨⟨qt, by omega, by omega⟩, by omega, rfl, hp4⟩)⟩ rfl
    · have z11e : z11 = 0 := hp13.trans (if_neg qz11)
      subst z11e
      refine v_if_ne (tgt := 34) hX d_Bs_row_28 (by decide) (by first | assumption | (unfold ir at *; omega)) (fun c9 => absurd c9 (by omega)) (fun c9 => ?_)
      refine v_bipush hX (-2) d_Bs_row_31 rfl ?_
      exact hret _ _ _ _ d_Bs_row_33 (by unfold ir; omega) ⟨_, rfl, Or.inl ⟨(fun q => by first | exact absurd q.1 qt | omega), rfl, hp4⟩⟩ rfl
  · have z5e : z5 = 0 := hv10.trans (if_neg qt)
    subst z5e
    refine v_if_eq (tgt := 31) hX d_Bs_row_20 (by decide) (by first | assumption | (unfold ir at *; omega)) (fun c9 => ?_) (fun c9 => absurd c9 (by omega))
    refine v_bipush hX (-2) d_Bs_row_31 rfl ?_
    exact hret _ _ _ _ d_Bs_row_33 (by unfold ir; omega) ⟨_, rfl, Or.inl ⟨(fun q => by first | exact absurd q.1 qt | omega), rfl, hp4⟩⟩ rfl
