/-! CLEAR, COLUMN; by program -/
set_option maxHeartbeats 1000000 in
set_option maxRecDepth 100000 in
theorem m_Bs_clear {G : xG} {f0 : xF} {ad : Nat → Nat} (hj : adOk ad 400) {σ : xF} {n : Nat} {val : Nat → Nat → Int} {cl so rC rK : Nat → Nat} {rL : Nat → Nat → Nat} (hT : pTab G ad σ n val cl so rC rK rL) (hB : bTab n cl so rC rK rL) (cg lo : Int) (hBs : σ 0 = bsE ad cg lo) : ∀ l, gI l G f0 ad 400 y_Bs_clear (.code y_Bs_clear c_Bs_clear 1 (some (.int))) rm_Bs_clear [.ref (ad 0)] σ (fun z σ' => pTab G ad σ' 0 val cl so (va_up (va_up (va_up rC 0 0) 1 0) 2 0) (zrN 4 rK) (zrL 4 rL) ∧ σ' 0 = bsE ad 1 (-1) ∧ (∀ i, i ≠ 0 → i ≠ 1 → i ≠ 15 → i ≠ 16 → (i < 24 ∨ 27 < i) → σ' i = σ i) ∧ z = ((n : Nat) : Int)) := by
  intro l
  refine mI_of (rt := .int) (by decide) (Nat.le_of_ble_eq_true rfl) (fun X hX hret => ?_)
  show vV G X 0 0 0 [(0, .ref (ad 0))] [] (ov f0 ad 400 σ)
  refine v_aload_n hX d_Bs_clear_0 0 rfl ?_
  refine g_callVV (As := []) (st := []) hX hj (i := 0) (by omega) hBs (m_Bs_noteChange hj cg lo hBs) cl_Bs_72 d_Bs_clear_1 rfl ⟨by decide, by decide⟩ ⟨by decide, by decide⟩ (Nat.le_of_ble_eq_true rfl) (fun σ2 hp4 => ?_)
  have hT1 : pTab G ad σ2 n val cl so rC rK rL := hT.up (fun i hi => by rw [hp4, va_up_ne _ _ (by omega)])
  have hB1 : σ2 0 = bsE ad 1 (-1) := by rw [hp4, va_up_self]
  refine v_aload_n hX d_Bs_clear_4 0 rfl ?_
  refine g_get (i := 0) hX hj fl_Bs_12 d_Bs_clear_5 (by omega) hB1 rfl ?_
  refine g_callVI (As := []) (st := []) hX hj (i := 1) (by omega) hT1.1 (m_Tab_removeAll hj hT1 hB) cl_Bs_94 d_Bs_clear_8 rfl ⟨by decide, by decide⟩ ⟨by decide, by decide⟩ (Nat.le_of_ble_eq_true rfl) (fun z5 σ6 hz7 hp8 => ?_)
  obtain ⟨e1, e2, e3⟩ := hp8
  exact hret _ _ _ _ d_Bs_clear_11 hz7 ⟨_, rfl, e1, (by rw [e2 0 (by decide) (by decide) (by decide) (by decide)]; exact hB1), (fun i i0 i1 i2 i3 i4 => by rw [e2 i i1 i2 i3 i4, hp4, va_up_ne _ _ i0]), e3⟩ rfl

set_option maxHeartbeats 1000000 in
set_option maxRecDepth 100000 in
theorem m_Bs_column {G : xG} {f0 : xF} {ad : Nat → Nat} (hj : adOk ad 400) {σ : xF} {n : Nat} {val : Nat → Nat → Int} {cl so rC rK : Nat → Nat} {rL : Nat → Nat → Nat} (hT : pTab G ad σ n val cl so rC rK rL) (hB : bTab n cl so rC rK rL) (cg lo : Int) (hBs : σ 0 = bsE ad cg lo) (c s : Int) (hc : ir c) (hs : ir s) : ∀ l, gI l G f0 ad 400 y_Bs_column (.code y_Bs_column c_Bs_column 3 (some (.int))) rm_Bs_column [.ref (ad 0), .int (iv (c)), .int (iv (s))] σ (fun z σ' => (¬ (0 ≤ c ∧ c < 4) ∧ z = -1 ∧ σ' = σ) ∨ ((0 ≤ c ∧ c < 4) ∧ ¬ (s = 0 ∨ s = 1) ∧ z = -2 ∧ σ' = σ) ∨ ((0 ≤ c ∧ c < 4) ∧ (s = 0 ∨ s = 1) ∧ 0 < n ∧ z = -3 ∧ σ' = σ) ∨ ((0 ≤ c ∧ c < 4) ∧ (s = 0 ∨ s = 1) ∧ n = 0 ∧ pTab G ad σ' n val cl (va_up so c.toNat s.toNat) rC rK rL ∧ σ' 0 = bsE ad 1 (-1) ∧ (∀ i, i ≠ 0 → i ≠ 14 → σ' i = σ i) ∧ z = ((so c.toNat : Nat) : Int))) := by
  intro l
  refine mI_of (rt := .int) (by decide) (Nat.le_of_ble_eq_true rfl) (fun X hX hret => ?_)
  show vV G X 0 0 0 [(0, .ref (ad 0)), (1, .int (iv (c))), (2, .int (iv (s)))] [] (ov f0 ad 400 σ)
  have b1 := hB.1
  refine v_iload_n hX d_Bs_column_0 1 rfl ?_
  refine g_callSI (As := [.int (iv (c))]) (st := []) hX (k0_Bs_isColumn (c) (by first | assumption | (unfold ir at *; omega))) cl_Bs_65 d_Bs_column_1 rfl ⟨by decide, by decide⟩ ⟨by decide, by decide⟩ (Nat.le_of_ble_eq_true rfl) (fun z1 hz2 hp3 => ?_)
  by_cases qz1 : 0 ≤ c ∧ c < 4
  · have z1e : z1 = 1 := hp3.trans (if_pos qz1)
    subst z1e
    refine v_if_ne (tgt := 9) hX d_Bs_column_4 (by decide) (by first | assumption | (unfold ir at *; omega)) (fun c9 => ?_) (fun c9 => absurd c9 (by omega))
    refine v_iload_n hX d_Bs_column_9 2 rfl ?_
    refine v_if_eq (tgt := 21) hX d_Bs_column_10 (by decide) (by first | assumption | (unfold ir at *; omega)) (fun c10_2 => ?_) (fun c10_2 => ?_)
    · refine v_aload_n hX d_Bs_column_21 0 rfl ?_
      refine g_get (i := 0) hX hj fl_Bs_12 d_Bs_column_22 (by omega) hBs rfl ?_
      refine g_get (i := 1) hX hj fl_Bs_69 d_Bs_column_25 (by omega) hT.1 rfl ?_
      refine v_if_le (tgt := 34) hX d_Bs_column_28 (by decide) (by first | assumption | (unfold ir at *; omega)) (fun c28_3 => ?_) (fun c28_3 => ?_)
      · refine v_aload_n hX d_Bs_column_34 0 rfl ?_
        refine g_callVV (As := []) (st := []) hX hj (i := 0) (by omega) hBs (m_Bs_noteChange hj cg lo hBs) cl_Bs_72 d_Bs_column_35 rfl ⟨by decide, by decide⟩ ⟨by decide, by decide⟩ (Nat.le_of_ble_eq_true rfl) (fun σ5 hp7 => ?_)
        have hT1 : pTab G ad σ5 n val cl so rC rK rL := hT.up (fun i hi => by rw [hp7, va_up_ne _ _ (by omega)])
        have hB1 : σ5 0 = bsE ad 1 (-1) := by rw [hp7, va_up_self]
        refine v_aload_n hX d_Bs_column_38 0 rfl ?_
        refine g_get (i := 0) hX hj fl_Bs_12 d_Bs_column_39 (by omega) hB1 rfl ?_
        refine v_iload_n hX d_Bs_column_42 1 rfl ?_
        refine v_iload_n hX d_Bs_column_43 2 rfl ?_
        refine v_eq (st' := [.int (iv (((s.toNat : Nat) : Int))), .int (iv (((c.toNat : Nat) : Int))), .ref (ad 1)]) (by rw [show ((s.toNat : Nat) : Int) = s by omega, show ((c.toNat : Nat) : Int) = c by omega]) ?_
        refine g_callVI (As := [.int (iv (((c.toNat : Nat) : Int))), .int (iv (((s.toNat : Nat) : Int)))]) (st := []) hX hj (i := 1) (by omega) hT1.1 (m_Tab_changeSort hj hT1 hB c.toNat s.toNat (by omega) (by omega)) cl_Bs_75 d_Bs_column_44 rfl ⟨by decide, by decide⟩ ⟨by decide, by decide⟩ (Nat.le_of_ble_eq_true rfl) (fun z8 σ9 hz10 hp11 => ?_)
        obtain ⟨e1, e2, e3⟩ := hp11
        exact hret _ _ _ _ d_Bs_column_47 hz10 ⟨_, rfl, Or.inr (Or.inr (Or.inr ⟨by omega, by omega, by omega, e1, (by rw [e2 0 (by decide)]; exact hB1), (fun i i0 i1 => by rw [e2 i i1, hp7, va_up_ne _ _ i0]), e3⟩))⟩ rfl
      · refine v_bipush hX (-3) d_Bs_column_31 rfl ?_
        exact hret _ _ _ _ d_Bs_column_33 (by unfold ir; omega) ⟨_, rfl, Or.inr (Or.inr (Or.inl ⟨by omega, by omega, by omega, rfl, rfl⟩))⟩ rfl
    · refine v_iload_n hX d_Bs_column_13 2 rfl ?_
      refine v_iconst hX (1) d_Bs_column_14 ?_
      refine v_icmp_eq (tgt := 21) hX d_Bs_column_15 (by decide) (by first | assumption | (unfold ir at *; omega)) (by first | assumption | (unfold ir at *; omega)) (fun c15_4 => ?_) (fun c15_4 => ?_)
      · refine v_aload_n hX d_Bs_column_21 0 rfl ?_
        refine g_get (i := 0) hX hj fl_Bs_12 d_Bs_column_22 (by omega) hBs rfl ?_
        refine g_get (i := 1) hX hj fl_Bs_69 d_Bs_column_25 (by omega) hT.1 rfl ?_
        refine v_if_le (tgt := 34) hX d_Bs_column_28 (by decide) (by first | assumption | (unfold ir at *; omega)) (fun c28_5 => ?_) (fun c28_5 => ?_)
        · refine v_aload_n hX d_Bs_column_34 0 rfl ?_
          refine g_callVV (As := []) (st := []) hX hj (i := 0) (by omega) hBs (m_Bs_noteChange hj cg lo hBs) cl_Bs_72 d_Bs_column_35 rfl ⟨by decide, by decide⟩ ⟨by decide, by decide⟩ (Nat.le_of_ble_eq_true rfl) (fun σ13 hp15 => ?_)
          have hT1 : pTab G ad σ13 n val cl so rC rK rL := hT.up (fun i hi => by rw [hp15, va_up_ne _ _ (by omega)])
          have hB1 : σ13 0 = bsE ad 1 (-1) := by rw [hp15, va_up_self]
          refine v_aload_n hX d_Bs_column_38 0 rfl ?_
          refine g_get (i := 0) hX hj fl_Bs_12 d_Bs_column_39 (by omega) hB1 rfl ?_
          refine v_iload_n hX d_Bs_column_42 1 rfl ?_
          refine v_iload_n hX d_Bs_column_43 2 rfl ?_
          refine v_eq (st' := [.int (iv (((s.toNat : Nat) : Int))), .int (iv (((c.toNat : Nat) : Int))), .ref (ad 1)]) (by rw [show ((s.toNat : Nat) : Int) = s by omega, show ((c.toNat : Nat) : Int) = c by omega]) ?_
          refine g_callVI (As := [.int (iv (((c.toNat : Nat) : Int))), .int (iv (((s.toNat : Nat) : Int)))]) (st := []) hX hj (i := 1) (by omega) hT1.1 (m_Tab_changeSort hj hT1 hB c.toNat s.toNat (by omega) (by omega)) cl_Bs_75 d_Bs_column_44 rfl ⟨by decide, by decide⟩ ⟨by decide, by decide⟩ (Nat.le_of_ble_eq_true rfl) (fun z16 σ17 hz18 hp19 => ?_)
          obtain ⟨e1, e2, e3⟩ := hp19
          exact hret _ _ _ _ d_Bs_column_47 hz18 ⟨_, rfl, Or.inr (Or.inr (Or.inr ⟨by omega, by omega, by omega, e1, (by rw [e2 0 (by decide)]; exact hB1), (fun i i0 i1 => by rw [e2 i i1, hp15, va_up_ne _ _ i0]), e3⟩))⟩ rfl
        · refine v_bipush hX (-3) d_Bs_column_31 rfl ?_
          exact hret _ _ _ _ d_Bs_column_33 (by unfold ir; omega) ⟨_, rfl, Or.inr (Or.inr (Or.inl ⟨by omega, by omega, by omega, rfl, rfl⟩))⟩ rfl
      · refine v_bipush hX (-2) d_Bs_column_18 rfl ?_
        exact hret _ _ _ _ d_Bs_column_20 (by unfold ir; omega) ⟨_, rfl, Or.inr (Or.inl ⟨by omega, by omega, rfl, rfl⟩)⟩ rfl
  · have z1e : z1 = 0 := hp3.trans (if_neg qz1)
    subst z1e
    refine v_if_ne (tgt := 9) hX d_Bs_column_4 (by decide) (by first | assumption | (unfold ir at *; omega)) (fun c9 => absurd c9 (by omega)) (fun c9 => ?_)
    refine v_iconst hX (-1) d_Bs_column_7 ?_
    exact hret _ _ _ _ d_Bs_column_8 (by unfold ir; omega) ⟨_, rfl, Or.inl ⟨by omega, rfl, rfl⟩⟩ rfl
