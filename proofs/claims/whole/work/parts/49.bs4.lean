/-! CUTS; by program -/
set_option maxHeartbeats 1000000 in
set_option maxRecDepth 100000 in
theorem m_Bs_cuts {G : xG} {f0 : xF} {ad : Nat → Nat} (hj : adOk ad 400) {σ : xF} {n : Nat} {val : Nat → Nat → Int} {cl so rC rK : Nat → Nat} {rL : Nat → Nat → Nat} (hT : pTab G ad σ n val cl so rC rK rL) (hB : bTab n cl so rC rK rL) (hS : pSur ad σ) {le de wo : Nat} (hL : pLim σ de le wo) (hle : le ≤ 10) (cg lo : Int) (hBs : σ 0 = bsE ad cg lo) (B0 : Int × Int × Int × Int × Int) (hI0 : lkI ad σ σ (0, B0)) : ∀ l, gI l G f0 ad 400 y_Bs_cuts (.code y_Bs_cuts c_Bs_cuts 1 (some (.int))) rm_Bs_cuts [.ref (ad 0)] σ (fun z σ' => ∃ B, B = lk0 so rC rK rL le (2 ^ n - 1) 4 (0, B0) ∧ z = ((B.1 : Nat) : Int) ∧ lkI ad σ σ' B) := by
  intro l
  refine mI_of (rt := .int) (by decide) (Nat.le_of_ble_eq_true rfl) (fun X hX hret => ?_)
  show vV G X 0 0 0 [(0, .ref (ad 0))] [] (ov f0 ad 400 σ)
  have hR : 2 ^ n - 1 < 16777216 := by have h3 : 2 ^ n ≤ 2 ^ 24 := Nat.pow_le_pow_right (by decide) hB.1; omega
  refine v_aload_n hX d_Bs_cuts_0 0 rfl ?_
  refine g_get (i := 0) hX hj fl_Bs_28 d_Bs_cuts_1 (by omega) hBs rfl ?_
  refine v_aload_n hX d_Bs_cuts_4 0 rfl ?_
  refine g_get (i := 0) hX hj fl_Bs_12 d_Bs_cuts_5 (by omega) hBs rfl ?_
  refine g_callVI (As := []) (st := [.ref (ad 3)]) hX hj (i := 1) (by omega) hT.1 (m_Tab_allRows hj hT hB ) cl_Bs_166 d_Bs_cuts_8 rfl ⟨by decide, by decide⟩ ⟨by decide, by decide⟩ (Nat.le_of_ble_eq_true rfl) (fun z1 σ2 hz3 hp4 => ?_)
  obtain ⟨he5, hv6⟩ := hp4
  rw [he5]
  subst hv6
  refine g_callVI (As := [.int (iv ((((2 ^ n - 1) : Nat) : Int)))]) (st := []) hX hj (i := 3) (by omega) hS (m_Sur_look hj hT hB hS hL hle B0 hI0 (2 ^ n - 1) hR) cl_Bs_169 d_Bs_cuts_11 rfl ⟨by decide, by decide⟩ ⟨by decide, by decide⟩ (Nat.le_of_ble_eq_true rfl) (fun z7 σ8 hz9 hp10 => ?_)
  obtain ⟨B, hBe, hv, hI⟩ := hp10
  subst hv
  exact hret _ _ _ _ d_Bs_cuts_14 hz9 ⟨_, rfl, B, hBe, rfl, hI⟩ rfl
