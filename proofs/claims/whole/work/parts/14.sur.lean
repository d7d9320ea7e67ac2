/-! THE SURVEY; by program -/
set_option maxHeartbeats 1000000 in
set_option maxRecDepth 100000 in
theorem m_Sur_measure {G : xG} {f0 : xF} {ad : Nat → Nat} (hj : adOk ad 400) {σ : xF} {n : Nat} {val : Nat → Nat → Int} {cl so rC rK : Nat → Nat} {rL : Nat → Nat → Nat} (hT : pTab G ad σ n val cl so rC rK rL) (hB : bTab n cl so rC rK rL) (hS : pSur ad σ) {le de wo : Nat} (hL : pLim σ de le wo) (hle : le ≤ 10) (x0 x1 x2 u v : Int) (hc4 : pCut ad σ 4 5 x0 x1 x2) (hf5 : pFra σ 5 u v) (rows c num side : Nat) (hR : rows < 16777216) (hc : c < 4) (hn : num ≤ 100) (hs : side ≤ 1) : ∀ l, gI l G f0 ad 400 y_Sur_measure (.code y_Sur_measure c_Sur_measure 12 (some (.boolean))) rm_Sur_measure [.ref (ad 3), .int (iv (((rows : Nat) : Int))), .int (iv (((c : Nat) : Int))), .int (iv (((num : Nat) : Int))), .int (iv (((side : Nat) : Int)))] σ (fun z σ' => (kMay rK rL le rows c num side = true ∧ z = 1 ∧ σ' = va_up (va_up σ 4 (eO 0 [.ref (ad 5), .int (iv c), .int (iv num), .int (iv side)])) 5 (eO 1 [.int (iv (kAb rC rK rL rows c num side)), .int (iv ((kBe rK rL rows c num side : Nat) : Int))])) ∨ (¬ kMay rK rL le rows c num side = true ∧ z = 0 ∧ σ' = σ)) := by
  intro l
  refine mI_of (rt := .boolean) (by decide) (Nat.le_of_ble_eq_true rfl) (fun X hX hret => ?_)
  show vV G X 0 0 0 [(0, .ref (ad 3)), (1, .int (iv (((rows : Nat) : Int)))), (2, .int (iv (((c : Nat) : Int)))), (3, .int (iv (((num : Nat) : Int)))), (4, .int (iv (((side : Nat) : Int))))] [] (ov f0 ad 400 σ)
  have hLl : (kLeft rK rL rows c num side) < 16777216 := kLeft_lt hR
  have hRr : (nd rows (kLeft rK rL rows c num side)) < 16777216 := Nat.lt_of_le_of_lt (nd_le _ _) hR
  have cL := cnt_le (kLeft rK rL rows c num side)
  have cR := cnt_le (nd rows (kLeft rK rL rows c num side))
  refine v_iload hX d_Sur_measure_0 4 rfl ?_
  refine v_iconst hX (1) d_Sur_measure_2 ?_
  refine v_icmp_ne (tgt := 20) hX d_Sur_measure_3 (by decide) (by unfold ir; omega) (by unfold ir; omega) (fun c3_1 => ?_) (fun c3_1 => ?_)
  · refine v_aload_n hX d_Sur_measure_20 0 rfl ?_
    refine g_get (i := 3) hX hj fl_Sur_21 d_Sur_measure_21 (by omega) hS rfl ?_
    refine v_iload_n hX d_Sur_measure_24 1 rfl ?_
    refine v_iload_n hX d_Sur_measure_25 2 rfl ?_
    refine v_iload_n hX d_Sur_measure_26 3 rfl ?_
    refine v_iload hX d_Sur_measure_27 4 rfl ?_
    refine g_callVI (As := [.int (iv (((rows : Nat) : Int))), .int (iv (((c : Nat) : Int))), .int (iv (((num : Nat) : Int))), .int (iv (((side : Nat) : Int)))]) (st := []) hX hj (i := 1) (by omega) hT.1 (m_Tab_leftOf hj hT hB rows c num side hR hc hn hs) cl_Sur_61 d_Sur_measure_29 rfl ⟨by decide, by decide⟩ ⟨by decide, by decide⟩ (Nat.le_of_ble_eq_true rfl) (fun z1 σ2 hz3 hp4 => ?_)
    obtain ⟨he5, hv6⟩ := hp4
    rw [he5]
    subst hv6
    refine v_istore (lv' := [(5, .int (iv ((((kLeft rK rL rows c num side) : Nat) : Int)))), (0, .ref (ad 3)), (1, .int (iv (((rows : Nat) : Int)))), (2, .int (iv (((c : Nat) : Int)))), (3, .int (iv (((num : Nat) : Int)))), (4, .int (iv (((side : Nat) : Int))))]) hX d_Sur_measure_32 (by decide) rfl ?_
    refine v_iload_n hX d_Sur_measure_34 2 rfl ?_
    refine v_iload hX d_Sur_measure_35 0 rfl ?_
    refine v_iconst hX (-1) d_Sur_measure_37 ?_
    refine v_ixor (z := (-1 - (((kLeft rK rL rows c num side) : Nat) : Int))) hX d_Sur_measure_38 (iv_not ((kLeft rK rL rows c num side))) ?_
    refine v_iand (z := (((nd rows (kLeft rK rL rows c num side)) : Nat) : Int)) hX d_Sur_measure_39 (iv_andnot (rows) ((kLeft rK rL rows c num side))) ?_
    refine v_istore (lv' := [(6, .int (iv ((((nd rows (kLeft rK rL rows c num side)) : Nat) : Int)))), (5, .int (iv ((((kLeft rK rL rows c num side) : Nat) : Int)))), (0, .ref (ad 3)), (1, .int (iv (((rows : Nat) : Int)))), (2, .int (iv (((c : Nat) : Int)))), (3, .int (iv (((num : Nat) : Int)))), (4, .int (iv (((side : Nat) : Int))))]) hX d_Sur_measure_40 (by decide) rfl ?_
    refine v_iload hX d_Sur_measure_42 1 rfl ?_
    refine g_callSI (As := [.int (iv ((((kLeft rK rL rows c num side) : Nat) : Int)))]) (st := []) hX (k0_Int_bitCount (kLeft rK rL rows c num side) (by first | exact hLl | exact hRr)) cl_Sur_65 d_Sur_measure_44 rfl ⟨by decide, by decide⟩ ⟨by decide, by decide⟩ (Nat.le_of_ble_eq_true rfl) (fun z7 hz8 hp9 => ?_)
    subst hp9
    refine v_istore (lv' := [(7, .int (iv ((((cnt (kLeft rK rL rows c num side)) : Nat) : Int)))), (6, .int (iv ((((nd rows (kLeft rK rL rows c num side)) : Nat) : Int)))), (5, .int (iv ((((kLeft rK rL rows c num side) : Nat) : Int)))), (0, .ref (ad 3)), (1, .int (iv (((rows : Nat) : Int)))), (2, .int (iv (((c : Nat) : Int)))), (3, .int (iv (((num : Nat) : Int)))), (4, .int (iv (((side : Nat) : Int))))]) hX d_Sur_measure_47 (by decide) rfl ?_
    refine v_iload hX d_Sur_measure_49 1 rfl ?_
    refine g_callSI (As := [.int (iv ((((nd rows (kLeft rK rL rows c num side)) : Nat) : Int)))]) (st := []) hX (k0_Int_bitCount (nd rows (kLeft rK rL rows c num side)) (by first | exact hLl | exact hRr)) cl_Sur_65 d_Sur_measure_51 rfl ⟨by decide, by decide⟩ ⟨by decide, by decide⟩ (Nat.le_of_ble_eq_true rfl) (fun z10 hz11 hp12 => ?_)
    subst hp12
    refine v_istore (lv' := [(8, .int (iv ((((cnt (nd rows (kLeft rK rL rows c num side))) : Nat) : Int)))), (7, .int (iv ((((cnt (kLeft rK rL rows c num side)) : Nat) : Int)))), (6, .int (iv ((((nd rows (kLeft rK rL rows c num side)) : Nat) : Int)))), (5, .int (iv ((((kLeft rK rL rows c num side) : Nat) : Int)))), (0, .ref (ad 3)), (1, .int (iv (((rows : Nat) : Int)))), (2, .int (iv (((c : Nat) : Int)))), (3, .int (iv (((num : Nat) : Int)))), (4, .int (iv (((side : Nat) : Int))))]) hX d_Sur_measure_54 (by decide) rfl ?_
    refine v_iload hX d_Sur_measure_56 1 rfl ?_
    refine v_aload_n hX d_Sur_measure_58 4 rfl ?_
    refine g_get (i := 3) hX hj fl_Sur_25 d_Sur_measure_59 (by omega) hS rfl ?_
    refine g_get (i := 2) hX hj fl_Sur_71 d_Sur_measure_62 (by omega) hL rfl ?_
    refine v_icmp_lt (tgt := 80) hX d_Sur_measure_65 (by decide) (by unfold ir; omega) (by unfold ir; omega) (fun c65_2 => ?_) (fun c65_2 => ?_)
    · refine v_iconst hX (0) d_Sur_measure_80 ?_
      exact hret _ _ _ _ d_Sur_measure_81 (by unfold ir; omega) ⟨_, rfl, Or.inr ⟨fun q => by obtain ⟨q1, q2, q3⟩ := kMay_of q; omega, rfl, rfl⟩⟩ rfl
    · refine v_iload hX d_Sur_measure_68 0 rfl ?_
      refine v_aload_n hX d_Sur_measure_70 4 rfl ?_
      refine g_get (i := 3) hX hj fl_Sur_25 d_Sur_measure_71 (by omega) hS rfl ?_
      refine g_get (i := 2) hX hj fl_Sur_71 d_Sur_measure_74 (by omega) hL rfl ?_
      refine v_icmp_ge (tgt := 82) hX d_Sur_measure_77 (by decide) (by unfold ir; omega) (by unfold ir; omega) (fun c77_3 => ?_) (fun c77_3 => ?_)
      · refine v_iload hX d_Sur_measure_82 1 rfl ?_
        refine v_iload hX d_Sur_measure_84 0 rfl ?_
        refine v_iaddN (a := (cnt (kLeft rK rL rows c num side))) (b := (cnt (nd rows (kLeft rK rL rows c num side)))) hX d_Sur_measure_86 ?_
        refine v_istore (lv' := [(9, .int (iv (((((cnt (kLeft rK rL rows c num side)) + (cnt (nd rows (kLeft rK rL rows c num side)))) : Nat) : Int)))), (8, .int (iv ((((cnt (nd rows (kLeft rK rL rows c num side))) : Nat) : Int)))), (7, .int (iv ((((cnt (kLeft rK rL rows c num side)) : Nat) : Int)))), (6, .int (iv ((((nd rows (kLeft rK rL rows c num side)) : Nat) : Int)))), (5, .int (iv ((((kLeft rK rL rows c num side) : Nat) : Int)))), (0, .ref (ad 3)), (1, .int (iv (((rows : Nat) : Int)))), (2, .int (iv (((c : Nat) : Int)))), (3, .int (iv (((num : Nat) : Int)))), (4, .int (iv (((side : Nat) : Int))))]) hX d_Sur_measure_87 (by decide) rfl ?_
        refine v_aload_n hX d_Sur_measure_89 5 rfl ?_
        refine g_get (i := 3) hX hj fl_Sur_21 d_Sur_measure_90 (by omega) hS rfl ?_
        refine v_iload hX d_Sur_measure_93 4 rfl ?_
        refine g_callVI (As := [.int (iv ((((kLeft rK rL rows c num side) : Nat) : Int)))]) (st := []) hX hj (i := 1) (by omega) hT.1 (m_Tab_squaresOf hj hT hB (kLeft rK rL rows c num side) (by first | exact hR | exact hLl | exact hRr)) cl_Sur_77 d_Sur_measure_95 rfl ⟨by decide, by decide⟩ ⟨by decide, by decide⟩ (Nat.le_of_ble_eq_true rfl) (fun z13 σ14 hz15 hp16 => ?_)
        obtain ⟨he17, hv18⟩ := hp16
        rw [he17]
        subst hv18
        refine v_iload hX d_Sur_measure_98 1 rfl ?_
        refine v_imulN (a := (kSq rC (kLeft rK rL rows c num side))) (b := (cnt (nd rows (kLeft rK rL rows c num side)))) hX d_Sur_measure_100 ?_
        refine v_aload_n hX d_Sur_measure_101 5 rfl ?_
        refine g_get (i := 3) hX hj fl_Sur_21 d_Sur_measure_102 (by omega) hS rfl ?_
        refine v_iload hX d_Sur_measure_105 3 rfl ?_
        refine g_callVI (As := [.int (iv ((((nd rows (kLeft rK rL rows c num side)) : Nat) : Int)))]) (st := [.int (iv (((((kSq rC (kLeft rK rL rows c num side)) * (cnt (nd rows (kLeft rK rL rows c num side)))) : Nat) : Int)))]) hX hj (i := 1) (by omega) hT.1 (m_Tab_squaresOf hj hT hB (nd rows (kLeft rK rL rows c num side)) (by first | exact hR | exact hLl | exact hRr)) cl_Sur_77 d_Sur_measure_107 rfl ⟨by decide, by decide⟩ ⟨by decide, by decide⟩ (Nat.le_of_ble_eq_true rfl) (fun z19 σ20 hz21 hp22 => ?_)
        obtain ⟨he23, hv24⟩ := hp22
        rw [he23]
        subst hv24
        refine v_iload hX d_Sur_measure_110 2 rfl ?_
        refine v_imulN (a := (kSq rC (nd rows (kLeft rK rL rows c num side)))) (b := (cnt (kLeft rK rL rows c num side))) hX d_Sur_measure_112 ?_
        refine v_iaddN (a := ((kSq rC (kLeft rK rL rows c num side)) * (cnt (nd rows (kLeft rK rL rows c num side))))) (b := ((kSq rC (nd rows (kLeft rK rL rows c num side))) * (cnt (kLeft rK rL rows c num side)))) hX d_Sur_measure_113 ?_
        refine v_istore (lv' := [(10, .int (iv ((((((kSq rC (kLeft rK rL rows c num side)) * (cnt (nd rows (kLeft rK rL rows c num side)))) + ((kSq rC (nd rows (kLeft rK rL rows c num side))) * (cnt (kLeft rK rL rows c num side)))) : Nat) : Int)))), (9, .int (iv (((((cnt (kLeft rK rL rows c num side)) + (cnt (nd rows (kLeft rK rL rows c num side)))) : Nat) : Int)))), (8, .int (iv ((((cnt (nd rows (kLeft rK rL rows c num side))) : Nat) : Int)))), (7, .int (iv ((((cnt (kLeft rK rL rows c num side)) : Nat) : Int)))), (6, .int (iv ((((nd rows (kLeft rK rL rows c num side)) : Nat) : Int)))), (5, .int (iv ((((kLeft rK rL rows c num side) : Nat) : Int)))), (0, .ref (ad 3)), (1, .int (iv (((rows : Nat) : Int)))), (2, .int (iv (((c : Nat) : Int)))), (3, .int (iv (((num : Nat) : Int)))), (4, .int (iv (((side : Nat) : Int))))]) hX d_Sur_measure_114 (by decide) rfl ?_
        refine v_aload_n hX d_Sur_measure_116 6 rfl ?_
        refine g_get (i := 3) hX hj fl_Sur_21 d_Sur_measure_117 (by omega) hS rfl ?_
        refine v_iload_n hX d_Sur_measure_120 7 rfl ?_
        refine g_callVI (As := [.int (iv (((rows : Nat) : Int)))]) (st := []) hX hj (i := 1) (by omega) hT.1 (m_Tab_squaresOf hj hT hB rows (by first | exact hR | exact hLl | exact hRr)) cl_Sur_77 d_Sur_measure_121 rfl ⟨by decide, by decide⟩ ⟨by decide, by decide⟩ (Nat.le_of_ble_eq_true rfl) (fun z25 σ26 hz27 hp28 => ?_)
        obtain ⟨he29, hv30⟩ := hp28
        rw [he29]
        subst hv30
        refine v_iload hX d_Sur_measure_124 3 rfl ?_
        refine v_imulN (a := (kSq rC rows)) (b := (cnt (kLeft rK rL rows c num side))) hX d_Sur_measure_126 ?_
        refine v_iload hX d_Sur_measure_127 2 rfl ?_
        refine v_imulN (a := ((kSq rC rows) * (cnt (kLeft rK rL rows c num side)))) (b := (cnt (nd rows (kLeft rK rL rows c num side)))) hX d_Sur_measure_129 ?_
        refine v_istore (lv' := [(11, .int (iv ((((((kSq rC rows) * (cnt (kLeft rK rL rows c num side))) * (cnt (nd rows (kLeft rK rL rows c num side)))) : Nat) : Int)))), (10, .int (iv ((((((kSq rC (kLeft rK rL rows c num side)) * (cnt (nd rows (kLeft rK rL rows c num side)))) + ((kSq rC (nd rows (kLeft rK rL rows c num side))) * (cnt (kLeft rK rL rows c num side)))) : Nat) : Int)))), (9, .int (iv (((((cnt (kLeft rK rL rows c num side)) + (cnt (nd rows (kLeft rK rL rows c num side)))) : Nat) : Int)))), (8, .int (iv ((((cnt (nd rows (kLeft rK rL rows c num side))) : Nat) : Int)))), (7, .int (iv ((((cnt (kLeft rK rL rows c num side)) : Nat) : Int)))), (6, .int (iv ((((nd rows (kLeft rK rL rows c num side)) : Nat) : Int)))), (5, .int (iv ((((kLeft rK rL rows c num side) : Nat) : Int)))), (0, .ref (ad 3)), (1, .int (iv (((rows : Nat) : Int)))), (2, .int (iv (((c : Nat) : Int)))), (3, .int (iv (((num : Nat) : Int)))), (4, .int (iv (((side : Nat) : Int))))]) hX d_Sur_measure_130 (by decide) rfl ?_
        refine v_aload_n hX d_Sur_measure_132 7 rfl ?_
        refine g_get (i := 3) hX hj fl_Sur_12 d_Sur_measure_133 (by omega) hS rfl ?_
        refine v_iload_n hX d_Sur_measure_136 9 rfl ?_
        refine v_iload_n hX d_Sur_measure_137 10 rfl ?_
        refine v_iload hX d_Sur_measure_138 11 rfl ?_
        refine g_callVV (As := [.int (iv (((c : Nat) : Int))), .int (iv (((num : Nat) : Int))), .int (iv (((side : Nat) : Int)))]) (st := []) hX hj (i := 4) (by omega) hc4 (m_Cut_become hj 4 5 (by decide) x0 x1 x2 hc4 c num side) cl_Sur_80 d_Sur_measure_140 rfl ⟨by decide, by decide⟩ ⟨by decide, by decide⟩ (Nat.le_of_ble_eq_true rfl) (fun σ32 hp34 => ?_)
        have hf35 := (show σ32 (3) = σ (3) by rw [hp34, va_up_ne _ _ (by omega)]).trans hS
        have hf36 := (show σ32 (2) = σ (2) by rw [hp34, va_up_ne _ _ (by omega)]).trans hL
        have hf37 := (show σ32 (5) = σ (5) by rw [hp34, va_up_ne _ _ (by omega)]).trans hf5
        have hf38 := (show σ32 (1) = σ (1) by rw [hp34, va_up_ne _ _ (by omega)]).trans hT.1
        have hf39 : σ32 (4) = (eO 0 [.ref (ad 5), .int (iv c), .int (iv num), .int (iv side)]) := by rw [hp34, va_up_self]
        refine v_aload_n hX d_Sur_measure_143 7 rfl ?_
        refine g_get (i := 3) hX hj fl_Sur_12 d_Sur_measure_144 (by omega) hf35 rfl ?_
        refine g_get (i := 4) hX hj fl_Sur_43 d_Sur_measure_147 (by omega) hf39 rfl ?_
        refine v_iload hX d_Sur_measure_150 1 rfl ?_
        refine v_iload hX d_Sur_measure_152 2 rfl ?_
        refine v_imulN (a := (((kSq rC (kLeft rK rL rows c num side)) * (cnt (nd rows (kLeft rK rL rows c num side)))) + ((kSq rC (nd rows (kLeft rK rL rows c num side))) * (cnt (kLeft rK rL rows c num side))))) (b := ((cnt (kLeft rK rL rows c num side)) + (cnt (nd rows (kLeft rK rL rows c num side))))) hX d_Sur_measure_154 ?_
        refine v_iload hX d_Sur_measure_155 0 rfl ?_
        refine v_isub hX d_Sur_measure_157 ?_
        refine v_top (x' := iv (kAb rC rK rL rows c num side)) rfl ?_
        refine v_iload hX d_Sur_measure_158 4 rfl ?_
        refine v_iload hX d_Sur_measure_160 3 rfl ?_
        refine v_imulN (a := (cnt (kLeft rK rL rows c num side))) (b := (cnt (nd rows (kLeft rK rL rows c num side)))) hX d_Sur_measure_162 ?_
        refine v_iload hX d_Sur_measure_163 2 rfl ?_
        refine v_imulN (a := ((cnt (kLeft rK rL rows c num side)) * (cnt (nd rows (kLeft rK rL rows c num side))))) (b := ((cnt (kLeft rK rL rows c num side)) + (cnt (nd rows (kLeft rK rL rows c num side))))) hX d_Sur_measure_165 ?_
        refine v_top (x' := iv (((kBe rK rL rows c num side) : Nat) : Int)) rfl ?_
        refine g_callVV (As := [.int (iv ((kAb rC rK rL rows c num side))), .int (iv ((((kBe rK rL rows c num side) : Nat) : Int)))]) (st := []) hX hj (i := 5) (by omega) hf37 (m_Fra_become hj 5 (by decide) u v hf37 (kAb rC rK rL rows c num side) ((kBe rK rL rows c num side : Nat) : Int)) cl_Sur_84 d_Sur_measure_166 rfl ⟨by decide, by decide⟩ ⟨by decide, by decide⟩ (Nat.le_of_ble_eq_true rfl) (fun σ41 hp43 => ?_)
        have hf44 := (show σ41 (3) = σ32 (3) by rw [hp43, va_up_ne _ _ (by omega)]).trans hf35
        have hf45 := (show σ41 (2) = σ32 (2) by rw [hp43, va_up_ne _ _ (by omega)]).trans hf36
        have hf46 := (show σ41 (1) = σ32 (1) by rw [hp43, va_up_ne _ _ (by omega)]).trans hf38
        have hf47 := (show σ41 (4) = σ32 (4) by rw [hp43, va_up_ne _ _ (by omega)]).trans hf39
        have hf48 : σ41 (5) = (eO 1 [.int (iv (kAb rC rK rL rows c num side)), .int (iv ((kBe rK rL rows c num side : Nat) : Int))]) := by rw [hp43, va_up_self]
        refine v_iconst hX (1) d_Sur_measure_169 ?_
        exact hret _ _ _ _ d_Sur_measure_170 (by unfold ir; omega) ⟨_, rfl, Or.inl ⟨kMay_t (by omega) (by omega) (by omega), rfl, by rw [hp43, hp34]⟩⟩ rfl
      · refine v_iconst hX (0) d_Sur_measure_80 ?_
        exact hret _ _ _ _ d_Sur_measure_81 (by unfold ir; omega) ⟨_, rfl, Or.inr ⟨fun q => by obtain ⟨q1, q2, q3⟩ := kMay_of q; omega, rfl, rfl⟩⟩ rfl
  · refine v_aload_n hX d_Sur_measure_6 0 rfl ?_
    refine g_get (i := 3) hX hj fl_Sur_21 d_Sur_measure_7 (by omega) hS rfl ?_
    refine v_iload_n hX d_Sur_measure_10 1 rfl ?_
    refine v_iload_n hX d_Sur_measure_11 2 rfl ?_
    refine g_callVI (As := [.int (iv (((rows : Nat) : Int))), .int (iv (((c : Nat) : Int)))]) (st := []) hX hj (i := 1) (by omega) hT.1 (m_Tab_unknownOf hj hT hB rows c hR hc) cl_Sur_57 d_Sur_measure_12 rfl ⟨by decide, by decide⟩ ⟨by decide, by decide⟩ (Nat.le_of_ble_eq_true rfl) (fun z49 σ50 hz51 hp52 => ?_)
    obtain ⟨he53, hv54⟩ := hp52
    rw [he53]
    subst hv54
    refine v_if_ne (tgt := 20) hX d_Sur_measure_15 (by decide) (ir_n (Nat.lt_of_le_of_lt (nd_le _ _) (by omega))) (fun c15_4 => ?_) (fun c15_4 => ?_)
    · refine v_aload_n hX d_Sur_measure_20 0 rfl ?_
      refine g_get (i := 3) hX hj fl_Sur_21 d_Sur_measure_21 (by omega) hS rfl ?_
      refine v_iload_n hX d_Sur_measure_24 1 rfl ?_
      refine v_iload_n hX d_Sur_measure_25 2 rfl ?_
      refine v_iload_n hX d_Sur_measure_26 3 rfl ?_
      refine v_iload hX d_Sur_measure_27 4 rfl ?_
      refine g_callVI (As := [.int (iv (((rows : Nat) : Int))), .int (iv (((c : Nat) : Int))), .int (iv (((num : Nat) : Int))), .int (iv (((side : Nat) : Int)))]) (st := []) hX hj (i := 1) (by omega) hT.1 (m_Tab_leftOf hj hT hB rows c num side hR hc hn hs) cl_Sur_61 d_Sur_measure_29 rfl ⟨by decide, by decide⟩ ⟨by decide, by decide⟩ (Nat.le_of_ble_eq_true rfl) (fun z55 σ56 hz57 hp58 => ?_)
      obtain ⟨he59, hv60⟩ := hp58
      rw [he59]
      subst hv60
      refine v_istore (lv' := [(5, .int (iv ((((kLeft rK rL rows c num side) : Nat) : Int)))), (0, .ref (ad 3)), (1, .int (iv (((rows : Nat) : Int)))), (2, .int (iv (((c : Nat) : Int)))), (3, .int (iv (((num : Nat) : Int)))), (4, .int (iv (((side : Nat) : Int))))]) hX d_Sur_measure_32 (by decide) rfl ?_
      refine v_iload_n hX d_Sur_measure_34 2 rfl ?_
      refine v_iload hX d_Sur_measure_35 0 rfl ?_
      refine v_iconst hX (-1) d_Sur_measure_37 ?_
      refine v_ixor (z := (-1 - (((kLeft rK rL rows c num side) : Nat) : Int))) hX d_Sur_measure_38 (iv_not ((kLeft rK rL rows c num side))) ?_
      refine v_iand (z := (((nd rows (kLeft rK rL rows c num side)) : Nat) : Int)) hX d_Sur_measure_39 (iv_andnot (rows) ((kLeft rK rL rows c num side))) ?_
      refine v_istore (lv' := [(6, .int (iv ((((nd rows (kLeft rK rL rows c num side)) : Nat) : Int)))), (5, .int (iv ((((kLeft rK rL rows c num side) : Nat) : Int)))), (0, .ref (ad 3)), (1, .int (iv (((rows : Nat) : Int)))), (2, .int (iv (((c : Nat) : Int)))), (3, .int (iv (((num : Nat) : Int)))), (4, .int (iv (((side : Nat) : Int))))]) hX d_Sur_measure_40 (by decide) rfl ?_
      refine v_iload hX d_Sur_measure_42 1 rfl ?_
      refine g_callSI (As := [.int (iv ((((kLeft rK rL rows c num side) : Nat) : Int)))]) (st := []) hX (k0_Int_bitCount (kLeft rK rL rows c num side) (by first | exact hLl | exact hRr)) cl_Sur_65 d_Sur_measure_44 rfl ⟨by decide, by decide⟩ ⟨by decide, by decide⟩ (Nat.le_of_ble_eq_true rfl) (fun z61 hz62 hp63 => ?_)
      subst hp63
      refine v_istore (lv' := [(7, .int (iv ((((cnt (kLeft rK rL rows c num side)) : Nat) : Int)))), (6, .int (iv ((((nd rows (kLeft rK rL rows c num side)) : Nat) : Int)))), (5, .int (iv ((((kLeft rK rL rows c num side) : Nat) : Int)))), (0, .ref (ad 3)), (1, .int (iv (((rows : Nat) : Int)))), (2, .int (iv (((c : Nat) : Int)))), (3, .int (iv (((num : Nat) : Int)))), (4, .int (iv (((side : Nat) : Int))))]) hX d_Sur_measure_47 (by decide) rfl ?_
      refine v_iload hX d_Sur_measure_49 1 rfl ?_
      refine g_callSI (As := [.int (iv ((((nd rows (kLeft rK rL rows c num side)) : Nat) : Int)))]) (st := []) hX (k0_Int_bitCount (nd rows (kLeft rK rL rows c num side)) (by first | exact hLl | exact hRr)) cl_Sur_65 d_Sur_measure_51 rfl ⟨by decide, by decide⟩ ⟨by decide, by decide⟩ (Nat.le_of_ble_eq_true rfl) (fun z64 hz65 hp66 => ?_)
      subst hp66
      refine v_istore (lv' := [(8, .int (iv ((((cnt (nd rows (kLeft rK rL rows c num side))) : Nat) : Int)))), (7, .int (iv ((((cnt (kLeft rK rL rows c num side)) : Nat) : Int)))), (6, .int (iv ((((nd rows (kLeft rK rL rows c num side)) : Nat) : Int)))), (5, .int (iv ((((kLeft rK rL rows c num side) : Nat) : Int)))), (0, .ref (ad 3)), (1, .int (iv (((rows : Nat) : Int)))), (2, .int (iv (((c : Nat) : Int)))), (3, .int (iv (((num : Nat) : Int)))), (4, .int (iv (((side : Nat) : Int))))]) hX d_Sur_measure_54 (by decide) rfl ?_
      refine v_iload hX d_Sur_measure_56 1 rfl ?_
      refine v_aload_n hX d_Sur_measure_58 4 rfl ?_
      refine g_get (i := 3) hX hj fl_Sur_25 d_Sur_measure_59 (by omega) hS rfl ?_
      refine g_get (i := 2) hX hj fl_Sur_71 d_Sur_measure_62 (by omega) hL rfl ?_
      refine v_icmp_lt (tgt := 80) hX d_Sur_measure_65 (by decide) (by unfold ir; omega) (by unfold ir; omega) (fun c65_5 => ?_) (fun c65_5 => ?_)
      · refine v_iconst hX (0) d_Sur_measure_80 ?_
        exact hret _ _ _ _ d_Sur_measure_81 (by unfold ir; omega) ⟨_, rfl, Or.inr ⟨fun q => by obtain ⟨q1, q2, q3⟩ := kMay_of q; omega, rfl, rfl⟩⟩ rfl
      · refine v_iload hX d_Sur_measure_68 0 rfl ?_
        refine v_aload_n hX d_Sur_measure_70 4 rfl ?_
        refine g_get (i := 3) hX hj fl_Sur_25 d_Sur_measure_71 (by omega) hS rfl ?_
        refine g_get (i := 2) hX hj fl_Sur_71 d_Sur_measure_74 (by omega) hL rfl ?_
        refine v_icmp_ge (tgt := 82) hX d_Sur_measure_77 (by decide) (by unfold ir; omega) (by unfold ir; omega) (fun c77_6 => ?_) (fun c77_6 => ?_)
        · refine v_iload hX d_Sur_measure_82 1 rfl ?_
          refine v_iload hX d_Sur_measure_84 0 rfl ?_
          refine v_iaddN (a := (cnt (kLeft rK rL rows c num side))) (b := (cnt (nd rows (kLeft rK rL rows c num side)))) hX d_Sur_measure_86 ?_
          refine v_istore (lv' := [(9, .int (iv (((((cnt (kLeft rK rL rows c num side)) + (cnt (nd rows (kLeft rK rL rows c num side)))) : Nat) : Int)))), (8, .int (iv ((((cnt (nd rows (kLeft rK rL rows c num side))) : Nat) : Int)))), (7, .int (iv ((((cnt (kLeft rK rL rows c num side)) : Nat) : Int)))), (6, .int (iv ((((nd rows (kLeft rK rL rows c num side)) : Nat) : Int)))), (5, .int (iv ((((kLeft rK rL rows c num side) : Nat) : Int)))), (0, .ref (ad 3)), (1, .int (iv (((rows : Nat) : Int)))), (2, .int (iv (((c : Nat) : Int)))), (3, .int (iv (((num : Nat) : Int)))), (4, .int (iv (((side : Nat) : Int))))]) hX d_Sur_measure_87 (by decide) rfl ?_
          refine v_aload_n hX d_Sur_measure_89 5 rfl ?_
          refine g_get (i := 3) hX hj fl_Sur_21 d_Sur_measure_90 (by omega) hS rfl ?_
          refine v_iload hX d_Sur_measure_93 4 rfl ?_
          refine g_callVI (As := [.int (iv ((((kLeft rK rL rows c num side) : Nat) : Int)))]) (st := []) hX hj (i := 1) (by omega) hT.1 (m_Tab_squaresOf hj hT hB (kLeft rK rL rows c num side) (by first | exact hR | exact hLl | exact hRr)) cl_Sur_77 d_Sur_measure_95 rfl ⟨by decide, by decide⟩ ⟨by decide, by decide⟩ (Nat.le_of_ble_eq_true rfl) (fun z67 σ68 hz69 hp70 => ?_)
          obtain ⟨he71, hv72⟩ := hp70
          rw [he71]
          subst hv72
          refine v_iload hX d_Sur_measure_98 1 rfl ?_
          refine v_imulN (a := (kSq rC (kLeft rK rL rows c num side))) (b := (cnt (nd rows (kLeft rK rL rows c num side)))) hX d_Sur_measure_100 ?_
          refine v_aload_n hX d_Sur_measure_101 5 rfl ?_
          refine g_get (i := 3) hX hj fl_Sur_21 d_Sur_measure_102 (by omega) hS rfl ?_
          refine v_iload hX d_Sur_measure_105 3 rfl ?_
          refine g_callVI (As := [.int (iv ((((nd rows (kLeft rK rL rows c num side)) : Nat) : Int)))]) (st := [.int (iv (((((kSq rC (kLeft rK rL rows c num side)) * (cnt (nd rows (kLeft rK rL rows c num side)))) : Nat) : Int)))]) hX hj (i := 1) (by omega) hT.1 (m_Tab_squaresOf hj hT hB (nd rows (kLeft rK rL rows c num side)) (by first | exact hR | exact hLl | exact hRr)) cl_Sur_77 d_Sur_measure_107 rfl ⟨by decide, by decide⟩ ⟨by decide, by decide⟩ (Nat.le_of_ble_eq_true rfl) (fun z73 σ74 hz75 hp76 => ?_)
          obtain ⟨he77, hv78⟩ := hp76
          rw [he77]
          subst hv78
          refine v_iload hX d_Sur_measure_110 2 rfl ?_
          refine v_imulN (a := (kSq rC (nd rows (kLeft rK rL rows c num side)))) (b := (cnt (kLeft rK rL rows c num side))) hX d_Sur_measure_112 ?_
          refine v_iaddN (a := ((kSq rC (kLeft rK rL rows c num side)) * (cnt (nd rows (kLeft rK rL rows c num side))))) (b := ((kSq rC (nd rows (kLeft rK rL rows c num side))) * (cnt (kLeft rK rL rows c num side)))) hX d_Sur_measure_113 ?_
          refine v_istore (lv' := [(10, .int (iv ((((((kSq rC (kLeft rK rL rows c num side)) * (cnt (nd rows (kLeft rK rL rows c num side)))) + ((kSq rC (nd rows (kLeft rK rL rows c num side))) * (cnt (kLeft rK rL rows c num side)))) : Nat) : Int)))), (9, .int (iv (((((cnt (kLeft rK rL rows c num side)) + (cnt (nd rows (kLeft rK rL rows c num side)))) : Nat) : Int)))), (8, .int (iv ((((cnt (nd rows (kLeft rK rL rows c num side))) : Nat) : Int)))), (7, .int (iv ((((cnt (kLeft rK rL rows c num side)) : Nat) : Int)))), (6, .int (iv ((((nd rows (kLeft rK rL rows c num side)) : Nat) : Int)))), (5, .int (iv ((((kLeft rK rL rows c num side) : Nat) : Int)))), (0, .ref (ad 3)), (1, .int (iv (((rows : Nat) : Int)))), (2, .int (iv (((c : Nat) : Int)))), (3, .int (iv (((num : Nat) : Int)))), (4, .int (iv (((side : Nat) : Int))))]) hX d_Sur_measure_114 (by decide) rfl ?_
          refine v_aload_n hX d_Sur_measure_116 6 rfl ?_
          refine g_get (i := 3) hX hj fl_Sur_21 d_Sur_measure_117 (by omega) hS rfl ?_
          refine v_iload_n hX d_Sur_measure_120 7 rfl ?_
          refine g_callVI (As := [.int (iv (((rows : Nat) : Int)))]) (st := []) hX hj (i := 1) (by omega) hT.1 (m_Tab_squaresOf hj hT hB rows (by first | exact hR | exact hLl | exact hRr)) cl_Sur_77 d_Sur_measure_121 rfl ⟨by decide, by decide⟩ ⟨by decide, by decide⟩ (Nat.le_of_ble_eq_true rfl) (fun z79 σ80 hz81 hp82 => ?_)
          obtain ⟨he83, hv84⟩ := hp82
          rw [he83]
          subst hv84
          refine v_iload hX d_Sur_measure_124 3 rfl ?_
          refine v_imulN (a := (kSq rC rows)) (b := (cnt (kLeft rK rL rows c num side))) hX d_Sur_measure_126 ?_
          refine v_iload hX d_Sur_measure_127 2 rfl ?_
          refine v_imulN (a := ((kSq rC rows) * (cnt (kLeft rK rL rows c num side)))) (b := (cnt (nd rows (kLeft rK rL rows c num side)))) hX d_Sur_measure_129 ?_
          refine v_istore (lv' := [(11, .int (iv ((((((kSq rC rows) * (cnt (kLeft rK rL rows c num side))) * (cnt (nd rows (kLeft rK rL rows c num side)))) : Nat) : Int)))), (10, .int (iv ((((((kSq rC (kLeft rK rL rows c num side)) * (cnt (nd rows (kLeft rK rL rows c num side)))) + ((kSq rC (nd rows (kLeft rK rL rows c num side))) * (cnt (kLeft rK rL rows c num side)))) : Nat) : Int)))), (9, .int (iv (((((cnt (kLeft rK rL rows c num side)) + (cnt (nd rows (kLeft rK rL rows c num side)))) : Nat) : Int)))), (8, .int (iv ((((cnt (nd rows (kLeft rK rL rows c num side))) : Nat) : Int)))), (7, .int (iv ((((cnt (kLeft rK rL rows c num side)) : Nat) : Int)))), (6, .int (iv ((((nd rows (kLeft rK rL rows c num side)) : Nat) : Int)))), (5, .int (iv ((((kLeft rK rL rows c num side) : Nat) : Int)))), (0, .ref (ad 3)), (1, .int (iv (((rows : Nat) : Int)))), (2, .int (iv (((c : Nat) : Int)))), (3, .int (iv (((num : Nat) : Int)))), (4, .int (iv (((side : Nat) : Int))))]) hX d_Sur_measure_130 (by decide) rfl ?_
          refine v_aload_n hX d_Sur_measure_132 7 rfl ?_
          refine g_get (i := 3) hX hj fl_Sur_12 d_Sur_measure_133 (by omega) hS rfl ?_
          refine v_iload_n hX d_Sur_measure_136 9 rfl ?_
          refine v_iload_n hX d_Sur_measure_137 10 rfl ?_
          refine v_iload hX d_Sur_measure_138 11 rfl ?_
          refine g_callVV (As := [.int (iv (((c : Nat) : Int))), .int (iv (((num : Nat) : Int))), .int (iv (((side : Nat) : Int)))]) (st := []) hX hj (i := 4) (by omega) hc4 (m_Cut_become hj 4 5 (by decide) x0 x1 x2 hc4 c num side) cl_Sur_80 d_Sur_measure_140 rfl ⟨by decide, by decide⟩ ⟨by decide, by decide⟩ (Nat.le_of_ble_eq_true rfl) (fun σ86 hp88 => ?_)
          have hf89 := (show σ86 (3) = σ (3) by rw [hp88, va_up_ne _ _ (by omega)]).trans hS
          have hf90 := (show σ86 (2) = σ (2) by rw [hp88, va_up_ne _ _ (by omega)]).trans hL
          have hf91 := (show σ86 (5) = σ (5) by rw [hp88, va_up_ne _ _ (by omega)]).trans hf5
          have hf92 := (show σ86 (1) = σ (1) by rw [hp88, va_up_ne _ _ (by omega)]).trans hT.1
          have hf93 : σ86 (4) = (eO 0 [.ref (ad 5), .int (iv c), .int (iv num), .int (iv side)]) := by rw [hp88, va_up_self]
          refine v_aload_n hX d_Sur_measure_143 7 rfl ?_
          refine g_get (i := 3) hX hj fl_Sur_12 d_Sur_measure_144 (by omega) hf89 rfl ?_
          refine g_get (i := 4) hX hj fl_Sur_43 d_Sur_measure_147 (by omega) hf93 rfl ?_
          refine v_iload hX d_Sur_measure_150 1 rfl ?_
          refine v_iload hX d_Sur_measure_152 2 rfl ?_
          refine v_imulN (a := (((kSq rC (kLeft rK rL rows c num side)) * (cnt (nd rows (kLeft rK rL rows c num side)))) + ((kSq rC (nd rows (kLeft rK rL rows c num side))) * (cnt (kLeft rK rL rows c num side))))) (b := ((cnt (kLeft rK rL rows c num side)) + (cnt (nd rows (kLeft rK rL rows c num side))))) hX d_Sur_measure_154 ?_
          refine v_iload hX d_Sur_measure_155 0 rfl ?_
          refine v_isub hX d_Sur_measure_157 ?_
          refine v_top (x' := iv (kAb rC rK rL rows c num side)) rfl ?_
          refine v_iload hX d_Sur_measure_158 4 rfl ?_
          refine v_iload hX d_Sur_measure_160 3 rfl ?_
          refine v_imulN (a := (cnt (kLeft rK rL rows c num side))) (b := (cnt (nd rows (kLeft rK rL rows c num side)))) hX d_Sur_measure_162 ?_
          refine v_iload hX d_Sur_measure_163 2 rfl ?_
          refine v_imulN (a := ((cnt (kLeft rK rL rows c num side)) * (cnt (nd rows (kLeft rK rL rows c num side))))) (b := ((cnt (kLeft rK rL rows c num side)) + (cnt (nd rows (kLeft rK rL rows c num side))))) hX d_Sur_measure_165 ?_
          refine v_top (x' := iv (((kBe rK rL rows c num side) : Nat) : Int)) rfl ?_
          refine g_callVV (As := [.int (iv ((kAb rC rK rL rows c num side))), .int (iv ((((kBe rK rL rows c num side) : Nat) : Int)))]) (st := []) hX hj (i := 5) (by omega) hf91 (m_Fra_become hj 5 (by decide) u v hf91 (kAb rC rK rL rows c num side) ((kBe rK rL rows c num side : Nat) : Int)) cl_Sur_84 d_Sur_measure_166 rfl ⟨by decide, by decide⟩ ⟨by decide, by decide⟩ (Nat.le_of_ble_eq_true rfl) (fun σ95 hp97 => ?_)
          have hf98 := (show σ95 (3) = σ86 (3) by rw [hp97, va_up_ne _ _ (by omega)]).trans hf89
          have hf99 := (show σ95 (2) = σ86 (2) by rw [hp97, va_up_ne _ _ (by omega)]).trans hf90
          have hf100 := (show σ95 (1) = σ86 (1) by rw [hp97, va_up_ne _ _ (by omega)]).trans hf92
          have hf101 := (show σ95 (4) = σ86 (4) by rw [hp97, va_up_ne _ _ (by omega)]).trans hf93
          have hf102 : σ95 (5) = (eO 1 [.int (iv (kAb rC rK rL rows c num side)), .int (iv ((kBe rK rL rows c num side : Nat) : Int))]) := by rw [hp97, va_up_self]
          refine v_iconst hX (1) d_Sur_measure_169 ?_
          exact hret _ _ _ _ d_Sur_measure_170 (by unfold ir; omega) ⟨_, rfl, Or.inl ⟨kMay_t (by omega) (by omega) (by omega), rfl, by rw [hp97, hp88]⟩⟩ rfl
        · refine v_iconst hX (0) d_Sur_measure_80 ?_
          exact hret _ _ _ _ d_Sur_measure_81 (by unfold ir; omega) ⟨_, rfl, Or.inr ⟨fun q => by obtain ⟨q1, q2, q3⟩ := kMay_of q; omega, rfl, rfl⟩⟩ rfl
    · refine v_iconst hX (0) d_Sur_measure_18 ?_
      exact hret _ _ _ _ d_Sur_measure_19 (by unfold ir; omega) ⟨_, rfl, Or.inr ⟨fun q => by obtain ⟨q1, q2, q3⟩ := kMay_of q; omega, rfl, rfl⟩⟩ rfl

set_option maxHeartbeats 1000000 in
set_option maxRecDepth 100000 in
theorem m_Sur_keepIfBetter {G : xG} {f0 : xF} {ad : Nat → Nat} (hj : adOk ad 400) {σ : xF} (hS : pSur ad σ) (x0 x1 x2 u v y0 y1 y2 a b : Int) (hc4 : pCut ad σ 4 5 x0 x1 x2) (hf5 : pFra σ 5 u v) (hc6 : pCut ad σ 6 7 y0 y1 y2) (hf7 : pFra σ 7 a b) (ru : ir u) (rv : ir v) (ra : ir a) (rb : ir b) (t : Int) (ht : t = 0 ∨ t = 1) : ∀ l, gVo l G f0 ad 400 y_Sur_keepIfBetter (.code y_Sur_keepIfBetter c_Sur_keepIfBetter 2 none) rm_Sur_keepIfBetter [.ref (ad 3), .int (iv (t))] σ (fun σ' => ((t = 1 ∨ a * v < u * b) ∧ σ' = va_up (va_up σ 6 (eO 0 [.ref (ad 7), .int (iv x0), .int (iv x1), .int (iv x2)])) 7 (eO 1 [.int (iv u), .int (iv v)])) ∨ (¬ (t = 1 ∨ a * v < u * b) ∧ σ' = σ)) := by
  intro l
  refine mV_of (by decide) (Nat.le_of_ble_eq_true rfl) (fun X hX hret => ?_)
  show vV G X 0 0 0 [(0, .ref (ad 3)), (1, .int (iv (t)))] [] (ov f0 ad 400 σ)
  refine v_iload_n hX d_Sur_keepIfBetter_0 1 rfl ?_
  refine v_if_ne (tgt := 24) hX d_Sur_keepIfBetter_1 (by decide) (by unfold ir; omega) (fun c1_1 => ?_) (fun c1_1 => ?_)
  · refine v_aload_n hX d_Sur_keepIfBetter_24 0 rfl ?_
    refine g_get (i := 3) hX hj fl_Sur_18 d_Sur_keepIfBetter_25 (by omega) hS rfl ?_
    refine v_aload_n hX d_Sur_keepIfBetter_28 0 rfl ?_
    refine g_get (i := 3) hX hj fl_Sur_12 d_Sur_keepIfBetter_29 (by omega) hS rfl ?_
    refine g_callVV (As := [.ref (ad 4)]) (st := []) hX hj (i := 6) (by omega) hc6 (m_Cut_becomeAs hj 6 7 (by decide) y0 y1 y2 hc6 4 5 (by decide) x0 x1 x2 hc4 (by decide) (by decide) a b u v hf7 hf5 (by decide) (by decide) (by decide) (by decide) (by decide) (by decide)) cl_Sur_53 d_Sur_keepIfBetter_32 rfl ⟨by decide, by decide⟩ ⟨by decide, by decide⟩ (Nat.le_of_ble_eq_true rfl) (fun σ2 hp4 => ?_)
    exact hret _ _ _ d_Sur_keepIfBetter_35 ⟨_, rfl, Or.inl ⟨by omega, hp4⟩⟩
  · refine v_aload_n hX d_Sur_keepIfBetter_4 0 rfl ?_
    refine g_get (i := 3) hX hj fl_Sur_12 d_Sur_keepIfBetter_5 (by omega) hS rfl ?_
    refine g_get (i := 4) hX hj fl_Sur_43 d_Sur_keepIfBetter_8 (by omega) hc4 rfl ?_
    refine v_aload_n hX d_Sur_keepIfBetter_11 0 rfl ?_
    refine g_get (i := 3) hX hj fl_Sur_18 d_Sur_keepIfBetter_12 (by omega) hS rfl ?_
    refine g_get (i := 6) hX hj fl_Sur_43 d_Sur_keepIfBetter_15 (by omega) hc6 rfl ?_
    refine g_callVI (As := [.ref (ad 7)]) (st := []) hX hj (i := 5) (by omega) hf5 (m_Fra_compareWith hj 5 (by decide) u v hf5 7 (by decide) a b hf7 ru rv ra rb) cl_Sur_47 d_Sur_keepIfBetter_18 rfl ⟨by decide, by decide⟩ ⟨by decide, by decide⟩ (Nat.le_of_ble_eq_true rfl) (fun z5 σ6 hz7 hp8 => ?_)
    obtain ⟨he9, hv10⟩ := hp8
    rw [he9]
    have hv1 : 0 < z5 ↔ a * v < u * b := by rw [hv10]; split <;> first | omega | (split <;> omega)
    refine v_if_le (tgt := 35) hX d_Sur_keepIfBetter_21 (by decide) (by unfold ir; omega) (fun c21_2 => ?_) (fun c21_2 => ?_)
    · exact hret _ _ _ d_Sur_keepIfBetter_35 ⟨_, rfl, Or.inr ⟨by omega, rfl⟩⟩
    · refine v_aload_n hX d_Sur_keepIfBetter_24 0 rfl ?_
      refine g_get (i := 3) hX hj fl_Sur_18 d_Sur_keepIfBetter_25 (by omega) hS rfl ?_
      refine v_aload_n hX d_Sur_keepIfBetter_28 0 rfl ?_
      refine g_get (i := 3) hX hj fl_Sur_12 d_Sur_keepIfBetter_29 (by omega) hS rfl ?_
      refine g_callVV (As := [.ref (ad 4)]) (st := []) hX hj (i := 6) (by omega) hc6 (m_Cut_becomeAs hj 6 7 (by decide) y0 y1 y2 hc6 4 5 (by decide) x0 x1 x2 hc4 (by decide) (by decide) a b u v hf7 hf5 (by decide) (by decide) (by decide) (by decide) (by decide) (by decide)) cl_Sur_53 d_Sur_keepIfBetter_32 rfl ⟨by decide, by decide⟩ ⟨by decide, by decide⟩ (Nat.le_of_ble_eq_true rfl) (fun σ12 hp14 => ?_)
      exact hret _ _ _ d_Sur_keepIfBetter_35 ⟨_, rfl, Or.inl ⟨by omega, hp14⟩⟩
