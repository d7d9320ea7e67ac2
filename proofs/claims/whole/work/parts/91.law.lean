/-! THE LAW'S CASES: both are called, both answer alike; by program -/
section LAW
variable {G : xG} {X : xT} {nm ds : String} {b L : Nat} {xs : Nat → Int32} {ad : Nat → Nat}

theorem lc_column (hX : xOk G X c_Law_law ⟨R_Law, nm, ds⟩ 4 room_1) (hS : lwX X b L xs) (hL : L ≤ 3072) (hj : adOk ad 400) {i : Nat} (hi : i + 6 ≤ L) {σ : xF} {d : xD} (hC : lwC G ad σ d) (hM : lwM G ad σ d) (K : ∀ σ' d', lwC G ad σ' d' → lwM G ad σ' d' → vV G X 600000 7302250 664 [(3, .int (iv ((i : Nat) : Int))), (2, .ref (ad 358)), (1, .ref (ad 0)), (0, .ref b)] [] (ov fZ ad 400 σ')) : vV G X 600000 7302250 120 [(3, .int (iv ((i : Nat) : Int))), (2, .ref (ad 358)), (1, .ref (ad 0)), (0, .ref b)] [] (ov fZ ad 400 σ) := by
  obtain ⟨n, val, cl, so, de, le, wo⟩ := d
  obtain ⟨fs, e0⟩ := lwC_0 hC
  refine v_aload_n hX d_Law_law_120 2 rfl ?_
  refine v_aload_n hX d_Law_law_121 3 rfl ?_
  refine v_iload_n hX d_Law_law_122 0 rfl ?_
  refine v_iconst hX 1 d_Law_law_123 ?_
  refine v_iadd hX d_Law_law_124 ?_
  refine v_sld hX hS hL (i + 1) (by omega) (by omega) d_Law_law_125 ?_
  refine v_aload_n hX d_Law_law_126 3 rfl ?_
  refine v_iload_n hX d_Law_law_127 0 rfl ?_
  refine v_iconst hX 2 d_Law_law_128 ?_
  refine v_iadd hX d_Law_law_129 ?_
  refine v_sld hX hS hL (i + 2) (by omega) (by omega) d_Law_law_130 ?_
  refine g_callVI (As := [.int (iv (xs (i + 1)).toInt), .int (iv (xs (i + 2)).toInt)]) (st := []) hX hj (i := 0) (by decide) e0 (s_column hj (xs (i + 1)).toInt (xs (i + 2)).toInt (ir_back _) (ir_back _) hC) cl_Law_13 d_Law_law_131 rfl ⟨by decide, by decide⟩ ⟨by decide, by decide⟩ (Nat.le_of_ble_eq_true rfl) (fun z1 σ1 hz1 hp1 => ?_)
  obtain ⟨d1, q1, c1, f1⟩ := hp1
  have hM1 := lwM_up hM f1
  obtain ⟨fs2, e2⟩ := lwM_0 hM1
  show vV G X 600000 7302250 134 [(3, .int (iv ((i : Nat) : Int))), (2, .ref (ad 358)), (1, .ref (ad 0)), (0, .ref b)] [.int (iv z1)] (ov fZ ad 400 σ1)
  refine v_aload_n hX d_Law_law_134 1 rfl ?_
  refine v_aload_n hX d_Law_law_135 3 rfl ?_
  refine v_iload_n hX d_Law_law_136 0 rfl ?_
  refine v_iconst hX 1 d_Law_law_137 ?_
  refine v_iadd hX d_Law_law_138 ?_
  refine v_sld hX hS hL (i + 1) (by omega) (by omega) d_Law_law_139 ?_
  refine v_aload_n hX d_Law_law_140 3 rfl ?_
  refine v_iload_n hX d_Law_law_141 0 rfl ?_
  refine v_iconst hX 2 d_Law_law_142 ?_
  refine v_iadd hX d_Law_law_143 ?_
  refine v_sld hX hS hL (i + 2) (by omega) (by omega) d_Law_law_144 ?_
  refine g_callVI (As := [.int (iv (xs (i + 1)).toInt), .int (iv (xs (i + 2)).toInt)]) (st := [.int (iv z1)]) hX hj (i := 358) (by decide) e2 (r_column hj (xs (i + 1)).toInt (xs (i + 2)).toInt (ir_back _) (ir_back _) hM1) cl_Law_17 d_Law_law_145 rfl ⟨by decide, by decide⟩ ⟨by decide, by decide⟩ (Nat.le_of_ble_eq_true rfl) (fun z2 σ2 hz2 hp2 => ?_)
  obtain ⟨d2, q2, m2, f2⟩ := hp2
  obtain ⟨ez, ed⟩ := qA_u q1 q2
  subst ed
  show vV G X 600000 7302250 148 [(3, .int (iv ((i : Nat) : Int))), (2, .ref (ad 358)), (1, .ref (ad 0)), (0, .ref b)] [.int (iv z2), .int (iv z1)] (ov fZ ad 400 σ2)
  exact v_icmp_eq (tgt := 664) hX d_Law_law_148 (by decide) hz1 hz2 (fun _ => K σ2 d1 (lwC_up c1 f2) m2) (fun q => absurd ez q)
theorem lc_row (hX : xOk G X c_Law_law ⟨R_Law, nm, ds⟩ 4 room_1) (hS : lwX X b L xs) (hL : L ≤ 3072) (hj : adOk ad 400) {i : Nat} (hi : i + 6 ≤ L) {σ : xF} {d : xD} (hC : lwC G ad σ d) (hM : lwM G ad σ d) (K : ∀ σ' d', lwC G ad σ' d' → lwM G ad σ' d' → vV G X 600000 7302250 664 [(3, .int (iv ((i : Nat) : Int))), (2, .ref (ad 358)), (1, .ref (ad 0)), (0, .ref b)] [] (ov fZ ad 400 σ')) : vV G X 600000 7302250 153 [(3, .int (iv ((i : Nat) : Int))), (2, .ref (ad 358)), (1, .ref (ad 0)), (0, .ref b)] [] (ov fZ ad 400 σ) := by
  obtain ⟨n, val, cl, so, de, le, wo⟩ := d
  obtain ⟨fs, e0⟩ := lwC_0 hC
  refine v_aload_n hX d_Law_law_153 2 rfl ?_
  refine v_aload_n hX d_Law_law_154 3 rfl ?_
  refine v_iload_n hX d_Law_law_155 0 rfl ?_
  refine v_iconst hX 1 d_Law_law_156 ?_
  refine v_iadd hX d_Law_law_157 ?_
  refine v_sld hX hS hL (i + 1) (by omega) (by omega) d_Law_law_158 ?_
  refine v_aload_n hX d_Law_law_159 3 rfl ?_
  refine v_iload_n hX d_Law_law_160 0 rfl ?_
  refine v_iconst hX 2 d_Law_law_161 ?_
  refine v_iadd hX d_Law_law_162 ?_
  refine v_sld hX hS hL (i + 2) (by omega) (by omega) d_Law_law_163 ?_
  refine v_aload_n hX d_Law_law_164 3 rfl ?_
  refine v_iload_n hX d_Law_law_165 0 rfl ?_
  refine v_iconst hX 3 d_Law_law_166 ?_
  refine v_iadd hX d_Law_law_167 ?_
  refine v_sld hX hS hL (i + 3) (by omega) (by omega) d_Law_law_168 ?_
  refine v_aload_n hX d_Law_law_169 3 rfl ?_
  refine v_iload_n hX d_Law_law_170 0 rfl ?_
  refine v_iconst hX 4 d_Law_law_171 ?_
  refine v_iadd hX d_Law_law_172 ?_
  refine v_sld hX hS hL (i + 4) (by omega) (by omega) d_Law_law_173 ?_
  refine v_aload_n hX d_Law_law_174 3 rfl ?_
  refine v_iload_n hX d_Law_law_175 0 rfl ?_
  refine v_iconst hX 5 d_Law_law_176 ?_
  refine v_iadd hX d_Law_law_177 ?_
  refine v_sld hX hS hL (i + 5) (by omega) (by omega) d_Law_law_178 ?_
  refine g_callVI (As := [.int (iv (xs (i + 1)).toInt), .int (iv (xs (i + 2)).toInt), .int (iv (xs (i + 3)).toInt), .int (iv (xs (i + 4)).toInt), .int (iv (xs (i + 5)).toInt)]) (st := []) hX hj (i := 0) (by decide) e0 (s_row hj (xs (i + 1)).toInt (xs (i + 2)).toInt (xs (i + 3)).toInt (xs (i + 4)).toInt (xs (i + 5)).toInt (ir_back _) (ir_back _) (ir_back _) (ir_back _) (ir_back _) hC) cl_Law_18 d_Law_law_179 rfl ⟨by decide, by decide⟩ ⟨by decide, by decide⟩ (Nat.le_of_ble_eq_true rfl) (fun z1 σ1 hz1 hp1 => ?_)
  obtain ⟨d1, q1, c1, f1⟩ := hp1
  have hM1 := lwM_up hM f1
  obtain ⟨fs2, e2⟩ := lwM_0 hM1
  show vV G X 600000 7302250 182 [(3, .int (iv ((i : Nat) : Int))), (2, .ref (ad 358)), (1, .ref (ad 0)), (0, .ref b)] [.int (iv z1)] (ov fZ ad 400 σ1)
  refine v_aload_n hX d_Law_law_182 1 rfl ?_
  refine v_aload_n hX d_Law_law_183 3 rfl ?_
  refine v_iload_n hX d_Law_law_184 0 rfl ?_
  refine v_iconst hX 1 d_Law_law_185 ?_
  refine v_iadd hX d_Law_law_186 ?_
  refine v_sld hX hS hL (i + 1) (by omega) (by omega) d_Law_law_187 ?_
  refine v_aload_n hX d_Law_law_188 3 rfl ?_
  refine v_iload_n hX d_Law_law_189 0 rfl ?_
  refine v_iconst hX 2 d_Law_law_190 ?_
  refine v_iadd hX d_Law_law_191 ?_
  refine v_sld hX hS hL (i + 2) (by omega) (by omega) d_Law_law_192 ?_
  refine v_aload_n hX d_Law_law_193 3 rfl ?_
  refine v_iload_n hX d_Law_law_194 0 rfl ?_
  refine v_iconst hX 3 d_Law_law_195 ?_
  refine v_iadd hX d_Law_law_196 ?_
  refine v_sld hX hS hL (i + 3) (by omega) (by omega) d_Law_law_197 ?_
  refine v_aload_n hX d_Law_law_198 3 rfl ?_
  refine v_iload_n hX d_Law_law_199 0 rfl ?_
  refine v_iconst hX 4 d_Law_law_200 ?_
  refine v_iadd hX d_Law_law_201 ?_
  refine v_sld hX hS hL (i + 4) (by omega) (by omega) d_Law_law_202 ?_
  refine v_aload_n hX d_Law_law_203 3 rfl ?_
  refine v_iload_n hX d_Law_law_204 0 rfl ?_
  refine v_iconst hX 5 d_Law_law_205 ?_
  refine v_iadd hX d_Law_law_206 ?_
  refine v_sld hX hS hL (i + 5) (by omega) (by omega) d_Law_law_207 ?_
  refine g_callVI (As := [.int (iv (xs (i + 1)).toInt), .int (iv (xs (i + 2)).toInt), .int (iv (xs (i + 3)).toInt), .int (iv (xs (i + 4)).toInt), .int (iv (xs (i + 5)).toInt)]) (st := [.int (iv z1)]) hX hj (i := 358) (by decide) e2 (r_row hj (xs (i + 1)).toInt (xs (i + 2)).toInt (xs (i + 3)).toInt (xs (i + 4)).toInt (xs (i + 5)).toInt (ir_back _) (ir_back _) (ir_back _) (ir_back _) (ir_back _) hM1) cl_Law_22 d_Law_law_208 rfl ⟨by decide, by decide⟩ ⟨by decide, by decide⟩ (Nat.le_of_ble_eq_true rfl) (fun z2 σ2 hz2 hp2 => ?_)
  obtain ⟨d2, q2, m2, f2⟩ := hp2
  obtain ⟨ez, ed⟩ := qA_u q1 q2
  subst ed
  show vV G X 600000 7302250 211 [(3, .int (iv ((i : Nat) : Int))), (2, .ref (ad 358)), (1, .ref (ad 0)), (0, .ref b)] [.int (iv z2), .int (iv z1)] (ov fZ ad 400 σ2)
  exact v_icmp_eq (tgt := 664) hX d_Law_law_211 (by decide) hz1 hz2 (fun _ => K σ2 d1 (lwC_up c1 f2) m2) (fun q => absurd ez q)
theorem lc_clear (hX : xOk G X c_Law_law ⟨R_Law, nm, ds⟩ 4 room_1) (hS : lwX X b L xs) (hL : L ≤ 3072) (hj : adOk ad 400) {i : Nat} (hi : i + 6 ≤ L) {σ : xF} {d : xD} (hC : lwC G ad σ d) (hM : lwM G ad σ d) (K : ∀ σ' d', lwC G ad σ' d' → lwM G ad σ' d' → vV G X 600000 7302250 664 [(3, .int (iv ((i : Nat) : Int))), (2, .ref (ad 358)), (1, .ref (ad 0)), (0, .ref b)] [] (ov fZ ad 400 σ')) : vV G X 600000 7302250 216 [(3, .int (iv ((i : Nat) : Int))), (2, .ref (ad 358)), (1, .ref (ad 0)), (0, .ref b)] [] (ov fZ ad 400 σ) := by
  obtain ⟨n, val, cl, so, de, le, wo⟩ := d
  obtain ⟨fs, e0⟩ := lwC_0 hC
  refine v_aload_n hX d_Law_law_216 2 rfl ?_
  refine g_callVI (As := []) (st := []) hX hj (i := 0) (by decide) e0 (s_clear hj   hC) cl_Law_23 d_Law_law_217 rfl ⟨by decide, by decide⟩ ⟨by decide, by decide⟩ (Nat.le_of_ble_eq_true rfl) (fun z1 σ1 hz1 hp1 => ?_)
  obtain ⟨d1, q1, c1, f1⟩ := hp1
  have hM1 := lwM_up hM f1
  obtain ⟨fs2, e2⟩ := lwM_0 hM1
  show vV G X 600000 7302250 220 [(3, .int (iv ((i : Nat) : Int))), (2, .ref (ad 358)), (1, .ref (ad 0)), (0, .ref b)] [.int (iv z1)] (ov fZ ad 400 σ1)
  refine v_aload_n hX d_Law_law_220 1 rfl ?_
  refine g_callVI (As := []) (st := [.int (iv z1)]) hX hj (i := 358) (by decide) e2 (r_clear hj   hM1) cl_Law_27 d_Law_law_221 rfl ⟨by decide, by decide⟩ ⟨by decide, by decide⟩ (Nat.le_of_ble_eq_true rfl) (fun z2 σ2 hz2 hp2 => ?_)
  obtain ⟨d2, q2, m2, f2⟩ := hp2
  obtain ⟨ez, ed⟩ := qA_u q1 q2
  subst ed
  show vV G X 600000 7302250 224 [(3, .int (iv ((i : Nat) : Int))), (2, .ref (ad 358)), (1, .ref (ad 0)), (0, .ref b)] [.int (iv z2), .int (iv z1)] (ov fZ ad 400 σ2)
  exact v_icmp_eq (tgt := 664) hX d_Law_law_224 (by decide) hz1 hz2 (fun _ => K σ2 d1 (lwC_up c1 f2) m2) (fun q => absurd ez q)
theorem lc_settings (hX : xOk G X c_Law_law ⟨R_Law, nm, ds⟩ 4 room_1) (hS : lwX X b L xs) (hL : L ≤ 3072) (hj : adOk ad 400) {i : Nat} (hi : i + 6 ≤ L) {σ : xF} {d : xD} (hC : lwC G ad σ d) (hM : lwM G ad σ d) (K : ∀ σ' d', lwC G ad σ' d' → lwM G ad σ' d' → vV G X 600000 7302250 664 [(3, .int (iv ((i : Nat) : Int))), (2, .ref (ad 358)), (1, .ref (ad 0)), (0, .ref b)] [] (ov fZ ad 400 σ')) : vV G X 600000 7302250 229 [(3, .int (iv ((i : Nat) : Int))), (2, .ref (ad 358)), (1, .ref (ad 0)), (0, .ref b)] [] (ov fZ ad 400 σ) := by
  obtain ⟨n, val, cl, so, de, le, wo⟩ := d
  obtain ⟨fs, e0⟩ := lwC_0 hC
  refine v_aload_n hX d_Law_law_229 2 rfl ?_
  refine v_aload_n hX d_Law_law_230 3 rfl ?_
  refine v_iload_n hX d_Law_law_231 0 rfl ?_
  refine v_iconst hX 1 d_Law_law_232 ?_
  refine v_iadd hX d_Law_law_233 ?_
  refine v_sld hX hS hL (i + 1) (by omega) (by omega) d_Law_law_234 ?_
  refine v_aload_n hX d_Law_law_235 3 rfl ?_
  refine v_iload_n hX d_Law_law_236 0 rfl ?_
  refine v_iconst hX 2 d_Law_law_237 ?_
  refine v_iadd hX d_Law_law_238 ?_
  refine v_sld hX hS hL (i + 2) (by omega) (by omega) d_Law_law_239 ?_
  refine v_aload_n hX d_Law_law_240 3 rfl ?_
  refine v_iload_n hX d_Law_law_241 0 rfl ?_
  refine v_iconst hX 3 d_Law_law_242 ?_
  refine v_iadd hX d_Law_law_243 ?_
  refine v_sld hX hS hL (i + 3) (by omega) (by omega) d_Law_law_244 ?_
  refine g_callVI (As := [.int (iv (xs (i + 1)).toInt), .int (iv (xs (i + 2)).toInt), .int (iv (xs (i + 3)).toInt)]) (st := []) hX hj (i := 0) (by decide) e0 (s_settings hj (xs (i + 1)).toInt (xs (i + 2)).toInt (xs (i + 3)).toInt (ir_back _) (ir_back _) (ir_back _) hC) cl_Law_28 d_Law_law_245 rfl ⟨by decide, by decide⟩ ⟨by decide, by decide⟩ (Nat.le_of_ble_eq_true rfl) (fun z1 σ1 hz1 hp1 => ?_)
  obtain ⟨d1, q1, c1, f1⟩ := hp1
  have hM1 := lwM_up hM f1
  obtain ⟨fs2, e2⟩ := lwM_0 hM1
  show vV G X 600000 7302250 248 [(3, .int (iv ((i : Nat) : Int))), (2, .ref (ad 358)), (1, .ref (ad 0)), (0, .ref b)] [.int (iv z1)] (ov fZ ad 400 σ1)
  refine v_aload_n hX d_Law_law_248 1 rfl ?_
  refine v_aload_n hX d_Law_law_249 3 rfl ?_
  refine v_iload_n hX d_Law_law_250 0 rfl ?_
  refine v_iconst hX 1 d_Law_law_251 ?_
  refine v_iadd hX d_Law_law_252 ?_
  refine v_sld hX hS hL (i + 1) (by omega) (by omega) d_Law_law_253 ?_
  refine v_aload_n hX d_Law_law_254 3 rfl ?_
  refine v_iload_n hX d_Law_law_255 0 rfl ?_
  refine v_iconst hX 2 d_Law_law_256 ?_
  refine v_iadd hX d_Law_law_257 ?_
  refine v_sld hX hS hL (i + 2) (by omega) (by omega) d_Law_law_258 ?_
  refine v_aload_n hX d_Law_law_259 3 rfl ?_
  refine v_iload_n hX d_Law_law_260 0 rfl ?_
  refine v_iconst hX 3 d_Law_law_261 ?_
  refine v_iadd hX d_Law_law_262 ?_
  refine v_sld hX hS hL (i + 3) (by omega) (by omega) d_Law_law_263 ?_
  refine g_callVI (As := [.int (iv (xs (i + 1)).toInt), .int (iv (xs (i + 2)).toInt), .int (iv (xs (i + 3)).toInt)]) (st := [.int (iv z1)]) hX hj (i := 358) (by decide) e2 (r_settings hj (xs (i + 1)).toInt (xs (i + 2)).toInt (xs (i + 3)).toInt (ir_back _) (ir_back _) (ir_back _) hM1) cl_Law_32 d_Law_law_264 rfl ⟨by decide, by decide⟩ ⟨by decide, by decide⟩ (Nat.le_of_ble_eq_true rfl) (fun z2 σ2 hz2 hp2 => ?_)
  obtain ⟨d2, q2, m2, f2⟩ := hp2
  obtain ⟨ez, ed⟩ := qA_u q1 q2
  subst ed
  show vV G X 600000 7302250 267 [(3, .int (iv ((i : Nat) : Int))), (2, .ref (ad 358)), (1, .ref (ad 0)), (0, .ref b)] [.int (iv z2), .int (iv z1)] (ov fZ ad 400 σ2)
  exact v_icmp_eq (tgt := 664) hX d_Law_law_267 (by decide) hz1 hz2 (fun _ => K σ2 d1 (lwC_up c1 f2) m2) (fun q => absurd ez q)
theorem lc_nodes (hX : xOk G X c_Law_law ⟨R_Law, nm, ds⟩ 4 room_1) (hS : lwX X b L xs) (hL : L ≤ 3072) (hj : adOk ad 400) {i : Nat} (hi : i + 6 ≤ L) {σ : xF} {d : xD} (hC : lwC G ad σ d) (hM : lwM G ad σ d) (K : ∀ σ' d', lwC G ad σ' d' → lwM G ad σ' d' → vV G X 600000 7302250 664 [(3, .int (iv ((i : Nat) : Int))), (2, .ref (ad 358)), (1, .ref (ad 0)), (0, .ref b)] [] (ov fZ ad 400 σ')) : vV G X 600000 7302250 272 [(3, .int (iv ((i : Nat) : Int))), (2, .ref (ad 358)), (1, .ref (ad 0)), (0, .ref b)] [] (ov fZ ad 400 σ) := by
  obtain ⟨n, val, cl, so, de, le, wo⟩ := d
  obtain ⟨fs, e0⟩ := lwC_0 hC
  refine v_aload_n hX d_Law_law_272 2 rfl ?_
  refine g_callVI (As := []) (st := []) hX hj (i := 0) (by decide) e0 (s_nodes hj   hC) cl_Law_33 d_Law_law_273 rfl ⟨by decide, by decide⟩ ⟨by decide, by decide⟩ (Nat.le_of_ble_eq_true rfl) (fun z1 σ1 hz1 hp1 => ?_)
  obtain ⟨d1, q1, c1, f1⟩ := hp1
  have hM1 := lwM_up hM f1
  obtain ⟨fs2, e2⟩ := lwM_0 hM1
  show vV G X 600000 7302250 276 [(3, .int (iv ((i : Nat) : Int))), (2, .ref (ad 358)), (1, .ref (ad 0)), (0, .ref b)] [.int (iv z1)] (ov fZ ad 400 σ1)
  refine v_aload_n hX d_Law_law_276 1 rfl ?_
  refine g_callVI (As := []) (st := [.int (iv z1)]) hX hj (i := 358) (by decide) e2 (r_nodes hj   hM1) cl_Law_36 d_Law_law_277 rfl ⟨by decide, by decide⟩ ⟨by decide, by decide⟩ (Nat.le_of_ble_eq_true rfl) (fun z2 σ2 hz2 hp2 => ?_)
  obtain ⟨d2, q2, m2, f2⟩ := hp2
  obtain ⟨ez, ed⟩ := qA_u q1 q2
  subst ed
  show vV G X 600000 7302250 280 [(3, .int (iv ((i : Nat) : Int))), (2, .ref (ad 358)), (1, .ref (ad 0)), (0, .ref b)] [.int (iv z2), .int (iv z1)] (ov fZ ad 400 σ2)
  exact v_icmp_eq (tgt := 664) hX d_Law_law_280 (by decide) hz1 hz2 (fun _ => K σ2 d1 (lwC_up c1 f2) m2) (fun q => absurd ez q)
theorem lc_node (hX : xOk G X c_Law_law ⟨R_Law, nm, ds⟩ 4 room_1) (hS : lwX X b L xs) (hL : L ≤ 3072) (hj : adOk ad 400) {i : Nat} (hi : i + 6 ≤ L) {σ : xF} {d : xD} (hC : lwC G ad σ d) (hM : lwM G ad σ d) (K : ∀ σ' d', lwC G ad σ' d' → lwM G ad σ' d' → vV G X 600000 7302250 664 [(3, .int (iv ((i : Nat) : Int))), (2, .ref (ad 358)), (1, .ref (ad 0)), (0, .ref b)] [] (ov fZ ad 400 σ')) : vV G X 600000 7302250 285 [(3, .int (iv ((i : Nat) : Int))), (2, .ref (ad 358)), (1, .ref (ad 0)), (0, .ref b)] [] (ov fZ ad 400 σ) := by
  obtain ⟨n, val, cl, so, de, le, wo⟩ := d
  obtain ⟨fs, e0⟩ := lwC_0 hC
  refine v_aload_n hX d_Law_law_285 2 rfl ?_
  refine v_aload_n hX d_Law_law_286 3 rfl ?_
  refine v_iload_n hX d_Law_law_287 0 rfl ?_
  refine v_iconst hX 1 d_Law_law_288 ?_
  refine v_iadd hX d_Law_law_289 ?_
  refine v_sld hX hS hL (i + 1) (by omega) (by omega) d_Law_law_290 ?_
  refine v_aload_n hX d_Law_law_291 3 rfl ?_
  refine v_iload_n hX d_Law_law_292 0 rfl ?_
  refine v_iconst hX 2 d_Law_law_293 ?_
  refine v_iadd hX d_Law_law_294 ?_
  refine v_sld hX hS hL (i + 2) (by omega) (by omega) d_Law_law_295 ?_
  refine g_callVI (As := [.int (iv (xs (i + 1)).toInt), .int (iv (xs (i + 2)).toInt)]) (st := []) hX hj (i := 0) (by decide) e0 (s_node hj (xs (i + 1)).toInt (xs (i + 2)).toInt (ir_back _) (ir_back _) hC) cl_Law_37 d_Law_law_296 rfl ⟨by decide, by decide⟩ ⟨by decide, by decide⟩ (Nat.le_of_ble_eq_true rfl) (fun z1 σ1 hz1 hp1 => ?_)
  obtain ⟨d1, q1, c1, f1⟩ := hp1
  have hM1 := lwM_up hM f1
  obtain ⟨fs2, e2⟩ := lwM_0 hM1
  show vV G X 600000 7302250 299 [(3, .int (iv ((i : Nat) : Int))), (2, .ref (ad 358)), (1, .ref (ad 0)), (0, .ref b)] [.int (iv z1)] (ov fZ ad 400 σ1)
  refine v_aload_n hX d_Law_law_299 1 rfl ?_
  refine v_aload_n hX d_Law_law_300 3 rfl ?_
  refine v_iload_n hX d_Law_law_301 0 rfl ?_
  refine v_iconst hX 1 d_Law_law_302 ?_
  refine v_iadd hX d_Law_law_303 ?_
  refine v_sld hX hS hL (i + 1) (by omega) (by omega) d_Law_law_304 ?_
  refine v_aload_n hX d_Law_law_305 3 rfl ?_
  refine v_iload_n hX d_Law_law_306 0 rfl ?_
  refine v_iconst hX 2 d_Law_law_307 ?_
  refine v_iadd hX d_Law_law_308 ?_
  refine v_sld hX hS hL (i + 2) (by omega) (by omega) d_Law_law_309 ?_
  refine g_callVI (As := [.int (iv (xs (i + 1)).toInt), .int (iv (xs (i + 2)).toInt)]) (st := [.int (iv z1)]) hX hj (i := 358) (by decide) e2 (r_node hj (xs (i + 1)).toInt (xs (i + 2)).toInt (ir_back _) (ir_back _) hM1) cl_Law_40 d_Law_law_310 rfl ⟨by decide, by decide⟩ ⟨by decide, by decide⟩ (Nat.le_of_ble_eq_true rfl) (fun z2 σ2 hz2 hp2 => ?_)
  obtain ⟨d2, q2, m2, f2⟩ := hp2
  obtain ⟨ez, ed⟩ := qA_u q1 q2
  subst ed
  show vV G X 600000 7302250 313 [(3, .int (iv ((i : Nat) : Int))), (2, .ref (ad 358)), (1, .ref (ad 0)), (0, .ref b)] [.int (iv z2), .int (iv z1)] (ov fZ ad 400 σ2)
  exact v_icmp_eq (tgt := 664) hX d_Law_law_313 (by decide) hz1 hz2 (fun _ => K σ2 d1 (lwC_up c1 f2) m2) (fun q => absurd ez q)
theorem lc_count (hX : xOk G X c_Law_law ⟨R_Law, nm, ds⟩ 4 room_1) (hS : lwX X b L xs) (hL : L ≤ 3072) (hj : adOk ad 400) {i : Nat} (hi : i + 6 ≤ L) {σ : xF} {d : xD} (hC : lwC G ad σ d) (hM : lwM G ad σ d) (K : ∀ σ' d', lwC G ad σ' d' → lwM G ad σ' d' → vV G X 600000 7302250 664 [(3, .int (iv ((i : Nat) : Int))), (2, .ref (ad 358)), (1, .ref (ad 0)), (0, .ref b)] [] (ov fZ ad 400 σ')) : vV G X 600000 7302250 318 [(3, .int (iv ((i : Nat) : Int))), (2, .ref (ad 358)), (1, .ref (ad 0)), (0, .ref b)] [] (ov fZ ad 400 σ) := by
  obtain ⟨n, val, cl, so, de, le, wo⟩ := d
  obtain ⟨fs, e0⟩ := lwC_0 hC
  refine v_aload_n hX d_Law_law_318 2 rfl ?_
  refine v_aload_n hX d_Law_law_319 3 rfl ?_
  refine v_iload_n hX d_Law_law_320 0 rfl ?_
  refine v_iconst hX 1 d_Law_law_321 ?_
  refine v_iadd hX d_Law_law_322 ?_
  refine v_sld hX hS hL (i + 1) (by omega) (by omega) d_Law_law_323 ?_
  refine v_aload_n hX d_Law_law_324 3 rfl ?_
  refine v_iload_n hX d_Law_law_325 0 rfl ?_
  refine v_iconst hX 2 d_Law_law_326 ?_
  refine v_iadd hX d_Law_law_327 ?_
  refine v_sld hX hS hL (i + 2) (by omega) (by omega) d_Law_law_328 ?_
  refine g_callVI (As := [.int (iv (xs (i + 1)).toInt), .int (iv (xs (i + 2)).toInt)]) (st := []) hX hj (i := 0) (by decide) e0 (s_count hj (xs (i + 1)).toInt (xs (i + 2)).toInt (ir_back _) (ir_back _) hC) cl_Law_41 d_Law_law_329 rfl ⟨by decide, by decide⟩ ⟨by decide, by decide⟩ (Nat.le_of_ble_eq_true rfl) (fun z1 σ1 hz1 hp1 => ?_)
  obtain ⟨d1, q1, c1, f1⟩ := hp1
  have hM1 := lwM_up hM f1
  obtain ⟨fs2, e2⟩ := lwM_0 hM1
  show vV G X 600000 7302250 332 [(3, .int (iv ((i : Nat) : Int))), (2, .ref (ad 358)), (1, .ref (ad 0)), (0, .ref b)] [.int (iv z1)] (ov fZ ad 400 σ1)
  refine v_aload_n hX d_Law_law_332 1 rfl ?_
  refine v_aload_n hX d_Law_law_333 3 rfl ?_
  refine v_iload_n hX d_Law_law_334 0 rfl ?_
  refine v_iconst hX 1 d_Law_law_335 ?_
  refine v_iadd hX d_Law_law_336 ?_
  refine v_sld hX hS hL (i + 1) (by omega) (by omega) d_Law_law_337 ?_
  refine v_aload_n hX d_Law_law_338 3 rfl ?_
  refine v_iload_n hX d_Law_law_339 0 rfl ?_
  refine v_iconst hX 2 d_Law_law_340 ?_
  refine v_iadd hX d_Law_law_341 ?_
  refine v_sld hX hS hL (i + 2) (by omega) (by omega) d_Law_law_342 ?_
  refine g_callVI (As := [.int (iv (xs (i + 1)).toInt), .int (iv (xs (i + 2)).toInt)]) (st := [.int (iv z1)]) hX hj (i := 358) (by decide) e2 (r_count hj (xs (i + 1)).toInt (xs (i + 2)).toInt (ir_back _) (ir_back _) hM1) cl_Law_44 d_Law_law_343 rfl ⟨by decide, by decide⟩ ⟨by decide, by decide⟩ (Nat.le_of_ble_eq_true rfl) (fun z2 σ2 hz2 hp2 => ?_)
  obtain ⟨d2, q2, m2, f2⟩ := hp2
  obtain ⟨ez, ed⟩ := qA_u q1 q2
  subst ed
  show vV G X 600000 7302250 346 [(3, .int (iv ((i : Nat) : Int))), (2, .ref (ad 358)), (1, .ref (ad 0)), (0, .ref b)] [.int (iv z2), .int (iv z1)] (ov fZ ad 400 σ2)
  exact v_icmp_eq (tgt := 664) hX d_Law_law_346 (by decide) hz1 hz2 (fun _ => K σ2 d1 (lwC_up c1 f2) m2) (fun q => absurd ez q)
theorem lc_gain (hX : xOk G X c_Law_law ⟨R_Law, nm, ds⟩ 4 room_1) (hS : lwX X b L xs) (hL : L ≤ 3072) (hj : adOk ad 400) {i : Nat} (hi : i + 6 ≤ L) {σ : xF} {d : xD} (hC : lwC G ad σ d) (hM : lwM G ad σ d) (K : ∀ σ' d', lwC G ad σ' d' → lwM G ad σ' d' → vV G X 600000 7302250 664 [(3, .int (iv ((i : Nat) : Int))), (2, .ref (ad 358)), (1, .ref (ad 0)), (0, .ref b)] [] (ov fZ ad 400 σ')) : vV G X 600000 7302250 351 [(3, .int (iv ((i : Nat) : Int))), (2, .ref (ad 358)), (1, .ref (ad 0)), (0, .ref b)] [] (ov fZ ad 400 σ) := by
  obtain ⟨n, val, cl, so, de, le, wo⟩ := d
  obtain ⟨fs, e0⟩ := lwC_0 hC
  refine v_aload_n hX d_Law_law_351 2 rfl ?_
  refine v_aload_n hX d_Law_law_352 3 rfl ?_
  refine v_iload_n hX d_Law_law_353 0 rfl ?_
  refine v_iconst hX 1 d_Law_law_354 ?_
  refine v_iadd hX d_Law_law_355 ?_
  refine v_sld hX hS hL (i + 1) (by omega) (by omega) d_Law_law_356 ?_
  refine v_aload_n hX d_Law_law_357 3 rfl ?_
  refine v_iload_n hX d_Law_law_358 0 rfl ?_
  refine v_iconst hX 2 d_Law_law_359 ?_
  refine v_iadd hX d_Law_law_360 ?_
  refine v_sld hX hS hL (i + 2) (by omega) (by omega) d_Law_law_361 ?_
  refine g_callVI (As := [.int (iv (xs (i + 1)).toInt), .int (iv (xs (i + 2)).toInt)]) (st := []) hX hj (i := 0) (by decide) e0 (s_gain hj (xs (i + 1)).toInt (xs (i + 2)).toInt (ir_back _) (ir_back _) hC) cl_Law_45 d_Law_law_362 rfl ⟨by decide, by decide⟩ ⟨by decide, by decide⟩ (Nat.le_of_ble_eq_true rfl) (fun z1 σ1 hz1 hp1 => ?_)
  obtain ⟨d1, q1, c1, f1⟩ := hp1
  have hM1 := lwM_up hM f1
  obtain ⟨fs2, e2⟩ := lwM_0 hM1
  show vV G X 600000 7302250 365 [(3, .int (iv ((i : Nat) : Int))), (2, .ref (ad 358)), (1, .ref (ad 0)), (0, .ref b)] [.int (iv z1)] (ov fZ ad 400 σ1)
  refine v_aload_n hX d_Law_law_365 1 rfl ?_
  refine v_aload_n hX d_Law_law_366 3 rfl ?_
  refine v_iload_n hX d_Law_law_367 0 rfl ?_
  refine v_iconst hX 1 d_Law_law_368 ?_
  refine v_iadd hX d_Law_law_369 ?_
  refine v_sld hX hS hL (i + 1) (by omega) (by omega) d_Law_law_370 ?_
  refine v_aload_n hX d_Law_law_371 3 rfl ?_
  refine v_iload_n hX d_Law_law_372 0 rfl ?_
  refine v_iconst hX 2 d_Law_law_373 ?_
  refine v_iadd hX d_Law_law_374 ?_
  refine v_sld hX hS hL (i + 2) (by omega) (by omega) d_Law_law_375 ?_
  refine g_callVI (As := [.int (iv (xs (i + 1)).toInt), .int (iv (xs (i + 2)).toInt)]) (st := [.int (iv z1)]) hX hj (i := 358) (by decide) e2 (r_gain hj (xs (i + 1)).toInt (xs (i + 2)).toInt (ir_back _) (ir_back _) hM1) cl_Law_48 d_Law_law_376 rfl ⟨by decide, by decide⟩ ⟨by decide, by decide⟩ (Nat.le_of_ble_eq_true rfl) (fun z2 σ2 hz2 hp2 => ?_)
  obtain ⟨d2, q2, m2, f2⟩ := hp2
  obtain ⟨ez, ed⟩ := qA_u q1 q2
  subst ed
  show vV G X 600000 7302250 379 [(3, .int (iv ((i : Nat) : Int))), (2, .ref (ad 358)), (1, .ref (ad 0)), (0, .ref b)] [.int (iv z2), .int (iv z1)] (ov fZ ad 400 σ2)
  exact v_icmp_eq (tgt := 664) hX d_Law_law_379 (by decide) hz1 hz2 (fun _ => K σ2 d1 (lwC_up c1 f2) m2) (fun q => absurd ez q)
theorem lc_leaf (hX : xOk G X c_Law_law ⟨R_Law, nm, ds⟩ 4 room_1) (hS : lwX X b L xs) (hL : L ≤ 3072) (hj : adOk ad 400) {i : Nat} (hi : i + 6 ≤ L) {σ : xF} {d : xD} (hC : lwC G ad σ d) (hM : lwM G ad σ d) (K : ∀ σ' d', lwC G ad σ' d' → lwM G ad σ' d' → vV G X 600000 7302250 664 [(3, .int (iv ((i : Nat) : Int))), (2, .ref (ad 358)), (1, .ref (ad 0)), (0, .ref b)] [] (ov fZ ad 400 σ')) : vV G X 600000 7302250 384 [(3, .int (iv ((i : Nat) : Int))), (2, .ref (ad 358)), (1, .ref (ad 0)), (0, .ref b)] [] (ov fZ ad 400 σ) := by
  obtain ⟨n, val, cl, so, de, le, wo⟩ := d
  obtain ⟨fs, e0⟩ := lwC_0 hC
  refine v_aload_n hX d_Law_law_384 2 rfl ?_
  refine v_aload_n hX d_Law_law_385 3 rfl ?_
  refine v_iload_n hX d_Law_law_386 0 rfl ?_
  refine v_iconst hX 1 d_Law_law_387 ?_
  refine v_iadd hX d_Law_law_388 ?_
  refine v_sld hX hS hL (i + 1) (by omega) (by omega) d_Law_law_389 ?_
  refine v_aload_n hX d_Law_law_390 3 rfl ?_
  refine v_iload_n hX d_Law_law_391 0 rfl ?_
  refine v_iconst hX 2 d_Law_law_392 ?_
  refine v_iadd hX d_Law_law_393 ?_
  refine v_sld hX hS hL (i + 2) (by omega) (by omega) d_Law_law_394 ?_
  refine v_aload_n hX d_Law_law_395 3 rfl ?_
  refine v_iload_n hX d_Law_law_396 0 rfl ?_
  refine v_iconst hX 3 d_Law_law_397 ?_
  refine v_iadd hX d_Law_law_398 ?_
  refine v_sld hX hS hL (i + 3) (by omega) (by omega) d_Law_law_399 ?_
  refine v_aload_n hX d_Law_law_400 3 rfl ?_
  refine v_iload_n hX d_Law_law_401 0 rfl ?_
  refine v_iconst hX 4 d_Law_law_402 ?_
  refine v_iadd hX d_Law_law_403 ?_
  refine v_sld hX hS hL (i + 4) (by omega) (by omega) d_Law_law_404 ?_
  refine g_callVI (As := [.int (iv (xs (i + 1)).toInt), .int (iv (xs (i + 2)).toInt), .int (iv (xs (i + 3)).toInt), .int (iv (xs (i + 4)).toInt)]) (st := []) hX hj (i := 0) (by decide) e0 (s_leaf hj (xs (i + 1)).toInt (xs (i + 2)).toInt (xs (i + 3)).toInt (xs (i + 4)).toInt (ir_back _) (ir_back _) (ir_back _) (ir_back _) hC) cl_Law_49 d_Law_law_405 rfl ⟨by decide, by decide⟩ ⟨by decide, by decide⟩ (Nat.le_of_ble_eq_true rfl) (fun z1 σ1 hz1 hp1 => ?_)
  obtain ⟨d1, q1, c1, f1⟩ := hp1
  have hM1 := lwM_up hM f1
  obtain ⟨fs2, e2⟩ := lwM_0 hM1
  show vV G X 600000 7302250 408 [(3, .int (iv ((i : Nat) : Int))), (2, .ref (ad 358)), (1, .ref (ad 0)), (0, .ref b)] [.int (iv z1)] (ov fZ ad 400 σ1)
  refine v_aload_n hX d_Law_law_408 1 rfl ?_
  refine v_aload_n hX d_Law_law_409 3 rfl ?_
  refine v_iload_n hX d_Law_law_410 0 rfl ?_
  refine v_iconst hX 1 d_Law_law_411 ?_
  refine v_iadd hX d_Law_law_412 ?_
  refine v_sld hX hS hL (i + 1) (by omega) (by omega) d_Law_law_413 ?_
  refine v_aload_n hX d_Law_law_414 3 rfl ?_
  refine v_iload_n hX d_Law_law_415 0 rfl ?_
  refine v_iconst hX 2 d_Law_law_416 ?_
  refine v_iadd hX d_Law_law_417 ?_
  refine v_sld hX hS hL (i + 2) (by omega) (by omega) d_Law_law_418 ?_
  refine v_aload_n hX d_Law_law_419 3 rfl ?_
  refine v_iload_n hX d_Law_law_420 0 rfl ?_
  refine v_iconst hX 3 d_Law_law_421 ?_
  refine v_iadd hX d_Law_law_422 ?_
  refine v_sld hX hS hL (i + 3) (by omega) (by omega) d_Law_law_423 ?_
  refine v_aload_n hX d_Law_law_424 3 rfl ?_
  refine v_iload_n hX d_Law_law_425 0 rfl ?_
  refine v_iconst hX 4 d_Law_law_426 ?_
  refine v_iadd hX d_Law_law_427 ?_
  refine v_sld hX hS hL (i + 4) (by omega) (by omega) d_Law_law_428 ?_
  refine g_callVI (As := [.int (iv (xs (i + 1)).toInt), .int (iv (xs (i + 2)).toInt), .int (iv (xs (i + 3)).toInt), .int (iv (xs (i + 4)).toInt)]) (st := [.int (iv z1)]) hX hj (i := 358) (by decide) e2 (r_leaf hj (xs (i + 1)).toInt (xs (i + 2)).toInt (xs (i + 3)).toInt (xs (i + 4)).toInt (ir_back _) (ir_back _) (ir_back _) (ir_back _) hM1) cl_Law_53 d_Law_law_429 rfl ⟨by decide, by decide⟩ ⟨by decide, by decide⟩ (Nat.le_of_ble_eq_true rfl) (fun z2 σ2 hz2 hp2 => ?_)
  obtain ⟨d2, q2, m2, f2⟩ := hp2
  obtain ⟨ez, ed⟩ := qA_u q1 q2
  subst ed
  show vV G X 600000 7302250 432 [(3, .int (iv ((i : Nat) : Int))), (2, .ref (ad 358)), (1, .ref (ad 0)), (0, .ref b)] [.int (iv z2), .int (iv z1)] (ov fZ ad 400 σ2)
  exact v_icmp_eq (tgt := 664) hX d_Law_law_432 (by decide) hz1 hz2 (fun _ => K σ2 d1 (lwC_up c1 f2) m2) (fun q => absurd ez q)
theorem lc_leafOf (hX : xOk G X c_Law_law ⟨R_Law, nm, ds⟩ 4 room_1) (hS : lwX X b L xs) (hL : L ≤ 3072) (hj : adOk ad 400) {i : Nat} (hi : i + 6 ≤ L) {σ : xF} {d : xD} (hC : lwC G ad σ d) (hM : lwM G ad σ d) (K : ∀ σ' d', lwC G ad σ' d' → lwM G ad σ' d' → vV G X 600000 7302250 664 [(3, .int (iv ((i : Nat) : Int))), (2, .ref (ad 358)), (1, .ref (ad 0)), (0, .ref b)] [] (ov fZ ad 400 σ')) : vV G X 600000 7302250 437 [(3, .int (iv ((i : Nat) : Int))), (2, .ref (ad 358)), (1, .ref (ad 0)), (0, .ref b)] [] (ov fZ ad 400 σ) := by
  obtain ⟨n, val, cl, so, de, le, wo⟩ := d
  obtain ⟨fs, e0⟩ := lwC_0 hC
  refine v_aload_n hX d_Law_law_437 2 rfl ?_
  refine v_aload_n hX d_Law_law_438 3 rfl ?_
  refine v_iload_n hX d_Law_law_439 0 rfl ?_
  refine v_iconst hX 1 d_Law_law_440 ?_
  refine v_iadd hX d_Law_law_441 ?_
  refine v_sld hX hS hL (i + 1) (by omega) (by omega) d_Law_law_442 ?_
  refine g_callVI (As := [.int (iv (xs (i + 1)).toInt)]) (st := []) hX hj (i := 0) (by decide) e0 (s_leafOf hj (xs (i + 1)).toInt (ir_back _) hC) cl_Law_54 d_Law_law_443 rfl ⟨by decide, by decide⟩ ⟨by decide, by decide⟩ (Nat.le_of_ble_eq_true rfl) (fun z1 σ1 hz1 hp1 => ?_)
  obtain ⟨d1, q1, c1, f1⟩ := hp1
  have hM1 := lwM_up hM f1
  obtain ⟨fs2, e2⟩ := lwM_0 hM1
  show vV G X 600000 7302250 446 [(3, .int (iv ((i : Nat) : Int))), (2, .ref (ad 358)), (1, .ref (ad 0)), (0, .ref b)] [.int (iv z1)] (ov fZ ad 400 σ1)
  refine v_aload_n hX d_Law_law_446 1 rfl ?_
  refine v_aload_n hX d_Law_law_447 3 rfl ?_
  refine v_iload_n hX d_Law_law_448 0 rfl ?_
  refine v_iconst hX 1 d_Law_law_449 ?_
  refine v_iadd hX d_Law_law_450 ?_
  refine v_sld hX hS hL (i + 1) (by omega) (by omega) d_Law_law_451 ?_
  refine g_callVI (As := [.int (iv (xs (i + 1)).toInt)]) (st := [.int (iv z1)]) hX hj (i := 358) (by decide) e2 (r_leafOf hj (xs (i + 1)).toInt (ir_back _) hM1) cl_Law_58 d_Law_law_452 rfl ⟨by decide, by decide⟩ ⟨by decide, by decide⟩ (Nat.le_of_ble_eq_true rfl) (fun z2 σ2 hz2 hp2 => ?_)
  obtain ⟨d2, q2, m2, f2⟩ := hp2
  obtain ⟨ez, ed⟩ := qA_u q1 q2
  subst ed
  show vV G X 600000 7302250 455 [(3, .int (iv ((i : Nat) : Int))), (2, .ref (ad 358)), (1, .ref (ad 0)), (0, .ref b)] [.int (iv z2), .int (iv z1)] (ov fZ ad 400 σ2)
  exact v_icmp_eq (tgt := 664) hX d_Law_law_455 (by decide) hz1 hz2 (fun _ => K σ2 d1 (lwC_up c1 f2) m2) (fun q => absurd ez q)
theorem lc_cuts (hX : xOk G X c_Law_law ⟨R_Law, nm, ds⟩ 4 room_1) (hS : lwX X b L xs) (hL : L ≤ 3072) (hj : adOk ad 400) {i : Nat} (hi : i + 6 ≤ L) {σ : xF} {d : xD} (hC : lwC G ad σ d) (hM : lwM G ad σ d) (K : ∀ σ' d', lwC G ad σ' d' → lwM G ad σ' d' → vV G X 600000 7302250 664 [(3, .int (iv ((i : Nat) : Int))), (2, .ref (ad 358)), (1, .ref (ad 0)), (0, .ref b)] [] (ov fZ ad 400 σ')) : vV G X 600000 7302250 460 [(3, .int (iv ((i : Nat) : Int))), (2, .ref (ad 358)), (1, .ref (ad 0)), (0, .ref b)] [] (ov fZ ad 400 σ) := by
  obtain ⟨n, val, cl, so, de, le, wo⟩ := d
  obtain ⟨fs, e0⟩ := lwC_0 hC
  refine v_aload_n hX d_Law_law_460 2 rfl ?_
  refine g_callVI (As := []) (st := []) hX hj (i := 0) (by decide) e0 (s_cuts hj   hC) cl_Law_59 d_Law_law_461 rfl ⟨by decide, by decide⟩ ⟨by decide, by decide⟩ (Nat.le_of_ble_eq_true rfl) (fun z1 σ1 hz1 hp1 => ?_)
  obtain ⟨d1, q1, c1, f1⟩ := hp1
  have hM1 := lwM_up hM f1
  obtain ⟨fs2, e2⟩ := lwM_0 hM1
  show vV G X 600000 7302250 464 [(3, .int (iv ((i : Nat) : Int))), (2, .ref (ad 358)), (1, .ref (ad 0)), (0, .ref b)] [.int (iv z1)] (ov fZ ad 400 σ1)
  refine v_aload_n hX d_Law_law_464 1 rfl ?_
  refine g_callVI (As := []) (st := [.int (iv z1)]) hX hj (i := 358) (by decide) e2 (r_cuts hj   hM1) cl_Law_62 d_Law_law_465 rfl ⟨by decide, by decide⟩ ⟨by decide, by decide⟩ (Nat.le_of_ble_eq_true rfl) (fun z2 σ2 hz2 hp2 => ?_)
  obtain ⟨d2, q2, m2, f2⟩ := hp2
  obtain ⟨ez, ed⟩ := qA_u q1 q2
  subst ed
  show vV G X 600000 7302250 468 [(3, .int (iv ((i : Nat) : Int))), (2, .ref (ad 358)), (1, .ref (ad 0)), (0, .ref b)] [.int (iv z2), .int (iv z1)] (ov fZ ad 400 σ2)
  exact v_icmp_eq (tgt := 664) hX d_Law_law_468 (by decide) hz1 hz2 (fun _ => K σ2 d1 (lwC_up c1 f2) m2) (fun q => absurd ez q)
theorem lc_cutGain (hX : xOk G X c_Law_law ⟨R_Law, nm, ds⟩ 4 room_1) (hS : lwX X b L xs) (hL : L ≤ 3072) (hj : adOk ad 400) {i : Nat} (hi : i + 6 ≤ L) {σ : xF} {d : xD} (hC : lwC G ad σ d) (hM : lwM G ad σ d) (K : ∀ σ' d', lwC G ad σ' d' → lwM G ad σ' d' → vV G X 600000 7302250 664 [(3, .int (iv ((i : Nat) : Int))), (2, .ref (ad 358)), (1, .ref (ad 0)), (0, .ref b)] [] (ov fZ ad 400 σ')) : vV G X 600000 7302250 473 [(3, .int (iv ((i : Nat) : Int))), (2, .ref (ad 358)), (1, .ref (ad 0)), (0, .ref b)] [] (ov fZ ad 400 σ) := by
  obtain ⟨n, val, cl, so, de, le, wo⟩ := d
  obtain ⟨fs, e0⟩ := lwC_0 hC
  refine v_aload_n hX d_Law_law_473 2 rfl ?_
  refine v_aload_n hX d_Law_law_474 3 rfl ?_
  refine v_iload_n hX d_Law_law_475 0 rfl ?_
  refine v_iconst hX 1 d_Law_law_476 ?_
  refine v_iadd hX d_Law_law_477 ?_
  refine v_sld hX hS hL (i + 1) (by omega) (by omega) d_Law_law_478 ?_
  refine v_aload_n hX d_Law_law_479 3 rfl ?_
  refine v_iload_n hX d_Law_law_480 0 rfl ?_
  refine v_iconst hX 2 d_Law_law_481 ?_
  refine v_iadd hX d_Law_law_482 ?_
  refine v_sld hX hS hL (i + 2) (by omega) (by omega) d_Law_law_483 ?_
  refine v_aload_n hX d_Law_law_484 3 rfl ?_
  refine v_iload_n hX d_Law_law_485 0 rfl ?_
  refine v_iconst hX 3 d_Law_law_486 ?_
  refine v_iadd hX d_Law_law_487 ?_
  refine v_sld hX hS hL (i + 3) (by omega) (by omega) d_Law_law_488 ?_
  refine v_aload_n hX d_Law_law_489 3 rfl ?_
  refine v_iload_n hX d_Law_law_490 0 rfl ?_
  refine v_iconst hX 4 d_Law_law_491 ?_
  refine v_iadd hX d_Law_law_492 ?_
  refine v_sld hX hS hL (i + 4) (by omega) (by omega) d_Law_law_493 ?_
  refine g_callVI (As := [.int (iv (xs (i + 1)).toInt), .int (iv (xs (i + 2)).toInt), .int (iv (xs (i + 3)).toInt), .int (iv (xs (i + 4)).toInt)]) (st := []) hX hj (i := 0) (by decide) e0 (s_cutGain hj (xs (i + 1)).toInt (xs (i + 2)).toInt (xs (i + 3)).toInt (xs (i + 4)).toInt (ir_back _) (ir_back _) (ir_back _) (ir_back _) hC) cl_Law_63 d_Law_law_494 rfl ⟨by decide, by decide⟩ ⟨by decide, by decide⟩ (Nat.le_of_ble_eq_true rfl) (fun z1 σ1 hz1 hp1 => ?_)
  obtain ⟨d1, q1, c1, f1⟩ := hp1
  have hM1 := lwM_up hM f1
  obtain ⟨fs2, e2⟩ := lwM_0 hM1
  show vV G X 600000 7302250 497 [(3, .int (iv ((i : Nat) : Int))), (2, .ref (ad 358)), (1, .ref (ad 0)), (0, .ref b)] [.int (iv z1)] (ov fZ ad 400 σ1)
  refine v_aload_n hX d_Law_law_497 1 rfl ?_
  refine v_aload_n hX d_Law_law_498 3 rfl ?_
  refine v_iload_n hX d_Law_law_499 0 rfl ?_
  refine v_iconst hX 1 d_Law_law_500 ?_
  refine v_iadd hX d_Law_law_501 ?_
  refine v_sld hX hS hL (i + 1) (by omega) (by omega) d_Law_law_502 ?_
  refine v_aload_n hX d_Law_law_503 3 rfl ?_
  refine v_iload_n hX d_Law_law_504 0 rfl ?_
  refine v_iconst hX 2 d_Law_law_505 ?_
  refine v_iadd hX d_Law_law_506 ?_
  refine v_sld hX hS hL (i + 2) (by omega) (by omega) d_Law_law_507 ?_
  refine v_aload_n hX d_Law_law_508 3 rfl ?_
  refine v_iload_n hX d_Law_law_509 0 rfl ?_
  refine v_iconst hX 3 d_Law_law_510 ?_
  refine v_iadd hX d_Law_law_511 ?_
  refine v_sld hX hS hL (i + 3) (by omega) (by omega) d_Law_law_512 ?_
  refine v_aload_n hX d_Law_law_513 3 rfl ?_
  refine v_iload_n hX d_Law_law_514 0 rfl ?_
  refine v_iconst hX 4 d_Law_law_515 ?_
  refine v_iadd hX d_Law_law_516 ?_
  refine v_sld hX hS hL (i + 4) (by omega) (by omega) d_Law_law_517 ?_
  refine g_callVI (As := [.int (iv (xs (i + 1)).toInt), .int (iv (xs (i + 2)).toInt), .int (iv (xs (i + 3)).toInt), .int (iv (xs (i + 4)).toInt)]) (st := [.int (iv z1)]) hX hj (i := 358) (by decide) e2 (r_cutGain hj (xs (i + 1)).toInt (xs (i + 2)).toInt (xs (i + 3)).toInt (xs (i + 4)).toInt (ir_back _) (ir_back _) (ir_back _) (ir_back _) hM1) cl_Law_66 d_Law_law_518 rfl ⟨by decide, by decide⟩ ⟨by decide, by decide⟩ (Nat.le_of_ble_eq_true rfl) (fun z2 σ2 hz2 hp2 => ?_)
  obtain ⟨d2, q2, m2, f2⟩ := hp2
  obtain ⟨ez, ed⟩ := qA_u q1 q2
  subst ed
  show vV G X 600000 7302250 521 [(3, .int (iv ((i : Nat) : Int))), (2, .ref (ad 358)), (1, .ref (ad 0)), (0, .ref b)] [.int (iv z2), .int (iv z1)] (ov fZ ad 400 σ2)
  exact v_icmp_eq (tgt := 664) hX d_Law_law_521 (by decide) hz1 hz2 (fun _ => K σ2 d1 (lwC_up c1 f2) m2) (fun q => absurd ez q)
theorem lc_stages (hX : xOk G X c_Law_law ⟨R_Law, nm, ds⟩ 4 room_1) (hS : lwX X b L xs) (hL : L ≤ 3072) (hj : adOk ad 400) {i : Nat} (hi : i + 6 ≤ L) {σ : xF} {d : xD} (hC : lwC G ad σ d) (hM : lwM G ad σ d) (K : ∀ σ' d', lwC G ad σ' d' → lwM G ad σ' d' → vV G X 600000 7302250 664 [(3, .int (iv ((i : Nat) : Int))), (2, .ref (ad 358)), (1, .ref (ad 0)), (0, .ref b)] [] (ov fZ ad 400 σ')) : vV G X 600000 7302250 526 [(3, .int (iv ((i : Nat) : Int))), (2, .ref (ad 358)), (1, .ref (ad 0)), (0, .ref b)] [] (ov fZ ad 400 σ) := by
  obtain ⟨n, val, cl, so, de, le, wo⟩ := d
  obtain ⟨fs, e0⟩ := lwC_0 hC
  refine v_aload_n hX d_Law_law_526 2 rfl ?_
  refine g_callVI (As := []) (st := []) hX hj (i := 0) (by decide) e0 (s_stages hj   hC) cl_Law_67 d_Law_law_527 rfl ⟨by decide, by decide⟩ ⟨by decide, by decide⟩ (Nat.le_of_ble_eq_true rfl) (fun z1 σ1 hz1 hp1 => ?_)
  obtain ⟨d1, q1, c1, f1⟩ := hp1
  have hM1 := lwM_up hM f1
  obtain ⟨fs2, e2⟩ := lwM_0 hM1
  show vV G X 600000 7302250 530 [(3, .int (iv ((i : Nat) : Int))), (2, .ref (ad 358)), (1, .ref (ad 0)), (0, .ref b)] [.int (iv z1)] (ov fZ ad 400 σ1)
  refine v_aload_n hX d_Law_law_530 1 rfl ?_
  refine g_callVI (As := []) (st := [.int (iv z1)]) hX hj (i := 358) (by decide) e2 (r_stages hj   hM1) cl_Law_70 d_Law_law_531 rfl ⟨by decide, by decide⟩ ⟨by decide, by decide⟩ (Nat.le_of_ble_eq_true rfl) (fun z2 σ2 hz2 hp2 => ?_)
  obtain ⟨d2, q2, m2, f2⟩ := hp2
  obtain ⟨ez, ed⟩ := qE_u q1 q2
  subst ed
  show vV G X 600000 7302250 534 [(3, .int (iv ((i : Nat) : Int))), (2, .ref (ad 358)), (1, .ref (ad 0)), (0, .ref b)] [.int (iv z2), .int (iv z1)] (ov fZ ad 400 σ2)
  exact v_icmp_eq (tgt := 664) hX d_Law_law_534 (by decide) hz1 hz2 (fun _ => K σ2 d1 (lwC_up c1 f2) m2) (fun q => absurd ez q)
theorem lc_alpha (hX : xOk G X c_Law_law ⟨R_Law, nm, ds⟩ 4 room_1) (hS : lwX X b L xs) (hL : L ≤ 3072) (hj : adOk ad 400) {i : Nat} (hi : i + 6 ≤ L) {σ : xF} {d : xD} (hC : lwC G ad σ d) (hM : lwM G ad σ d) (K : ∀ σ' d', lwC G ad σ' d' → lwM G ad σ' d' → vV G X 600000 7302250 664 [(3, .int (iv ((i : Nat) : Int))), (2, .ref (ad 358)), (1, .ref (ad 0)), (0, .ref b)] [] (ov fZ ad 400 σ')) : vV G X 600000 7302250 539 [(3, .int (iv ((i : Nat) : Int))), (2, .ref (ad 358)), (1, .ref (ad 0)), (0, .ref b)] [] (ov fZ ad 400 σ) := by
  obtain ⟨n, val, cl, so, de, le, wo⟩ := d
  obtain ⟨fs, e0⟩ := lwC_0 hC
  refine v_aload_n hX d_Law_law_539 2 rfl ?_
  refine v_aload_n hX d_Law_law_540 3 rfl ?_
  refine v_iload_n hX d_Law_law_541 0 rfl ?_
  refine v_iconst hX 1 d_Law_law_542 ?_
  refine v_iadd hX d_Law_law_543 ?_
  refine v_sld hX hS hL (i + 1) (by omega) (by omega) d_Law_law_544 ?_
  refine v_aload_n hX d_Law_law_545 3 rfl ?_
  refine v_iload_n hX d_Law_law_546 0 rfl ?_
  refine v_iconst hX 2 d_Law_law_547 ?_
  refine v_iadd hX d_Law_law_548 ?_
  refine v_sld hX hS hL (i + 2) (by omega) (by omega) d_Law_law_549 ?_
  refine g_callVI (As := [.int (iv (xs (i + 1)).toInt), .int (iv (xs (i + 2)).toInt)]) (st := []) hX hj (i := 0) (by decide) e0 (s_alpha hj (xs (i + 1)).toInt (xs (i + 2)).toInt (ir_back _) (ir_back _) hC) cl_Law_71 d_Law_law_550 rfl ⟨by decide, by decide⟩ ⟨by decide, by decide⟩ (Nat.le_of_ble_eq_true rfl) (fun z1 σ1 hz1 hp1 => ?_)
  obtain ⟨d1, q1, c1, f1⟩ := hp1
  have hM1 := lwM_up hM f1
  obtain ⟨fs2, e2⟩ := lwM_0 hM1
  show vV G X 600000 7302250 553 [(3, .int (iv ((i : Nat) : Int))), (2, .ref (ad 358)), (1, .ref (ad 0)), (0, .ref b)] [.int (iv z1)] (ov fZ ad 400 σ1)
  refine v_aload_n hX d_Law_law_553 1 rfl ?_
  refine v_aload_n hX d_Law_law_554 3 rfl ?_
  refine v_iload_n hX d_Law_law_555 0 rfl ?_
  refine v_iconst hX 1 d_Law_law_556 ?_
  refine v_iadd hX d_Law_law_557 ?_
  refine v_sld hX hS hL (i + 1) (by omega) (by omega) d_Law_law_558 ?_
  refine v_aload_n hX d_Law_law_559 3 rfl ?_
  refine v_iload_n hX d_Law_law_560 0 rfl ?_
  refine v_iconst hX 2 d_Law_law_561 ?_
  refine v_iadd hX d_Law_law_562 ?_
  refine v_sld hX hS hL (i + 2) (by omega) (by omega) d_Law_law_563 ?_
  refine g_callVI (As := [.int (iv (xs (i + 1)).toInt), .int (iv (xs (i + 2)).toInt)]) (st := [.int (iv z1)]) hX hj (i := 358) (by decide) e2 (r_alpha hj (xs (i + 1)).toInt (xs (i + 2)).toInt (ir_back _) (ir_back _) hM1) cl_Law_74 d_Law_law_564 rfl ⟨by decide, by decide⟩ ⟨by decide, by decide⟩ (Nat.le_of_ble_eq_true rfl) (fun z2 σ2 hz2 hp2 => ?_)
  obtain ⟨d2, q2, m2, f2⟩ := hp2
  obtain ⟨ez, ed⟩ := qE_u q1 q2
  subst ed
  show vV G X 600000 7302250 567 [(3, .int (iv ((i : Nat) : Int))), (2, .ref (ad 358)), (1, .ref (ad 0)), (0, .ref b)] [.int (iv z2), .int (iv z1)] (ov fZ ad 400 σ2)
  exact v_icmp_eq (tgt := 664) hX d_Law_law_567 (by decide) hz1 hz2 (fun _ => K σ2 d1 (lwC_up c1 f2) m2) (fun q => absurd ez q)
theorem lc_leaves (hX : xOk G X c_Law_law ⟨R_Law, nm, ds⟩ 4 room_1) (hS : lwX X b L xs) (hL : L ≤ 3072) (hj : adOk ad 400) {i : Nat} (hi : i + 6 ≤ L) {σ : xF} {d : xD} (hC : lwC G ad σ d) (hM : lwM G ad σ d) (K : ∀ σ' d', lwC G ad σ' d' → lwM G ad σ' d' → vV G X 600000 7302250 664 [(3, .int (iv ((i : Nat) : Int))), (2, .ref (ad 358)), (1, .ref (ad 0)), (0, .ref b)] [] (ov fZ ad 400 σ')) : vV G X 600000 7302250 572 [(3, .int (iv ((i : Nat) : Int))), (2, .ref (ad 358)), (1, .ref (ad 0)), (0, .ref b)] [] (ov fZ ad 400 σ) := by
  obtain ⟨n, val, cl, so, de, le, wo⟩ := d
  obtain ⟨fs, e0⟩ := lwC_0 hC
  refine v_aload_n hX d_Law_law_572 2 rfl ?_
  refine v_aload_n hX d_Law_law_573 3 rfl ?_
  refine v_iload_n hX d_Law_law_574 0 rfl ?_
  refine v_iconst hX 1 d_Law_law_575 ?_
  refine v_iadd hX d_Law_law_576 ?_
  refine v_sld hX hS hL (i + 1) (by omega) (by omega) d_Law_law_577 ?_
  refine g_callVI (As := [.int (iv (xs (i + 1)).toInt)]) (st := []) hX hj (i := 0) (by decide) e0 (s_leaves hj (xs (i + 1)).toInt (ir_back _) hC) cl_Law_75 d_Law_law_578 rfl ⟨by decide, by decide⟩ ⟨by decide, by decide⟩ (Nat.le_of_ble_eq_true rfl) (fun z1 σ1 hz1 hp1 => ?_)
  obtain ⟨d1, q1, c1, f1⟩ := hp1
  have hM1 := lwM_up hM f1
  obtain ⟨fs2, e2⟩ := lwM_0 hM1
  show vV G X 600000 7302250 581 [(3, .int (iv ((i : Nat) : Int))), (2, .ref (ad 358)), (1, .ref (ad 0)), (0, .ref b)] [.int (iv z1)] (ov fZ ad 400 σ1)
  refine v_aload_n hX d_Law_law_581 1 rfl ?_
  refine v_aload_n hX d_Law_law_582 3 rfl ?_
  refine v_iload_n hX d_Law_law_583 0 rfl ?_
  refine v_iconst hX 1 d_Law_law_584 ?_
  refine v_iadd hX d_Law_law_585 ?_
  refine v_sld hX hS hL (i + 1) (by omega) (by omega) d_Law_law_586 ?_
  refine g_callVI (As := [.int (iv (xs (i + 1)).toInt)]) (st := [.int (iv z1)]) hX hj (i := 358) (by decide) e2 (r_leaves hj (xs (i + 1)).toInt (ir_back _) hM1) cl_Law_78 d_Law_law_587 rfl ⟨by decide, by decide⟩ ⟨by decide, by decide⟩ (Nat.le_of_ble_eq_true rfl) (fun z2 σ2 hz2 hp2 => ?_)
  obtain ⟨d2, q2, m2, f2⟩ := hp2
  obtain ⟨ez, ed⟩ := qE_u q1 q2
  subst ed
  show vV G X 600000 7302250 590 [(3, .int (iv ((i : Nat) : Int))), (2, .ref (ad 358)), (1, .ref (ad 0)), (0, .ref b)] [.int (iv z2), .int (iv z1)] (ov fZ ad 400 σ2)
  exact v_icmp_eq (tgt := 664) hX d_Law_law_590 (by decide) hz1 hz2 (fun _ => K σ2 d1 (lwC_up c1 f2) m2) (fun q => absurd ez q)
theorem lc_wrong (hX : xOk G X c_Law_law ⟨R_Law, nm, ds⟩ 4 room_1) (hS : lwX X b L xs) (hL : L ≤ 3072) (hj : adOk ad 400) {i : Nat} (hi : i + 6 ≤ L) {σ : xF} {d : xD} (hC : lwC G ad σ d) (hM : lwM G ad σ d) (K : ∀ σ' d', lwC G ad σ' d' → lwM G ad σ' d' → vV G X 600000 7302250 664 [(3, .int (iv ((i : Nat) : Int))), (2, .ref (ad 358)), (1, .ref (ad 0)), (0, .ref b)] [] (ov fZ ad 400 σ')) : vV G X 600000 7302250 595 [(3, .int (iv ((i : Nat) : Int))), (2, .ref (ad 358)), (1, .ref (ad 0)), (0, .ref b)] [] (ov fZ ad 400 σ) := by
  obtain ⟨n, val, cl, so, de, le, wo⟩ := d
  obtain ⟨fs, e0⟩ := lwC_0 hC
  refine v_aload_n hX d_Law_law_595 2 rfl ?_
  refine v_aload_n hX d_Law_law_596 3 rfl ?_
  refine v_iload_n hX d_Law_law_597 0 rfl ?_
  refine v_iconst hX 1 d_Law_law_598 ?_
  refine v_iadd hX d_Law_law_599 ?_
  refine v_sld hX hS hL (i + 1) (by omega) (by omega) d_Law_law_600 ?_
  refine g_callVI (As := [.int (iv (xs (i + 1)).toInt)]) (st := []) hX hj (i := 0) (by decide) e0 (s_wrong hj (xs (i + 1)).toInt (ir_back _) hC) cl_Law_79 d_Law_law_601 rfl ⟨by decide, by decide⟩ ⟨by decide, by decide⟩ (Nat.le_of_ble_eq_true rfl) (fun z1 σ1 hz1 hp1 => ?_)
  obtain ⟨d1, q1, c1, f1⟩ := hp1
  have hM1 := lwM_up hM f1
  obtain ⟨fs2, e2⟩ := lwM_0 hM1
  show vV G X 600000 7302250 604 [(3, .int (iv ((i : Nat) : Int))), (2, .ref (ad 358)), (1, .ref (ad 0)), (0, .ref b)] [.int (iv z1)] (ov fZ ad 400 σ1)
  refine v_aload_n hX d_Law_law_604 1 rfl ?_
  refine v_aload_n hX d_Law_law_605 3 rfl ?_
  refine v_iload_n hX d_Law_law_606 0 rfl ?_
  refine v_iconst hX 1 d_Law_law_607 ?_
  refine v_iadd hX d_Law_law_608 ?_
  refine v_sld hX hS hL (i + 1) (by omega) (by omega) d_Law_law_609 ?_
  refine g_callVI (As := [.int (iv (xs (i + 1)).toInt)]) (st := [.int (iv z1)]) hX hj (i := 358) (by decide) e2 (r_wrong hj (xs (i + 1)).toInt (ir_back _) hM1) cl_Law_82 d_Law_law_610 rfl ⟨by decide, by decide⟩ ⟨by decide, by decide⟩ (Nat.le_of_ble_eq_true rfl) (fun z2 σ2 hz2 hp2 => ?_)
  obtain ⟨d2, q2, m2, f2⟩ := hp2
  obtain ⟨ez, ed⟩ := qE_u q1 q2
  subst ed
  show vV G X 600000 7302250 613 [(3, .int (iv ((i : Nat) : Int))), (2, .ref (ad 358)), (1, .ref (ad 0)), (0, .ref b)] [.int (iv z2), .int (iv z1)] (ov fZ ad 400 σ2)
  exact v_icmp_eq (tgt := 664) hX d_Law_law_613 (by decide) hz1 hz2 (fun _ => K σ2 d1 (lwC_up c1 f2) m2) (fun q => absurd ez q)
theorem lc_state (hX : xOk G X c_Law_law ⟨R_Law, nm, ds⟩ 4 room_1) (hS : lwX X b L xs) (hL : L ≤ 3072) (hj : adOk ad 400) {i : Nat} (hi : i + 6 ≤ L) {σ : xF} {d : xD} (hC : lwC G ad σ d) (hM : lwM G ad σ d) (K : ∀ σ' d', lwC G ad σ' d' → lwM G ad σ' d' → vV G X 600000 7302250 664 [(3, .int (iv ((i : Nat) : Int))), (2, .ref (ad 358)), (1, .ref (ad 0)), (0, .ref b)] [] (ov fZ ad 400 σ')) : vV G X 600000 7302250 618 [(3, .int (iv ((i : Nat) : Int))), (2, .ref (ad 358)), (1, .ref (ad 0)), (0, .ref b)] [] (ov fZ ad 400 σ) := by
  obtain ⟨n, val, cl, so, de, le, wo⟩ := d
  obtain ⟨fs, e0⟩ := lwC_0 hC
  refine v_aload_n hX d_Law_law_618 2 rfl ?_
  refine v_aload_n hX d_Law_law_619 3 rfl ?_
  refine v_iload_n hX d_Law_law_620 0 rfl ?_
  refine v_iconst hX 1 d_Law_law_621 ?_
  refine v_iadd hX d_Law_law_622 ?_
  refine v_sld hX hS hL (i + 1) (by omega) (by omega) d_Law_law_623 ?_
  refine v_aload_n hX d_Law_law_624 3 rfl ?_
  refine v_iload_n hX d_Law_law_625 0 rfl ?_
  refine v_iconst hX 2 d_Law_law_626 ?_
  refine v_iadd hX d_Law_law_627 ?_
  refine v_sld hX hS hL (i + 2) (by omega) (by omega) d_Law_law_628 ?_
  refine g_callVI (As := [.int (iv (xs (i + 1)).toInt), .int (iv (xs (i + 2)).toInt)]) (st := []) hX hj (i := 0) (by decide) e0 (s_state hj (xs (i + 1)).toInt (xs (i + 2)).toInt (ir_back _) (ir_back _) hC) cl_Law_83 d_Law_law_629 rfl ⟨by decide, by decide⟩ ⟨by decide, by decide⟩ (Nat.le_of_ble_eq_true rfl) (fun z1 σ1 hz1 hp1 => ?_)
  obtain ⟨d1, q1, c1, f1⟩ := hp1
  have hM1 := lwM_up hM f1
  obtain ⟨fs2, e2⟩ := lwM_0 hM1
  show vV G X 600000 7302250 632 [(3, .int (iv ((i : Nat) : Int))), (2, .ref (ad 358)), (1, .ref (ad 0)), (0, .ref b)] [.int (iv z1)] (ov fZ ad 400 σ1)
  refine v_aload_n hX d_Law_law_632 1 rfl ?_
  refine v_aload_n hX d_Law_law_633 3 rfl ?_
  refine v_iload_n hX d_Law_law_634 0 rfl ?_
  refine v_iconst hX 1 d_Law_law_635 ?_
  refine v_iadd hX d_Law_law_636 ?_
  refine v_sld hX hS hL (i + 1) (by omega) (by omega) d_Law_law_637 ?_
  refine v_aload_n hX d_Law_law_638 3 rfl ?_
  refine v_iload_n hX d_Law_law_639 0 rfl ?_
  refine v_iconst hX 2 d_Law_law_640 ?_
  refine v_iadd hX d_Law_law_641 ?_
  refine v_sld hX hS hL (i + 2) (by omega) (by omega) d_Law_law_642 ?_
  refine g_callVI (As := [.int (iv (xs (i + 1)).toInt), .int (iv (xs (i + 2)).toInt)]) (st := [.int (iv z1)]) hX hj (i := 358) (by decide) e2 (r_state hj (xs (i + 1)).toInt (xs (i + 2)).toInt (ir_back _) (ir_back _) hM1) cl_Law_86 d_Law_law_643 rfl ⟨by decide, by decide⟩ ⟨by decide, by decide⟩ (Nat.le_of_ble_eq_true rfl) (fun z2 σ2 hz2 hp2 => ?_)
  obtain ⟨d2, q2, m2, f2⟩ := hp2
  obtain ⟨ez, ed⟩ := qE_u q1 q2
  subst ed
  show vV G X 600000 7302250 646 [(3, .int (iv ((i : Nat) : Int))), (2, .ref (ad 358)), (1, .ref (ad 0)), (0, .ref b)] [.int (iv z2), .int (iv z1)] (ov fZ ad 400 σ2)
  exact v_icmp_eq (tgt := 664) hX d_Law_law_646 (by decide) hz1 hz2 (fun _ => K σ2 d1 (lwC_up c1 f2) m2) (fun q => absurd ez q)
theorem lc_leftOut (hX : xOk G X c_Law_law ⟨R_Law, nm, ds⟩ 4 room_1) (hS : lwX X b L xs) (hL : L ≤ 3072) (hj : adOk ad 400) {i : Nat} (hi : i + 6 ≤ L) {σ : xF} {d : xD} (hC : lwC G ad σ d) (hM : lwM G ad σ d) (K : ∀ σ' d', lwC G ad σ' d' → lwM G ad σ' d' → vV G X 600000 7302250 664 [(3, .int (iv ((i : Nat) : Int))), (2, .ref (ad 358)), (1, .ref (ad 0)), (0, .ref b)] [] (ov fZ ad 400 σ')) : vV G X 600000 7302250 651 [(3, .int (iv ((i : Nat) : Int))), (2, .ref (ad 358)), (1, .ref (ad 0)), (0, .ref b)] [] (ov fZ ad 400 σ) := by
  obtain ⟨n, val, cl, so, de, le, wo⟩ := d
  obtain ⟨fs, e0⟩ := lwC_0 hC
  refine v_aload_n hX d_Law_law_651 2 rfl ?_
  refine g_callVI (As := []) (st := []) hX hj (i := 0) (by decide) e0 (s_leftOut hj   hC) cl_Law_87 d_Law_law_652 rfl ⟨by decide, by decide⟩ ⟨by decide, by decide⟩ (Nat.le_of_ble_eq_true rfl) (fun z1 σ1 hz1 hp1 => ?_)
  obtain ⟨d1, q1, c1, f1⟩ := hp1
  have hM1 := lwM_up hM f1
  obtain ⟨fs2, e2⟩ := lwM_0 hM1
  show vV G X 600000 7302250 655 [(3, .int (iv ((i : Nat) : Int))), (2, .ref (ad 358)), (1, .ref (ad 0)), (0, .ref b)] [.int (iv z1)] (ov fZ ad 400 σ1)
  refine v_aload_n hX d_Law_law_655 1 rfl ?_
  refine g_callVI (As := []) (st := [.int (iv z1)]) hX hj (i := 358) (by decide) e2 (r_leftOut hj   hM1) cl_Law_90 d_Law_law_656 rfl ⟨by decide, by decide⟩ ⟨by decide, by decide⟩ (Nat.le_of_ble_eq_true rfl) (fun z2 σ2 hz2 hp2 => ?_)
  obtain ⟨d2, q2, m2, f2⟩ := hp2
  obtain ⟨ez, ed⟩ := qA_u q1 q2
  subst ed
  show vV G X 600000 7302250 659 [(3, .int (iv ((i : Nat) : Int))), (2, .ref (ad 358)), (1, .ref (ad 0)), (0, .ref b)] [.int (iv z2), .int (iv z1)] (ov fZ ad 400 σ2)
  exact v_icmp_eq (tgt := 664) hX d_Law_law_659 (by decide) hz1 hz2 (fun _ => K σ2 d1 (lwC_up c1 f2) m2) (fun q => absurd ez q)
end LAW
