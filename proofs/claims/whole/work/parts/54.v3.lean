/-! LONGS: arrays, answers, division; by program -/
def eL (G : xG) (n : Nat) (g : Nat → Int) : va_E := .inl (G.2 4, n, .inr (.inl (fun j => jv (g j))))
theorem eL_ne {G : xG} {n : Nat} {g : Nat → Int} : eL G n g ≠ fNo := fun q => by cases q
theorem eL_up {G : xG} {n : Nat} (g : Nat → Int) (k : Nat) (z : Int) : (.inl (G.2 4, n, .inr (.inl (vp_updL (fun j => jv (g j)) k (jv z)))) : va_E) = eL G n (va_up g k z) := by
  have : vp_updL (fun j => jv (g j)) k (jv z) = fun j => jv (va_up g k z j) := by
    funext j
    by_cases h : j = k
    · subst h; simp [vp_updL, va_up]
    · simp [vp_updL, va_up, h]
  rw [this]; rfl
def mL (l : Launch) (G : xG) (y : MethodName) (cw : Cond) (rm : Room) (av : List Value) (f : xF) (post : Int → xF → Prop) : Prop := ∀ (L : List Nat) (sz : Nat), vW L f → Met l y (cw :: zT) rm (va_Pc av (mPre G L f sz)) (va_Ql (fun r f' => ∃ z, jr z ∧ r = jv z ∧ post z f') (mPost G (va_A (va_pl L f) sz)) (va_A (va_pl L f) sz)) rm.cells rm.slots (va_A (va_pl L f) sz)
def gL (l : Launch) (G : xG) (f0 : xF) (ad : Nat → Nat) (M : Nat) (y : MethodName) (cw : Cond) (rm : Room) (av : List Value) (σ : xF) (post : Int → xF → Prop) : Prop := mL l G y cw rm av (ov f0 ad M σ) (fun z f' => ∃ σ', f' = ov f0 ad M σ' ∧ post z σ')
theorem mL_of {l : Launch} {G : xG} {y : MethodName} {cc : ByteArray} {nL : Nat} {rm : Room} {av : List Value} {f : xF} {post : Int → xF → Prop} (hy : plainName y.cls = true) (hlen : (lg_sl av).length ≤ nL) (body : ∀ X : xT, xOk G X cc y nL rm → (∀ (pc : Nat) (lv : List (Nat × Value)) (z : Int) (f' : xF), decode cc pc = .ok (.lreturn, 1) → jr z → post z f' → vV G X rm.cells rm.slots pc lv [.long (jv z)] f') → vV G X 0 0 0 (lv_args 0 av) [] f) : mL l G y (.code y cc nL (some .long)) rm av f post := by
  intro L sz hw
  refine Met.ofW (cc := cc) (maxL := nL) (ret := some .long) hy rfl ?_
  intro p e s m args below meth c s₁ B hml hv
  obtain ⟨rfl, hsz, hP, hK, hN, hD0⟩ := hv
  have hts := atoms_spec (ws := .code y cc nL (some .long) :: zT) B.pre
  have hown : s.vm.findClass y.cls = some m.cls := findClass_of_methodNamed B.named
  subst hsz
  have hD := hD0.self (sz := s.heap.size)
  have hl := lv_entry av (n := nL) hlen
  have hlocks := B.notSynchronized
  rw [lg_entry_eq]
  refine body (p, l, e, rm, s, m, av.toArray, below, meth, c, va_A (va_pl L f) s.heap.size, s.heap, nL, MQ below (va_Ql (fun r f' => ∃ z, jr z ∧ r = jv z ∧ post z f') (mPost G (va_A (va_pl L f) s.heap.size)) (va_A (va_pl L f) s.heap.size)) av.toArray s rm.cells rm.slots (va_A (va_pl L f) s.heap.size)) ⟨B.exec, B.bytes, rfl, hml, hown, fun w hw => hts w (List.mem_cons_of_mem _ hw), hN, hK, fun q h => Or.inr h, rfl, (name_of_methodNamed B.named B.method).1⟩ ?_ L s.heap [] _ hw hP hD va_S.rf hl
  · intro pc lv z f' hd hz hp L' H locs ls h1 h2 h3 h4 h5
    exact W.lret (v := jv z) B.exec B.bytes B.returns (fun t ht hW => ⟨⟨jv z, f', rfl, ⟨z, hz, rfl, hp⟩, L', h1, by rw [ht]; exact h2, va_K.moved hW.alike hK, h3⟩, h4.F ht⟩) h4.2.2 hd
section V3
variable {G : xG} {X : xT} {cc : ByteArray} {y : MethodName} {nL : Nat} {rm : Room} {kc ks pc : Nat} {lv lv' : List (Nat × Value)} {st : List Value} {f : xF} {f0 : xF} {ad : Nat → Nat} {M : Nat} {σ : xF}
theorem v_callVL (h : xOk G X cc y nL rm) {y2 : MethodName} {bytes : ByteArray} {maxL idx n : Nat} {rmc : Room} {b : Nat} {As : List Value} {post : Int → xF → Prop} {ci : Nat} {fs : List Value} (he : f b = eO ci fs) (hM : ∀ l, mL l G y2 (.code y2 bytes maxL (some .long)) rmc (.ref b :: As) f post) (hC : CalV y.cls idx y2 (.code y2 bytes maxL (some .long)) n ci) (hdg : decode cc pc = .ok (.invokevirtual idx, 3)) (hn : As.length = n) (hroom : rmc.frames + 1 ≤ rm.frames ∧ 8 + (maxL + 11) + rmc.locals ≤ rm.locals) (hcap : kc + rmc.cells ≤ rm.cells ∧ ks + rmc.slots ≤ rm.slots) (hst : (st.map fun v => v.category).sum ≤ 8) (kk : ∀ (z : Int) (f' : xF), jr z → post z f' → vV G X (kc + rmc.cells) (ks + rmc.slots) (pc + 3) lv (.long (jv z) :: st) f') : vV G X kc ks pc lv (As.reverse ++ .ref b :: st) f := by
  obtain ⟨p, l, e, R, s, m, args, below, meth, c, A, H0, n0, Q⟩ := X
  obtain ⟨hx, hb, rfl, hml, hown, hts, hN, hK, hA, rfl, hnm⟩ := h
  obtain ⟨c1, c2, c3, c4, c5, c6, c7, T, N, c8⟩ := hC
  intro L H locs ls h1 h2 h3 h4 h5
  have hm : b ∈ L := h1.mem (by rw [he]; exact eO_ne c7)
  obtain ⟨q0, hq0⟩ := pl_get (f := f) hm
  rw [he] at hq0
  have hF : ∀ q, va_A (va_pl L f) H.size q → A q := fun q hq => by
    rcases hq with ⟨k9, e9, h9⟩ | h9
    · exact h3.2 k9 (q, e9) h9
    · exact hA q (Nat.le_trans h4.1 h9)
  have hM0 := hM l L H.size h1
  have hp : PreV s H y2.cls b (va_Pc (.ref b :: As) (mPre G L f H.size)) As := ⟨mPre_blind, va_recv hK h2 (q0 := q0) c8 hq0, fun U hU hW => ⟨rfl, by rw [hU], by rw [hU]; exact h2, va_K.moved hW.alike hK, zN_warm hW hN, h3.weaken (fun _ _ _ _ => trivial)⟩⟩
  rcases c2 with c2 | ⟨host, c2⟩
  · refine va_calll (va_runV (As := As) (rest := st) (C := y2.cls) (b := b) ⟨hx, hb, hml, hown, hts⟩ hM0 ⟨callB_of n hts (lw_goodIn c1) rfl rfl rfl (hts _ c5) (hts _ c2) c6 hroom, hts _ c3, hts _ c4⟩ hp rfl hn h5.1 rfl (lv_room hst) hdg hcap) h4 (fun q _ h9 => hF q h9) hF (fun r f' t H1 locs1 ht hvm hw hB hz1 hk1 hS1 => by
    obtain ⟨z, hz, rfl, hp⟩ := hw
    obtain ⟨L', w1, w2, w3, w4⟩ := hB
    exact kk z f' hz hp L' H1 locs1 ls w1 (by rw [← ht]; exact w2) (w4.weaken (fun _ q _ h => hF q.1 h)) hS1 h5)
  · refine va_calll (va_runVN (As := As) (rest := st) (C := y2.cls) (b := b) ⟨hx, hb, hml, hown, hts⟩ hM0 ⟨va_cnB n hts (lw_goodIn c1) rfl rfl rfl (hN _ c2) (hts _ c5) c6 hroom, hts _ c3, hts _ c4⟩ hp rfl hn h5.1 rfl (lv_room hst) hdg hcap) h4 (fun q _ h9 => hF q h9) hF (fun r f' t H1 locs1 ht hvm hw hB hz1 hk1 hS1 => by
    obtain ⟨z, hz, rfl, hp⟩ := hw
    obtain ⟨L', w1, w2, w3, w4⟩ := hB
    exact kk z f' hz hp L' H1 locs1 ls w1 (by rw [← ht]; exact w2) (w4.weaken (fun _ q _ h => hF q.1 h)) hS1 h5)
theorem v_callSL (h : xOk G X cc y nL rm) {y2 : MethodName} {bytes : ByteArray} {maxL idx n : Nat} {rmc : Room} {As : List Value} {post : Int → xF → Prop} (hM : ∀ l, mL l G y2 (.code y2 bytes maxL (some .long)) rmc As f post) (hC : CalS y.cls idx y2 (.code y2 bytes maxL (some .long)) n) (hdg : decode cc pc = .ok (.invokestatic idx, 3)) (hn : As.length = n) (hroom : rmc.frames + 1 ≤ rm.frames ∧ 8 + (maxL + 11) + rmc.locals ≤ rm.locals) (hcap : kc + rmc.cells ≤ rm.cells ∧ ks + rmc.slots ≤ rm.slots) (hst : (st.map fun v => v.category).sum ≤ 8) (kk : ∀ (z : Int) (f' : xF), jr z → post z f' → vV G X (kc + rmc.cells) (ks + rmc.slots) (pc + 3) lv (.long (jv z) :: st) f') : vV G X kc ks pc lv (As.reverse ++ st) f := by
  obtain ⟨p, l, e, R, s, m, args, below, meth, c, A, H0, n0, Q⟩ := X
  obtain ⟨hx, hb, rfl, hml, hown, hts, hN, hK, hA, rfl, hnm⟩ := h
  obtain ⟨c1, c2, c3, c5, c6⟩ := hC
  intro L H locs ls h1 h2 h3 h4 h5
  have hF : ∀ q, va_A (va_pl L f) H.size q → A q := fun q hq => by
    rcases hq with ⟨k9, e9, h9⟩ | h9
    · exact h3.2 k9 (q, e9) h9
    · exact hA q (Nat.le_trans h4.1 h9)
  have hM0 := hM l L H.size h1
  have hp : PreS s H (va_Pc As (mPre G L f H.size)) As := ⟨mPre_blind, fun U hU hW => ⟨rfl, by rw [hU], by rw [hU]; exact h2, va_K.moved hW.alike hK, zN_warm hW hN, h3.weaken (fun _ _ _ _ => trivial)⟩⟩
  rcases c2 with c2 | ⟨host, c2⟩
  · refine va_calll (va_runS (As := As) (rest := st) ⟨hx, hb, hml, hown, hts⟩ hM0 ⟨callB_of n hts (lw_goodIn c1) rfl rfl rfl (hts _ c5) (hts _ c2) c6 hroom, hts _ c3⟩ hp rfl hn h5.1 rfl (lv_room hst) hdg hcap) h4 (fun q _ h9 => hF q h9) hF (fun r f' t H1 locs1 ht hvm hw hB hz1 hk1 hS1 => by
    obtain ⟨z, hz, rfl, hp⟩ := hw
    obtain ⟨L', w1, w2, w3, w4⟩ := hB
    exact kk z f' hz hp L' H1 locs1 ls w1 (by rw [← ht]; exact w2) (w4.weaken (fun _ q _ h => hF q.1 h)) hS1 h5)
  · refine va_calll (va_runSN (As := As) (rest := st) ⟨hx, hb, hml, hown, hts⟩ hM0 ⟨va_cnB n hts (lw_goodIn c1) rfl rfl rfl (hN _ c2) (hts _ c5) c6 hroom, hts _ c3, trivial⟩ hp rfl hn h5.1 rfl (lv_room hst) hdg hcap) h4 (fun q _ h9 => hF q h9) hF (fun r f' t H1 locs1 ht hvm hw hB hz1 hk1 hS1 => by
    obtain ⟨z, hz, rfl, hp⟩ := hw
    obtain ⟨L', w1, w2, w3, w4⟩ := hB
    exact kk z f' hz hp L' H1 locs1 ls w1 (by rw [← ht]; exact w2) (w4.weaken (fun _ q _ h => hF q.1 h)) hS1 h5)
theorem g_callVL (h : xOk G X cc y nL rm) (hj : adOk ad M) {y2 : MethodName} {bytes : ByteArray} {maxL idx n : Nat} {rmc : Room} {i : Nat} {As : List Value} {post : Int → xF → Prop} {ci : Nat} {fs : List Value} (hi : i < M) (he : σ i = eO ci fs) (hM : ∀ l, gL l G f0 ad M y2 (.code y2 bytes maxL (some .long)) rmc (.ref (ad i) :: As) σ post) (hC : CalV y.cls idx y2 (.code y2 bytes maxL (some .long)) n ci) (hdg : decode cc pc = .ok (.invokevirtual idx, 3)) (hn : As.length = n) (hroom : rmc.frames + 1 ≤ rm.frames ∧ 8 + (maxL + 11) + rmc.locals ≤ rm.locals) (hcap : kc + rmc.cells ≤ rm.cells ∧ ks + rmc.slots ≤ rm.slots) (hst : (st.map fun v => v.category).sum ≤ 8) (kk : ∀ (z : Int) (σ' : xF), jr z → post z σ' → vV G X (kc + rmc.cells) (ks + rmc.slots) (pc + 3) lv (.long (jv z) :: st) (ov f0 ad M σ')) : vV G X kc ks pc lv (As.reverse ++ .ref (ad i) :: st) (ov f0 ad M σ) :=
  v_callVL h ((ov_at hj hi).trans he) hM hC hdg hn hroom hcap hst (fun z f' hz hp => by obtain ⟨σ', rfl, hp⟩ := hp; exact kk z σ' hz hp)
theorem g_callSL (h : xOk G X cc y nL rm) {y2 : MethodName} {bytes : ByteArray} {maxL idx n : Nat} {rmc : Room} {As : List Value} {post : Int → Prop} (hM : ∀ l f, mL l G y2 (.code y2 bytes maxL (some .long)) rmc As f (fun z f' => f' = f ∧ post z)) (hC : CalS y.cls idx y2 (.code y2 bytes maxL (some .long)) n) (hdg : decode cc pc = .ok (.invokestatic idx, 3)) (hn : As.length = n) (hroom : rmc.frames + 1 ≤ rm.frames ∧ 8 + (maxL + 11) + rmc.locals ≤ rm.locals) (hcap : kc + rmc.cells ≤ rm.cells ∧ ks + rmc.slots ≤ rm.slots) (hst : (st.map fun v => v.category).sum ≤ 8) (kk : ∀ z : Int, jr z → post z → vV G X (kc + rmc.cells) (ks + rmc.slots) (pc + 3) lv (.long (jv z) :: st) f) : vV G X kc ks pc lv (As.reverse ++ st) f :=
  v_callSL h (fun l => hM l f) hC hdg hn hroom hcap hst (fun z f' hz hp => by obtain ⟨rfl, hp⟩ := hp; exact kk z hz hp)
theorem v_lald (h : xOk G X cc y nL rm) {a n : Nat} {g : Nat → Int} {z : Int} (hdg : decode cc pc = .ok (.laload, 1)) (he : f a = eL G n g) (hn : n < 2147483648) (i : Nat) (hi : z = i) (hin : i < n) (k : vV G X kc ks (pc + 1) lv (.long (jv (g i)) :: st) f) : vV G X kc ks pc lv (.int (iv z) :: .ref a :: st) f := by
  obtain ⟨p, l, e, R, s, m, args, below, meth, c, A, H0, n0, Q⟩ := X
  obtain ⟨hx, hb, rfl, hml, hown, hts, hN, hK, hA, hR, hnm⟩ := h
  intro L H locs ls h1 h2 h3 h4 h5
  have hm : a ∈ L := h1.mem (by rw [he]; exact eL_ne)
  obtain ⟨q0, hq0⟩ := pl_get (f := f) hm
  rw [he] at hq0
  obtain ⟨b1, b2⟩ := iv_in hi hin hn
  exact va_lald (D := G.1) hx hb hK h2 q0 4 hq0 rfl b1 hdg (by rw [b2]; exact k L H locs ls h1 h2 h3 h4 h5)
theorem v_last (h : xOk G X cc y nL rm) {a n : Nat} {g : Nat → Int} {z x : Int} (hdg : decode cc pc = .ok (.lastore, 1)) (he : f a = eL G n g) (hn : n < 2147483648) (i : Nat) (hi : z = i) (hin : i < n) (k : vV G X kc ks (pc + 1) lv st (va_up f a (eL G n (va_up g i x)))) : vV G X kc ks pc lv (.long (jv x) :: .int (iv z) :: .ref a :: st) f := by
  obtain ⟨p, l, e, R, s, m, args, below, meth, c, A, H0, n0, Q⟩ := X
  obtain ⟨hx, hb, rfl, hml, hown, hts, hN, hK, hA, hR, hnm⟩ := h
  intro L H locs ls h1 h2 h3 h4 h5
  have hm : a ∈ L := h1.mem (by rw [he]; exact eL_ne)
  obtain ⟨q0, hq0⟩ := pl_get (f := f) hm
  have hset := pl_set (x := eL G n (va_up g i x)) h3 hm hq0
  rw [he] at hq0
  obtain ⟨b1, b2⟩ := iv_in hi hin hn
  exact va_last (D := G.1) hx hb hK h2 h3 h4 q0 4 hq0 rfl b1 hdg (fun H1 locs1 a1 a2 a3 => by rw [b2, eL_up, hset] at a1 a2; exact k L H1 locs1 ls (h1.up hm _) a1 a2 a3 h5)
theorem g_lald (h : xOk G X cc y nL rm) (hj : adOk ad M) {i n : Nat} {g : Nat → Int} {z : Int} (hdg : decode cc pc = .ok (.laload, 1)) (hi : i < M) (he : σ i = eL G n g) (hn : n < 2147483648) (q : Nat) (hz : z = q) (hq : q < n) (k : vV G X kc ks (pc + 1) lv (.long (jv (g q)) :: st) (ov f0 ad M σ)) : vV G X kc ks pc lv (.int (iv z) :: .ref (ad i) :: st) (ov f0 ad M σ) :=
  v_lald h hdg ((ov_at hj hi).trans he) hn q hz hq k
theorem g_last (h : xOk G X cc y nL rm) (hj : adOk ad M) {i n : Nat} {g : Nat → Int} {z x : Int} (hdg : decode cc pc = .ok (.lastore, 1)) (hi : i < M) (he : σ i = eL G n g) (hn : n < 2147483648) (q : Nat) (hz : z = q) (hq : q < n) (k : vV G X kc ks (pc + 1) lv st (ov f0 ad M (va_up σ i (eL G n (va_up g q x))))) : vV G X kc ks pc lv (.long (jv x) :: .int (iv z) :: .ref (ad i) :: st) (ov f0 ad M σ) :=
  v_last h hdg ((ov_at hj hi).trans he) hn q hz hq (v_f (ov_up hj hi _) k)
theorem v_ldiv (h : xOk G X cc y nL rm) {a b z : Int} (hdg : decode cc pc = .ok (.ldiv, 1)) (hne : ¬ jv b = 0) (hz : jv a / jv b = jv z) (k : vV G X kc ks (pc + 1) lv (.long (jv z) :: st) f) : vV G X kc ks pc lv (.long (jv b) :: .long (jv a) :: st) f := by
  obtain ⟨p, l, e, R, s, m, args, below, meth, c, A, H0, n0, Q⟩ := X
  obtain ⟨hx, hb, rfl, h⟩ := h
  exact fun L H locs ls h1 h2 h3 h4 h5 => lv_ldiv hx hb hdg hne (by rw [hz]; exact k L H locs ls h1 h2 h3 h4 h5)
theorem v_lrem (h : xOk G X cc y nL rm) {a b z : Int} (hdg : decode cc pc = .ok (.lrem, 1)) (hne : ¬ jv b = 0) (hz : jv a - jv a / jv b * jv b = jv z) (k : vV G X kc ks (pc + 1) lv (.long (jv z) :: st) f) : vV G X kc ks pc lv (.long (jv b) :: .long (jv a) :: st) f := by
  obtain ⟨p, l, e, R, s, m, args, below, meth, c, A, H0, n0, Q⟩ := X
  obtain ⟨hx, hb, rfl, h⟩ := h
  exact fun L H locs ls h1 h2 h3 h4 h5 => lv_lrem hx hb hdg hne (by rw [hz]; exact k L H locs ls h1 h2 h3 h4 h5)
theorem v_l2i (h : xOk G X cc y nL rm) {a : Int} (hdg : decode cc pc = .ok (.l2i, 1)) (hz : (jv a).toInt32 = iv a) (k : vV G X kc ks (pc + 1) lv (.int (iv a) :: st) f) : vV G X kc ks pc lv (.long (jv a) :: st) f := by
  obtain ⟨p, l, e, R, s, m, args, below, meth, c, A, H0, n0, Q⟩ := X
  obtain ⟨hx, hb, rfl, h⟩ := h
  exact fun L H locs ls h1 h2 h3 h4 h5 => lv_l2i hx hb hdg hz (k L H locs ls h1 h2 h3 h4 h5)
end V3
theorem jv_ne0 {b : Int} (h : jr b) (h0 : b ≠ 0) : ¬ jv b = 0 := fun q => h0 (by
  have e := jv_toInt h
  rw [q] at e
  exact e.symm)
theorem jv_div (a b : Nat) (ha : a < 9223372036854775808) (hb : b < 9223372036854775808) : jv (a : Int) / jv (b : Int) = jv ((a / b : Nat) : Int) := by
  have m1 : Int64.minValue.toInt = -9223372036854775808 := by decide
  have m2 : Int64.maxValue.toInt = 9223372036854775807 := by decide
  have h := @Int64.ofInt_tdiv (a : Int) (b : Int) (by omega) (by omega) (by omega) (by omega)
  have e : Int.tdiv (a : Int) (b : Int) = ((a / b : Nat) : Int) := rfl
  rw [e] at h
  exact h.symm
theorem jv_rem (a b : Nat) (ha : a < 9223372036854775808) (hb : b < 9223372036854775808) : jv (a : Int) - jv (a : Int) / jv (b : Int) * jv (b : Int) = jv ((a % b : Nat) : Int) := by
  rw [jv_div a b ha hb, jv_mul, jv_sub]
  have h := Nat.div_add_mod a b
  have e : (a : Int) - ((a / b : Nat) : Int) * (b : Int) = ((a % b : Nat) : Int) := by
    have h2 : ((b * (a / b) + a % b : Nat) : Int) = (a : Int) := by rw [h]
    rw [Int.natCast_add, Int.natCast_mul, Int.mul_comm] at h2
    omega
  rw [e]
theorem jv_int {a : Int} (h : ir a) : (jv a).toInt32 = iv a := Int32.toInt_inj.mp (by
  rw [Int64.toInt_toInt32, jv_toInt ⟨by have := h.1; omega, by have := h.2; omega⟩, iv_toInt h]
  unfold ir at h
  exact Int.bmod_eq_of_le (by omega) (by omega))
