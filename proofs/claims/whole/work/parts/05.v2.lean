/-! further rows: constants of the pool, long arrays -/
section V2
variable {G : xG} {X : xT} {cc : ByteArray} {y : MethodName} {nL : Nat} {rm : Room} {kc ks pc : Nat} {lv lv' : List (Nat × Value)} {st : List Value} {f : xF}
theorem v_ldcw (h : xOk G X cc y nL rm) {idx : Nat} {x : Int32} (z : Int) (hdg : decode cc pc = .ok (.ldc_w idx, 3)) (hc : Cond.constant y.cls idx x ∈ zT) (hz : x = iv z) (k : vV G X kc ks (pc + 3) lv (.int (iv z) :: st) f) : vV G X kc ks pc lv st f := by
  obtain ⟨p, l, e, R, s, m, args, below, meth, c, A, H0, n0, Q⟩ := X
  obtain ⟨hx, hb, rfl, hml, hown, hts, hN, hK, hA, hR, hnm⟩ := h
  subst hz
  exact fun L H locs ls h1 h2 h3 h4 h5 => lv_ldcw hx hb hown (hts _ hc) hdg (k L H locs ls h1 h2 h3 h4 h5)
theorem v_ldc2 (h : xOk G X cc y nL rm) {idx : Nat} {x : Int64} (z : Int) (hdg : decode cc pc = .ok (.ldc2_w idx, 3)) (hc : Cond.constantLong y.cls idx x ∈ zT) (hz : x = jv z) (k : vV G X kc ks (pc + 3) lv (.long (jv z) :: st) f) : vV G X kc ks pc lv st f := by
  obtain ⟨p, l, e, R, s, m, args, below, meth, c, A, H0, n0, Q⟩ := X
  obtain ⟨hx, hb, rfl, hml, hown, hts, hN, hK, hA, hR, hnm⟩ := h
  subst hz
  exact fun L H locs ls h1 h2 h3 h4 h5 => lv_ldc2 hx hb hown (hts _ hc) hdg (k L H locs ls h1 h2 h3 h4 h5)
theorem v_lconst (h : xOk G X cc y nL rm) {n : Fin 2} (z : Int) (hdg : decode cc pc = .ok (.lconst n, 1)) (hz : Int64.ofNat (n : Nat) = jv z) (k : vV G X kc ks (pc + 1) lv (.long (jv z) :: st) f) : vV G X kc ks pc lv st f := by
  obtain ⟨p, l, e, R, s, m, args, below, meth, c, A, H0, n0, Q⟩ := X
  obtain ⟨hx, hb, rfl, hml, hown, hts, hN, hK, hA, hR, hnm⟩ := h
  exact fun L H locs ls h1 h2 h3 h4 h5 => lv_lconst hx hb hdg hz (k L H locs ls h1 h2 h3 h4 h5)
theorem v_topl {x x' : Int64} (h : x = x') (k : vV G X kc ks pc lv (.long x' :: st) f) : vV G X kc ks pc lv (.long x :: st) f := h ▸ k
theorem v_mmin (h : xOk G X cc y nL rm) {idx : Nat} {a b : Int} (ha : ir a) (hb0 : ir b) (hdg : decode cc pc = .ok (.invokestatic idx, 3)) (c1 : Cond.methodLink y.cls idx Lib.Math.min.name ∈ zT) (c2 : Cond.static Lib.Math.min.name ∈ zT) (c3 : Cond.initialized "java/lang/Math" ∈ zT) (c4 : Cond.code Lib.Math.min.name Lib.Math.min.code 2 (some .int) ∈ zT) (hfr : 1 ≤ rm.frames) (hlo : (st.map fun v => v.category).sum + 13 ≤ rm.locals) (hc : kc ≤ rm.cells) (hs : ks ≤ rm.slots) (k : vV G X kc ks (pc + 3) lv (.int (iv (if b < a then b else a)) :: st) f) : vV G X kc ks pc lv (.int (iv b) :: .int (iv a) :: st) f := by
  obtain ⟨p, l, e, R, s, m, args, below, meth, c, A, H0, n0, Q⟩ := X
  obtain ⟨hx, hb, rfl, hml, hown, hts, hN, hK, hA, rfl, hnm⟩ := h
  intro L H locs ls h1 h2 h3 h4 h5
  refine va_mmin hx hb (hml.trans h5.1.symm) hown (hts _ c1) (hts _ c2) (hts _ c3) (hts _ c4) hfr hlo hc hs hdg ?_
  have e1 : (if iv b < iv a then iv b else iv a) = iv (if b < a then b else a) := by
    by_cases q : b < a
    · rw [if_pos q, if_pos ((iv_lt hb0 ha).mpr q)]
    · rw [if_neg q, if_neg (fun q9 => q ((iv_lt hb0 ha).mp q9))]
  rw [e1]
  exact k L H locs ls h1 h2 h3 h4 h5
theorem v_iaddN (h : xOk G X cc y nL rm) {a b : Nat} (hdg : decode cc pc = .ok (.iadd, 1)) (k : vV G X kc ks (pc + 1) lv (.int (iv ((a + b : Nat) : Int)) :: st) f) : vV G X kc ks pc lv (.int (iv (b : Int)) :: .int (iv (a : Int)) :: st) f := v_iadd h hdg (by rw [← Int.natCast_add]; exact k)
theorem v_imulN (h : xOk G X cc y nL rm) {a b : Nat} (hdg : decode cc pc = .ok (.imul, 1)) (k : vV G X kc ks (pc + 1) lv (.int (iv ((a * b : Nat) : Int)) :: st) f) : vV G X kc ks pc lv (.int (iv (b : Int)) :: .int (iv (a : Int)) :: st) f := v_imul h hdg (by rw [← Int.natCast_mul]; exact k)
theorem v_iincN (h : xOk G X cc y nL rm) {i a n : Nat} {n0 : Int} (hdg : decode cc pc = .ok (.iinc i n0, 3)) (hn0 : n0 = (n : Int)) (j : Nat) (hk : lv[j]? = some (i, .int (iv (a : Int)))) (hn : i < nL) (hl : (i, Value.int (iv ((a + n : Nat) : Int))) :: lv.filter (fun q => !(q.1 == i) && !(q.1 + 1 == i && q.2.category == 2)) = lv') (k : vV G X kc ks (pc + 3) lv' st f) : vV G X kc ks pc lv st f := by
  subst hn0
  exact v_iinc h hdg j hk hn (by rw [← Int.natCast_add]; exact hl) k
end V2
/-- a truth as a number -/
def pI (p : Prop) [Decidable p] : Int := if p then 1 else 0
theorem pI_t {p : Prop} [Decidable p] (h : p) : (1 : Int) = pI p := (if_pos h).symm
theorem pI_f {p : Prop} [Decidable p] (h : ¬ p) : (0 : Int) = pI p := (if_neg h).symm
theorem pI_ir (p : Prop) [Decidable p] : ir (pI p) := by unfold pI ir; split <;> omega
theorem pI_0 {p : Prop} [Decidable p] (h : pI p = 0) : ¬ p := fun q => by rw [pI, if_pos q] at h; cases h
theorem pI_1 {p : Prop} [Decidable p] (h : ¬ pI p = 0) : p := Classical.byContradiction fun q => h (if_neg q)
