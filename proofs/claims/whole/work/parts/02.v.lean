/-! V: a walk over ONE pool: f says what lies at each address; fNo: nothing of ours. L, H, locs, ls are hidden. Numbers are Int: iv z, jv z. -/
abbrev xG : Type := va_G × (Nat → ClassId)
abbrev xF : Type := Nat → va_E
abbrev xT : Type := Program × Launch × Env × Room × State × MethodId × Array Value × List Frame × Method × Code × (Nat → Prop) × Heap × Nat × (State → Prop)
def iv (z : Int) : Int32 := Int32.ofInt z
def jv (z : Int) : Int64 := Int64.ofInt z
def ir (z : Int) : Prop := -2147483648 ≤ z ∧ z ≤ 2147483647
def jr (z : Int) : Prop := -9223372036854775808 ≤ z ∧ z ≤ 9223372036854775807
theorem iv_toInt {z : Int} (h : ir z) : (iv z).toInt = z := Int32.toInt_ofInt_of_le (by have := h.1; omega) (by have := h.2; omega)
theorem jv_toInt {z : Int} (h : jr z) : (jv z).toInt = z := Int64.toInt_ofInt_of_le (by have := h.1; omega) (by have := h.2; omega)
theorem iv_of (x : Int32) : ∃ z, ir z ∧ x = iv z := ⟨x.toInt, ⟨by have := x.le_toInt; omega, by have := x.toInt_lt; omega⟩, (Int32.ofInt_toInt x).symm⟩
theorem iv_lt {a b : Int} (ha : ir a) (hb : ir b) : iv a < iv b ↔ a < b := by rw [Int32.lt_iff_toInt_lt, iv_toInt ha, iv_toInt hb]
theorem iv_le {a b : Int} (ha : ir a) (hb : ir b) : iv a ≤ iv b ↔ a ≤ b := by rw [Int32.le_iff_toInt_le, iv_toInt ha, iv_toInt hb]
theorem iv_eq {a b : Int} (ha : ir a) (hb : ir b) : iv a = iv b ↔ a = b := ⟨fun h => by rw [← iv_toInt ha, ← iv_toInt hb, h], fun h => by rw [h]⟩
theorem iv_add (a b : Int) : iv a + iv b = iv (a + b) := (Int32.ofInt_add a b).symm
theorem iv_sub (a b : Int) : iv a - iv b = iv (a - b) := (Int32.ofInt_sub a b).symm
theorem iv_mul (a b : Int) : iv a * iv b = iv (a * b) := (Int32.ofInt_mul a b).symm
theorem iv_neg (a : Int) : - iv a = iv (-a) := (Int32.ofInt_neg a).symm
theorem jv_add (a b : Int) : jv a + jv b = jv (a + b) := (Int64.ofInt_add a b).symm
theorem jv_sub (a b : Int) : jv a - jv b = jv (a - b) := (Int64.ofInt_sub a b).symm
theorem jv_mul (a b : Int) : jv a * jv b = jv (a * b) := (Int64.ofInt_mul a b).symm
theorem iv_nat (n : Nat) : iv (n : Int) = nI n := Int32.ofInt_eq_ofNat
theorem iv_in {z : Int} {k n : Nat} (hz : z = k) (hk : k < n) (hn : n < 2147483648) : vp_in (iv z) n ∧ (iv z).toNatClampNeg = k := by
  subst hz
  rw [iv_nat]
  exact ⟨vp_in_nI hk (by omega), nI_clamp (by omega)⟩
theorem ir_n {n : Nat} (h : n < 2147483648) : ir n := ⟨by omega, by omega⟩
theorem ir_0 : ir 0 := ⟨by decide, by decide⟩
theorem iv_long {a : Int} (h : ir a) : (iv a).toInt64 = jv a := Int64.toInt_inj.mp (by rw [Int32.toInt_toInt64, iv_toInt h, jv_toInt ⟨by have := h.1; omega, by have := h.2; omega⟩])
theorem jv_cmp {a b : Int} (ha : jr a) (hb : jr b) : lg_cmp (jv a) (jv b) = iv (if b < a then 1 else if a = b then 0 else -1) := by
  have e1 : jv b < jv a ↔ b < a := by rw [Int64.lt_iff_toInt_lt, jv_toInt ha, jv_toInt hb]
  have e2 : jv a = jv b ↔ a = b := ⟨fun h => by rw [← jv_toInt ha, ← jv_toInt hb, h], fun h => by rw [h]⟩
  by_cases h1 : b < a
  · simp only [lg_cmp, e1, h1, if_true]; rfl
  · by_cases h2 : a = b
    · simp only [lg_cmp, e1, e2, h2, if_true]; simp; rfl
    · simp only [lg_cmp, e1, e2, h1, h2, if_false]; rfl
def fNo : va_E := .inr (999, [])
abbrev eO (ci : Nat) (fs : List Value) : va_E := .inr (ci, fs)
def eJ (G : xG) (n : Nat) (g : Nat → Int) : va_E := .inl (G.2 0, n, .inl (fun j => iv (g j)))
def eR (G : xG) (t n : Nat) (g : Nat → Option Nat) : va_E := .inl (G.2 t, n, .inr (.inr (.inr (.inr g))))
def xt (G : xG) : List (ClassId × FieldType) := [(G.2 0, .int), (G.2 1, .array .int), (G.2 2, .object "BestSplits$Node"), (G.2 3, .object "BestSplits$Fraction"), (G.2 4, .long)]
def vW (L : List Nat) (f : xF) : Prop := ∀ a, a ∉ L → f a = fNo
theorem vW.mem {L : List Nat} {f : xF} (h : vW L f) {a : Nat} (ha : f a ≠ fNo) : a ∈ L := Classical.byContradiction fun q => ha (h a q)
theorem vW.up {L : List Nat} {f : xF} (h : vW L f) {a : Nat} (ha : a ∈ L) (x : va_E) : vW L (va_up f a x) := fun b hb => by
  rw [va_up_ne _ _ (fun q => hb (by rw [q]; exact ha))]
  exact h b hb
theorem vW.push {L : List Nat} {f : xF} (h : vW L f) (a : Nat) (x : va_E) : vW (L ++ [a]) (va_up f a x) := fun b hb => by
  have h1 : b ∉ L := fun q => hb (List.mem_append_left _ q)
  have h2 : b ≠ a := fun q => hb (by rw [q]; simp)
  rw [va_up_ne _ _ h2]
  exact h b h1
theorem pl_get {L : List Nat} {f : xF} {a : Nat} (h : a ∈ L) : ∃ k : Nat, (va_pl L f)[k]? = some (a, f a) := by
  have := va_pl_get (X := []) (f := f) h
  simpa using this
theorem pl_set {A : Nat → Prop} {L : List Nat} {f : xF} {a k : Nat} {x : va_E} (hD : va_D A (va_pl L f)) (h : a ∈ L) (hk : (va_pl L f)[k]? = some (a, f a)) : (va_pl L f).set k (a, x) = va_pl L (va_up f a x) := by
  have := va_pl_set (X := []) (e := x) (by simpa using hD) h (by simpa using hk)
  simpa using this
theorem eO_ne {ci : Nat} {fs : List Value} (h : ci < 999) : (eO ci fs : va_E) ≠ fNo := fun q => by
  have : ci = 999 := congrArg (fun (x : va_E) => match x with | .inr y => y.1 | .inl _ => 0) q
  omega
theorem eJ_ne {G : xG} {n : Nat} {g : Nat → Int} : eJ G n g ≠ fNo := fun q => by cases q
theorem eR_ne {G : xG} {t n : Nat} {g : Nat → Option Nat} : eR G t n g ≠ fNo := fun q => by cases q
theorem eJ_up {G : xG} {n : Nat} (g : Nat → Int) (k : Nat) (z : Int) : (.inl (G.2 0, n, .inl (upd (fun j => iv (g j)) k (iv z))) : va_E) = eJ G n (va_up g k z) := by
  have : upd (fun j => iv (g j)) k (iv z) = fun j => iv (va_up g k z j) := by
    funext j
    by_cases h : j = k
    · subst h; simp [upd, va_up]
    · simp [upd, va_up, h]
  rw [this]; rfl
def vV (G : xG) (X : xT) (kc ks pc : Nat) (lv : List (Nat × Value)) (st : List Value) (f : xF) : Prop := match X with
  | (p, l, e, R, s, m, args, below, meth, c, A, H0, n0, Q) => ∀ (L : List Nat) (H : Heap) (locs : List Loc) (ls : Array Slot), vW L f → va_P G.1 zCl (va_pl L f) H → va_D A (va_pl L f) → va_S A H0 H locs → lv_has ls n0 lv → W p l e R s m args below meth c H locs kc ks Q (F0 m pc ls st)
def xOk (G : xG) (X : xT) (cc : ByteArray) (y : MethodName) (nL : Nat) (rm : Room) : Prop := match X with
  | (p, l, e, R, s, m, args, below, meth, c, A, H0, n0, Q) => p.tables.exec = Jvm.exec ∧ c.code = cc ∧ n0 = nL ∧ c.maxLocals = nL ∧ s.vm.findClass y.cls = some m.cls ∧ (∀ w ∈ zT, w.before args s = true) ∧ (∀ w ∈ zN, va_Nw w s) ∧ va_K G.1 zCl (xt G) s ∧ (∀ q, H0.size ≤ q → A q) ∧ R = rm ∧ meth.name = y.name
/-- what the tables say of a field by a place of the pool: it may be read -/
def FldA (own : String) (idx ci k : Nat) : Prop := ∃ (C : String) (T : u_T) (N : Nat), zCl[ci]? = some (C, T, N) ∧ k < N ∧ ci < 999 ∧ (∀ w ∈ u_ws C T N, w ∈ zT) ∧ (T k).1 = C ∧ (Cond.fieldLink own idx C (T k).2.1 (T k).2.2.1 ∈ zT ∨ ∃ host, Cond.fieldLinkNest own idx C (T k).2.1 (T k).2.2.1 host ∈ zN)
/-- it may be written -/
def PutA (own : String) (idx ci k : Nat) (ty : FieldType) : Prop := ∃ (C : String) (T : u_T) (N : Nat) (ty0 : Nat → FieldType), zCl[ci]? = some (C, T, N) ∧ k < N ∧ ci < 999 ∧ (∀ w ∈ u_ws C T N, w ∈ zT) ∧ (T k).1 = C ∧ (∀ k, k < N → parseFieldDescriptor (T k).2.2.1 = some (ty0 k)) ∧ (∀ a, a < N → ∀ b, b < N → a ≠ b → (T a).2.1 ≠ (T b).2.1) ∧ parseFieldDescriptor (T k).2.2.1 = some ty ∧
  ((T k).2.2.2 = false ∧ (Cond.fieldLink own idx C (T k).2.1 (T k).2.2.1 ∈ zT ∨ ∃ host, Cond.fieldLinkNest own idx C (T k).2.1 (T k).2.2.1 host ∈ zN))
/-- a final one, in its own constructor -/
def PutF (own : String) (idx ci k : Nat) (ty : FieldType) : Prop := ∃ (C : String) (T : u_T) (N : Nat) (ty0 : Nat → FieldType), zCl[ci]? = some (C, T, N) ∧ k < N ∧ ci < 999 ∧ (∀ w ∈ u_ws C T N, w ∈ zT) ∧ (T k).1 = C ∧ (∀ k, k < N → parseFieldDescriptor (T k).2.2.1 = some (ty0 k)) ∧ (∀ a, a < N → ∀ b, b < N → a ≠ b → (T a).2.1 ≠ (T b).2.1) ∧ parseFieldDescriptor (T k).2.2.1 = some ty ∧
  (T k).2.2.2 = true ∧ Cond.fieldLink own idx C (T k).2.1 (T k).2.2.1 ∈ zT ∧ C = own
/-- a class's objects may be made; fs: what a new one holds -/
def NewA (own : String) (idx ci N : Nat) (fs : List Value) : Prop := ∃ (C : String) (T : u_T) (ty0 : Nat → FieldType), zCl[ci]? = some (C, T, N) ∧ ci < 999 ∧ (∀ w ∈ u_ws C T N, w ∈ zT) ∧ (∀ k, k < N → parseFieldDescriptor (T k).2.2.1 = some (ty0 k)) ∧ (∀ j, j < N → defaultValue (ty0 j) = vp_V fs j) ∧ Cond.classLink own idx C ∈ zT ∧ Cond.instantiable C N ∈ zT ∧ Cond.initialized C ∈ zT
def CalD (y : MethodName) (n : Nat) : Prop := y.cls ≠ "java/lang/invoke/MethodHandle" ∧ y.cls ≠ "java/lang/invoke/VarHandle" ∧ (parseMethodDescriptor y.desc).map (fun d => d.parameters.length) = some n
def CalL (own : String) (idx : Nat) (y : MethodName) : Prop := Cond.methodLink own idx y ∈ zT ∨ ∃ host, Cond.methodLinkNest own idx y host ∈ zN
def CalV (own : String) (idx : Nat) (y : MethodName) (cw : Cond) (n ci : Nat) : Prop := cw ∈ zT ∧ CalL own idx y ∧ Cond.instanceMethod y ∈ zT ∧ Cond.selects y.cls y y ∈ zT ∧ Cond.initialized y.cls ∈ zT ∧ CalD y n ∧ ci < 999 ∧ ∃ (T : u_T) (N : Nat), zCl[ci]? = some (y.cls, T, N)
def CalS (own : String) (idx : Nat) (y : MethodName) (cw : Cond) (n : Nat) : Prop := cw ∈ zT ∧ CalL own idx y ∧ Cond.static y ∈ zT ∧ Cond.initialized y.cls ∈ zT ∧ CalD y n
def CalI (own : String) (idx : Nat) (y : MethodName) (cw : Cond) (n : Nat) : Prop := cw ∈ zT ∧ CalL own idx y ∧ Cond.instanceMethod y ∈ zT ∧ y.name = "<init>" ∧ Cond.initialized y.cls ∈ zT ∧ CalD y n
theorem aoA_spec {args : Array Value} {s : State} {t : FieldType} (h : (Cond.arrayOver (.array t)).before args s = true) :
    ∃ comp c k, s.vm.findClass (FieldType.array t).toString = some comp ∧ (s.vm.classes.findIdx? fun (x : Class) => match x.kind with | .array component _ => component == comp | _ => false) = some c ∧ s.vm.classes[c]? = some k ∧ k.kind = .array comp (.array t) ∧
      s.vm.findClass ("[" ++ (FieldType.array t).toString) = some c := by
  unfold Cond.before at h
  simp only [Cond.holds, Cond.value, beq_iff_eq] at h
  cases hc : s.vm.findClass (FieldType.array t).toString with
  | none => simp [hc] at h
  | some comp =>
    simp only [hc, Option.bind_some, Option.bind_eq_some_iff, Option.map_eq_some_iff] at h
    obtain ⟨c, hi, k, hk, hb⟩ := h
    obtain ⟨hlt, hp, -⟩ := Array.findIdx?_eq_some_iff_getElem.mp hi
    have hkk : s.vm.classes[c] = k := (Array.getElem?_eq_some_iff.mp hk).2
    rw [hkk] at hp
    cases hkind : k.kind with
    | array component ty =>
      rw [hkind] at hb hp
      simp at hb hp
      exact ⟨comp, c, k, rfl, hi, hk, by rw [hkind, hp, hb.1], hb.2⟩
    | _ => rw [hkind] at hb; simp at hb
theorem aoA_moved {t : FieldType} {u U : State} (hvm : u.vm.Alike U.vm) (h : va_Nw (.arrayOver (.array t)) u) : va_Nw (.arrayOver (.array t)) U := by
  obtain ⟨comp, c, k, h1, h2, h3, h4, h5⟩ := aoA_spec h
  obtain ⟨k', hk', he⟩ := hvm.2.2 _ _ h3
  have hi : (U.vm.classes.findIdx? fun (x : Class) => match x.kind with | .array component _ => component == comp | _ => false) = some c := by
    rw [hvm.findIdx?_eqK _ (fun _ => rfl)]
    exact h2
  have hkind : k'.kind = .array comp (.array t) := by rw [he]; exact h4
  have f1 : U.vm.findClass (FieldType.array t).toString = some comp := by rw [hvm.findClass]; exact h1
  have f2 : U.vm.findClass ("[" ++ (FieldType.array t).toString) = some c := by rw [hvm.findClass]; exact h5
  unfold va_Nw Cond.before Cond.holds
  simp only [Cond.value]
  rw [f1, Option.bind_some]
  refine (congrArg (fun o : Option Nat => (o.bind (fun c => (U.vm.classes[c]?).map fun (k : Class) => match k.kind with | .array _ ty => decide (ty = FieldType.array t) && decide (U.vm.findClass ("[" ++ (FieldType.array t).toString) = some c) | _ => false) == some true)) hi).trans ?_
  simp [hk', hkind, f2]
theorem zN_warm {s U : State} (hW : s.WarmedH U.vm) (h : ∀ w ∈ zN, va_Nw w s) : ∀ w ∈ zN, va_Nw w U := fun w hw => by
  have h0 := h w hw
  simp only [zN, List.mem_cons, List.not_mem_nil, or_false] at hw
  rcases hw with rfl | rfl | rfl | rfl | rfl | rfl | rfl | rfl | rfl | rfl | rfl | rfl <;> first | exact va_Nw.warmM hW h0 | exact va_Nw.warmF hW h0 | exact va_AO.moved hW.alike h0 | exact aoA_moved hW.alike h0
theorem zN_same {s U : State} (h9 : s.vm = U.vm) (h : ∀ w ∈ zN, va_Nw w s) : ∀ w ∈ zN, va_Nw w U := fun w hw => by
  have h0 := h w hw
  simp only [zN, List.mem_cons, List.not_mem_nil, or_false] at hw
  rcases hw with rfl | rfl | rfl | rfl | rfl | rfl | rfl | rfl | rfl | rfl | rfl | rfl <;> first | exact va_Nw.same rfl h9 h0 | exact va_AO.moved (h9 ▸ Vm.Alike.refl s.vm) h0 | exact aoA_moved (h9 ▸ Vm.Alike.refl s.vm) h0
theorem lw_goodIn {cw : Cond} (h : cw ∈ zT) : GoodIn zT (cw :: zT) := fun w hw => by
  have h1 : w ∈ zT := by
    rcases List.mem_cons.mp hw with rfl | q
    · exact h
    · exact q
  exact ⟨h1, zT_good w h1⟩
section VV
variable {G : xG} {X : xT} {cc : ByteArray} {y : MethodName} {nL : Nat} {rm : Room} {kc ks pc : Nat} {lv lv' : List (Nat × Value)} {st : List Value} {f : xF}
theorem v_iconst (h : xOk G X cc y nL rm) (z : Int) (hdg : decode cc pc = .ok (.iconst z, 1)) (k : vV G X kc ks (pc + 1) lv (.int (iv z) :: st) f) : vV G X kc ks pc lv st f := by
  obtain ⟨p, l, e, R, s, m, args, below, meth, c, A, H0, n0, Q⟩ := X
  obtain ⟨hx, hb, rfl, h⟩ := h
  exact fun L H locs ls h1 h2 h3 h4 h5 => lv_iconst hx hb hdg rfl (k L H locs ls h1 h2 h3 h4 h5)
theorem v_bipush (h : xOk G X cc y nL rm) (z : Int) (hdg : decode cc pc = .ok (.bipush z, 2)) (hz : (Int8.ofInt z).toInt32 = iv z) (k : vV G X kc ks (pc + 2) lv (.int (iv z) :: st) f) : vV G X kc ks pc lv st f := by
  obtain ⟨p, l, e, R, s, m, args, below, meth, c, A, H0, n0, Q⟩ := X
  obtain ⟨hx, hb, rfl, h⟩ := h
  exact fun L H locs ls h1 h2 h3 h4 h5 => lv_bipush hx hb hdg hz (k L H locs ls h1 h2 h3 h4 h5)
theorem v_sipush (h : xOk G X cc y nL rm) (z : Int) (hdg : decode cc pc = .ok (.sipush z, 3)) (hz : (Int16.ofInt z).toInt32 = iv z) (k : vV G X kc ks (pc + 3) lv (.int (iv z) :: st) f) : vV G X kc ks pc lv st f := by
  obtain ⟨p, l, e, R, s, m, args, below, meth, c, A, H0, n0, Q⟩ := X
  obtain ⟨hx, hb, rfl, h⟩ := h
  exact fun L H locs ls h1 h2 h3 h4 h5 => lv_sipush hx hb hdg hz (k L H locs ls h1 h2 h3 h4 h5)
theorem v_iadd (h : xOk G X cc y nL rm) {a b : Int} (hdg : decode cc pc = .ok (.iadd, 1)) (k : vV G X kc ks (pc + 1) lv (.int (iv (a + b)) :: st) f) : vV G X kc ks pc lv (.int (iv b) :: .int (iv a) :: st) f := by
  obtain ⟨p, l, e, R, s, m, args, below, meth, c, A, H0, n0, Q⟩ := X
  obtain ⟨hx, hb, rfl, h⟩ := h
  exact fun L H locs ls h1 h2 h3 h4 h5 => lv_iadd hx hb hdg (by rw [iv_add]; exact k L H locs ls h1 h2 h3 h4 h5)
theorem v_isub (h : xOk G X cc y nL rm) {a b : Int} (hdg : decode cc pc = .ok (.isub, 1)) (k : vV G X kc ks (pc + 1) lv (.int (iv (a - b)) :: st) f) : vV G X kc ks pc lv (.int (iv b) :: .int (iv a) :: st) f := by
  obtain ⟨p, l, e, R, s, m, args, below, meth, c, A, H0, n0, Q⟩ := X
  obtain ⟨hx, hb, rfl, h⟩ := h
  exact fun L H locs ls h1 h2 h3 h4 h5 => lv_isub hx hb hdg (by rw [iv_sub]; exact k L H locs ls h1 h2 h3 h4 h5)
theorem v_imul (h : xOk G X cc y nL rm) {a b : Int} (hdg : decode cc pc = .ok (.imul, 1)) (k : vV G X kc ks (pc + 1) lv (.int (iv (a * b)) :: st) f) : vV G X kc ks pc lv (.int (iv b) :: .int (iv a) :: st) f := by
  obtain ⟨p, l, e, R, s, m, args, below, meth, c, A, H0, n0, Q⟩ := X
  obtain ⟨hx, hb, rfl, h⟩ := h
  exact fun L H locs ls h1 h2 h3 h4 h5 => lv_imul hx hb hdg (by rw [iv_mul]; exact k L H locs ls h1 h2 h3 h4 h5)
theorem v_ladd (h : xOk G X cc y nL rm) {a b : Int} (hdg : decode cc pc = .ok (.ladd, 1)) (k : vV G X kc ks (pc + 1) lv (.long (jv (a + b)) :: st) f) : vV G X kc ks pc lv (.long (jv b) :: .long (jv a) :: st) f := by
  obtain ⟨p, l, e, R, s, m, args, below, meth, c, A, H0, n0, Q⟩ := X
  obtain ⟨hx, hb, rfl, h⟩ := h
  exact fun L H locs ls h1 h2 h3 h4 h5 => lv_ladd hx hb hdg (by rw [jv_add]; exact k L H locs ls h1 h2 h3 h4 h5)
theorem v_lsub (h : xOk G X cc y nL rm) {a b : Int} (hdg : decode cc pc = .ok (.lsub, 1)) (k : vV G X kc ks (pc + 1) lv (.long (jv (a - b)) :: st) f) : vV G X kc ks pc lv (.long (jv b) :: .long (jv a) :: st) f := by
  obtain ⟨p, l, e, R, s, m, args, below, meth, c, A, H0, n0, Q⟩ := X
  obtain ⟨hx, hb, rfl, h⟩ := h
  exact fun L H locs ls h1 h2 h3 h4 h5 => lv_lsub hx hb hdg (by rw [jv_sub]; exact k L H locs ls h1 h2 h3 h4 h5)
theorem v_lmul (h : xOk G X cc y nL rm) {a b : Int} (hdg : decode cc pc = .ok (.lmul, 1)) (k : vV G X kc ks (pc + 1) lv (.long (jv (a * b)) :: st) f) : vV G X kc ks pc lv (.long (jv b) :: .long (jv a) :: st) f := by
  obtain ⟨p, l, e, R, s, m, args, below, meth, c, A, H0, n0, Q⟩ := X
  obtain ⟨hx, hb, rfl, h⟩ := h
  exact fun L H locs ls h1 h2 h3 h4 h5 => lv_lmul hx hb hdg (by rw [jv_mul]; exact k L H locs ls h1 h2 h3 h4 h5)
theorem v_ineg (h : xOk G X cc y nL rm) {a : Int} (hdg : decode cc pc = .ok (.ineg, 1)) (k : vV G X kc ks (pc + 1) lv (.int (iv (-a)) :: st) f) : vV G X kc ks pc lv (.int (iv a) :: st) f := by
  obtain ⟨p, l, e, R, s, m, args, below, meth, c, A, H0, n0, Q⟩ := X
  obtain ⟨hx, hb, rfl, h⟩ := h
  exact fun L H locs ls h1 h2 h3 h4 h5 => lv_ineg hx hb hdg (by rw [iv_neg]; exact k L H locs ls h1 h2 h3 h4 h5)
theorem v_iand (h : xOk G X cc y nL rm) {a b z : Int} (hdg : decode cc pc = .ok (.iand, 1)) (hz : iv a &&& iv b = iv z) (k : vV G X kc ks (pc + 1) lv (.int (iv z) :: st) f) : vV G X kc ks pc lv (.int (iv b) :: .int (iv a) :: st) f := by
  obtain ⟨p, l, e, R, s, m, args, below, meth, c, A, H0, n0, Q⟩ := X
  obtain ⟨hx, hb, rfl, h⟩ := h
  exact fun L H locs ls h1 h2 h3 h4 h5 => lv_iand hx hb hdg (by rw [hz]; exact k L H locs ls h1 h2 h3 h4 h5)
theorem v_ior (h : xOk G X cc y nL rm) {a b z : Int} (hdg : decode cc pc = .ok (.ior, 1)) (hz : iv a ||| iv b = iv z) (k : vV G X kc ks (pc + 1) lv (.int (iv z) :: st) f) : vV G X kc ks pc lv (.int (iv b) :: .int (iv a) :: st) f := by
  obtain ⟨p, l, e, R, s, m, args, below, meth, c, A, H0, n0, Q⟩ := X
  obtain ⟨hx, hb, rfl, h⟩ := h
  exact fun L H locs ls h1 h2 h3 h4 h5 => lv_ior hx hb hdg (by rw [hz]; exact k L H locs ls h1 h2 h3 h4 h5)
theorem v_ixor (h : xOk G X cc y nL rm) {a b z : Int} (hdg : decode cc pc = .ok (.ixor, 1)) (hz : iv a ^^^ iv b = iv z) (k : vV G X kc ks (pc + 1) lv (.int (iv z) :: st) f) : vV G X kc ks pc lv (.int (iv b) :: .int (iv a) :: st) f := by
  obtain ⟨p, l, e, R, s, m, args, below, meth, c, A, H0, n0, Q⟩ := X
  obtain ⟨hx, hb, rfl, h⟩ := h
  exact fun L H locs ls h1 h2 h3 h4 h5 => lv_ixor hx hb hdg (by rw [hz]; exact k L H locs ls h1 h2 h3 h4 h5)
theorem v_ishl (h : xOk G X cc y nL rm) {a b z : Int} (hdg : decode cc pc = .ok (.ishl, 1)) (hz : iv a <<< (iv b &&& 31) = iv z) (k : vV G X kc ks (pc + 1) lv (.int (iv z) :: st) f) : vV G X kc ks pc lv (.int (iv b) :: .int (iv a) :: st) f := by
  obtain ⟨p, l, e, R, s, m, args, below, meth, c, A, H0, n0, Q⟩ := X
  obtain ⟨hx, hb, rfl, h⟩ := h
  exact fun L H locs ls h1 h2 h3 h4 h5 => lv_ishl hx hb hdg (by rw [hz]; exact k L H locs ls h1 h2 h3 h4 h5)
theorem v_ishr (h : xOk G X cc y nL rm) {a b z : Int} (hdg : decode cc pc = .ok (.ishr, 1)) (hz : iv a >>> (iv b &&& 31) = iv z) (k : vV G X kc ks (pc + 1) lv (.int (iv z) :: st) f) : vV G X kc ks pc lv (.int (iv b) :: .int (iv a) :: st) f := by
  obtain ⟨p, l, e, R, s, m, args, below, meth, c, A, H0, n0, Q⟩ := X
  obtain ⟨hx, hb, rfl, h⟩ := h
  exact fun L H locs ls h1 h2 h3 h4 h5 => lv_ishr hx hb hdg (by rw [hz]; exact k L H locs ls h1 h2 h3 h4 h5)
theorem v_iushr (h : xOk G X cc y nL rm) {a b z : Int} (hdg : decode cc pc = .ok (.iushr, 1)) (hz : ((iv a).toUInt32 >>> ((iv b).toUInt32 &&& Int32.toUInt32 31)).toInt32 = iv z) (k : vV G X kc ks (pc + 1) lv (.int (iv z) :: st) f) : vV G X kc ks pc lv (.int (iv b) :: .int (iv a) :: st) f := by
  obtain ⟨p, l, e, R, s, m, args, below, meth, c, A, H0, n0, Q⟩ := X
  obtain ⟨hx, hb, rfl, h⟩ := h
  exact fun L H locs ls h1 h2 h3 h4 h5 => lv_iushr hx hb hdg hz (k L H locs ls h1 h2 h3 h4 h5)
theorem v_idiv (h : xOk G X cc y nL rm) {a b z : Int} (hdg : decode cc pc = .ok (.idiv, 1)) (hne : ¬ iv b = 0) (hz : iv a / iv b = iv z) (k : vV G X kc ks (pc + 1) lv (.int (iv z) :: st) f) : vV G X kc ks pc lv (.int (iv b) :: .int (iv a) :: st) f := by
  obtain ⟨p, l, e, R, s, m, args, below, meth, c, A, H0, n0, Q⟩ := X
  obtain ⟨hx, hb, rfl, h⟩ := h
  exact fun L H locs ls h1 h2 h3 h4 h5 => lv_idiv hx hb hdg hne (by rw [hz]; exact k L H locs ls h1 h2 h3 h4 h5)
theorem v_irem (h : xOk G X cc y nL rm) {a b z : Int} (hdg : decode cc pc = .ok (.irem, 1)) (hne : ¬ iv b = 0) (hz : iv a - iv a / iv b * iv b = iv z) (k : vV G X kc ks (pc + 1) lv (.int (iv z) :: st) f) : vV G X kc ks pc lv (.int (iv b) :: .int (iv a) :: st) f := by
  obtain ⟨p, l, e, R, s, m, args, below, meth, c, A, H0, n0, Q⟩ := X
  obtain ⟨hx, hb, rfl, h⟩ := h
  exact fun L H locs ls h1 h2 h3 h4 h5 => lv_irem hx hb hdg hne (by rw [hz]; exact k L H locs ls h1 h2 h3 h4 h5)
theorem v_i2l (h : xOk G X cc y nL rm) {a : Int} (hdg : decode cc pc = .ok (.i2l, 1)) (ha : ir a) (k : vV G X kc ks (pc + 1) lv (.long (jv a) :: st) f) : vV G X kc ks pc lv (.int (iv a) :: st) f := by
  obtain ⟨p, l, e, R, s, m, args, below, meth, c, A, H0, n0, Q⟩ := X
  obtain ⟨hx, hb, rfl, h⟩ := h
  intro L H locs ls h1 h2 h3 h4 h5
  exact lv_i2l hx hb hdg (iv_long ha) (k L H locs ls h1 h2 h3 h4 h5)
theorem v_lcmp (h : xOk G X cc y nL rm) {a b : Int} (hdg : decode cc pc = .ok (.lcmp, 1)) (ha : jr a) (hc : jr b) (k : vV G X kc ks (pc + 1) lv (.int (iv (if b < a then 1 else if a = b then 0 else -1)) :: st) f) : vV G X kc ks pc lv (.long (jv b) :: .long (jv a) :: st) f := by
  obtain ⟨p, l, e, R, s, m, args, below, meth, c, A, H0, n0, Q⟩ := X
  obtain ⟨hx, hb, rfl, h⟩ := h
  intro L H locs ls h1 h2 h3 h4 h5
  exact W.lcmp hx hb hdg (by rw [jv_cmp ha hc]; exact k L H locs ls h1 h2 h3 h4 h5)
theorem v_dup (h : xOk G X cc y nL rm) {va : Value} (hdg : decode cc pc = .ok (.dup, 1)) (hva : va.category = 1) (k : vV G X kc ks (pc + 1) lv (va :: va :: st) f) : vV G X kc ks pc lv (va :: st) f := by
  obtain ⟨p, l, e, R, s, m, args, below, meth, c, A, H0, n0, Q⟩ := X
  obtain ⟨hx, hb, rfl, h⟩ := h
  exact fun L H locs ls h1 h2 h3 h4 h5 => lv_dup hx hb hdg hva (k L H locs ls h1 h2 h3 h4 h5)
theorem v_pop (h : xOk G X cc y nL rm) {va : Value} (hdg : decode cc pc = .ok (.pop, 1)) (hva : va.category = 1) (k : vV G X kc ks (pc + 1) lv st f) : vV G X kc ks pc lv (va :: st) f := by
  obtain ⟨p, l, e, R, s, m, args, below, meth, c, A, H0, n0, Q⟩ := X
  obtain ⟨hx, hb, rfl, h⟩ := h
  exact fun L H locs ls h1 h2 h3 h4 h5 => lv_pop hx hb hdg hva (k L H locs ls h1 h2 h3 h4 h5)
theorem v_dup_x1 (h : xOk G X cc y nL rm) {va vb : Value} (hdg : decode cc pc = .ok (.dup_x1, 1)) (hva : va.category = 1) (hvb : vb.category = 1) (k : vV G X kc ks (pc + 1) lv (va :: vb :: va :: st) f) : vV G X kc ks pc lv (va :: vb :: st) f := by
  obtain ⟨p, l, e, R, s, m, args, below, meth, c, A, H0, n0, Q⟩ := X
  obtain ⟨hx, hb, rfl, h⟩ := h
  exact fun L H locs ls h1 h2 h3 h4 h5 => lv_dup_x1 hx hb hdg hva hvb (k L H locs ls h1 h2 h3 h4 h5)
theorem v_dup2_11 (h : xOk G X cc y nL rm) {va vb : Value} (hdg : decode cc pc = .ok (.dup2, 1)) (hva : va.category = 1) (hvb : vb.category = 1) (k : vV G X kc ks (pc + 1) lv (va :: vb :: va :: vb :: st) f) : vV G X kc ks pc lv (va :: vb :: st) f := by
  obtain ⟨p, l, e, R, s, m, args, below, meth, c, A, H0, n0, Q⟩ := X
  obtain ⟨hx, hb, rfl, h⟩ := h
  exact fun L H locs ls h1 h2 h3 h4 h5 => lv_dup2_11 hx hb hdg hva hvb (k L H locs ls h1 h2 h3 h4 h5)
theorem v_dup2_2 (h : xOk G X cc y nL rm) {va : Value} (hdg : decode cc pc = .ok (.dup2, 1)) (hva : va.category = 2) (k : vV G X kc ks (pc + 1) lv (va :: va :: st) f) : vV G X kc ks pc lv (va :: st) f := by
  obtain ⟨p, l, e, R, s, m, args, below, meth, c, A, H0, n0, Q⟩ := X
  obtain ⟨hx, hb, rfl, h⟩ := h
  exact fun L H locs ls h1 h2 h3 h4 h5 => lv_dup2_2 hx hb hdg hva (k L H locs ls h1 h2 h3 h4 h5)
theorem v_null (h : xOk G X cc y nL rm) (hdg : decode cc pc = .ok (.aconst_null, 1)) (k : vV G X kc ks (pc + 1) lv (.null :: st) f) : vV G X kc ks pc lv st f := by
  obtain ⟨p, l, e, R, s, m, args, below, meth, c, A, H0, n0, Q⟩ := X
  obtain ⟨hx, hb, rfl, h⟩ := h
  exact fun L H locs ls h1 h2 h3 h4 h5 => lv_null hx hb hdg (k L H locs ls h1 h2 h3 h4 h5)
theorem v_iload_n (h : xOk G X cc y nL rm) {k0 : Fin 4} {x : Int32} (hdg : decode cc pc = .ok (.iload_n k0, 1)) (j : Nat) (hl : lv[j]? = some ((k0 : Nat), .int x)) (k : vV G X kc ks (pc + 1) lv (.int x :: st) f) : vV G X kc ks pc lv st f := by
  obtain ⟨p, l, e, R, s, m, args, below, meth, c, A, H0, n0, Q⟩ := X
  obtain ⟨hx, hb, rfl, h⟩ := h
  exact fun L H locs ls h1 h2 h3 h4 h5 => lv_iload_n hx hb hdg rfl (lv_at h5 j hl) (k L H locs ls h1 h2 h3 h4 h5)
theorem v_iload (h : xOk G X cc y nL rm) {i : Nat} {x : Int32} (hdg : decode cc pc = .ok (.iload i, 2)) (j : Nat) (hl : lv[j]? = some (i, .int x)) (k : vV G X kc ks (pc + 2) lv (.int x :: st) f) : vV G X kc ks pc lv st f := by
  obtain ⟨p, l, e, R, s, m, args, below, meth, c, A, H0, n0, Q⟩ := X
  obtain ⟨hx, hb, rfl, h⟩ := h
  exact fun L H locs ls h1 h2 h3 h4 h5 => lv_iload hx hb hdg (lv_at h5 j hl) (k L H locs ls h1 h2 h3 h4 h5)
theorem v_lload_n (h : xOk G X cc y nL rm) {k0 : Fin 4} {x : Int64} (hdg : decode cc pc = .ok (.lload_n k0, 1)) (j : Nat) (hl : lv[j]? = some ((k0 : Nat), .long x)) (k : vV G X kc ks (pc + 1) lv (.long x :: st) f) : vV G X kc ks pc lv st f := by
  obtain ⟨p, l, e, R, s, m, args, below, meth, c, A, H0, n0, Q⟩ := X
  obtain ⟨hx, hb, rfl, h⟩ := h
  exact fun L H locs ls h1 h2 h3 h4 h5 => lv_lload_n hx hb hdg rfl (lv_at h5 j hl) (k L H locs ls h1 h2 h3 h4 h5)
theorem v_lload (h : xOk G X cc y nL rm) {i : Nat} {x : Int64} (hdg : decode cc pc = .ok (.lload i, 2)) (j : Nat) (hl : lv[j]? = some (i, .long x)) (k : vV G X kc ks (pc + 2) lv (.long x :: st) f) : vV G X kc ks pc lv st f := by
  obtain ⟨p, l, e, R, s, m, args, below, meth, c, A, H0, n0, Q⟩ := X
  obtain ⟨hx, hb, rfl, h⟩ := h
  exact fun L H locs ls h1 h2 h3 h4 h5 => lv_lload hx hb hdg (lv_at h5 j hl) (k L H locs ls h1 h2 h3 h4 h5)
theorem v_aload_n (h : xOk G X cc y nL rm) {k0 : Fin 4} {x : Nat} (hdg : decode cc pc = .ok (.aload_n k0, 1)) (j : Nat) (hl : lv[j]? = some ((k0 : Nat), .ref x)) (k : vV G X kc ks (pc + 1) lv (.ref x :: st) f) : vV G X kc ks pc lv st f := by
  obtain ⟨p, l, e, R, s, m, args, below, meth, c, A, H0, n0, Q⟩ := X
  obtain ⟨hx, hb, rfl, h⟩ := h
  exact fun L H locs ls h1 h2 h3 h4 h5 => lv_aload_n hx hb hdg rfl (lv_at h5 j hl) (k L H locs ls h1 h2 h3 h4 h5)
theorem v_aload (h : xOk G X cc y nL rm) {i : Nat} {x : Nat} (hdg : decode cc pc = .ok (.aload i, 2)) (j : Nat) (hl : lv[j]? = some (i, .ref x)) (k : vV G X kc ks (pc + 2) lv (.ref x :: st) f) : vV G X kc ks pc lv st f := by
  obtain ⟨p, l, e, R, s, m, args, below, meth, c, A, H0, n0, Q⟩ := X
  obtain ⟨hx, hb, rfl, h⟩ := h
  exact fun L H locs ls h1 h2 h3 h4 h5 => lv_aload hx hb hdg (lv_at h5 j hl) (k L H locs ls h1 h2 h3 h4 h5)
theorem v_aload_nN (h : xOk G X cc y nL rm) {k0 : Fin 4} (hdg : decode cc pc = .ok (.aload_n k0, 1)) (j : Nat) (hl : lv[j]? = some ((k0 : Nat), .null)) (k : vV G X kc ks (pc + 1) lv (.null :: st) f) : vV G X kc ks pc lv st f := by
  obtain ⟨p, l, e, R, s, m, args, below, meth, c, A, H0, n0, Q⟩ := X
  obtain ⟨hx, hb, rfl, h⟩ := h
  exact fun L H locs ls h1 h2 h3 h4 h5 => lv_aload_nN hx hb hdg rfl (lv_at h5 j hl) (k L H locs ls h1 h2 h3 h4 h5)
theorem v_aloadN (h : xOk G X cc y nL rm) {i : Nat} (hdg : decode cc pc = .ok (.aload i, 2)) (j : Nat) (hl : lv[j]? = some (i, .null)) (k : vV G X kc ks (pc + 2) lv (.null :: st) f) : vV G X kc ks pc lv st f := by
  obtain ⟨p, l, e, R, s, m, args, below, meth, c, A, H0, n0, Q⟩ := X
  obtain ⟨hx, hb, rfl, h⟩ := h
  exact fun L H locs ls h1 h2 h3 h4 h5 => lv_aloadN hx hb hdg (lv_at h5 j hl) (k L H locs ls h1 h2 h3 h4 h5)
theorem v_istore_n (h : xOk G X cc y nL rm) {k0 : Fin 4} {i : Nat} {x : Int32} (hdg : decode cc pc = .ok (.istore_n k0, 1)) (hi : (k0 : Nat) = i) (hn : i < nL) (hl : (i, Value.int x) :: lv.filter (fun q => !(q.1 == i) && !(q.1 + 1 == i && q.2.category == 2)) = lv') (k : vV G X kc ks (pc + 1) lv' st f) : vV G X kc ks pc lv (Value.int x :: st) f := by
  obtain ⟨p, l, e, R, s, m, args, below, meth, c, A, H0, n0, Q⟩ := X
  obtain ⟨hx, hb, rfl, h⟩ := h
  exact fun L H locs ls h1 h2 h3 h4 h5 => lv_istore_n hx hb hdg hi h5 hn hl (fun ls h5 => k L H locs ls h1 h2 h3 h4 h5)
theorem v_istore (h : xOk G X cc y nL rm) {i : Nat} {x : Int32} (hdg : decode cc pc = .ok (.istore i, 2)) (hn : i < nL) (hl : (i, Value.int x) :: lv.filter (fun q => !(q.1 == i) && !(q.1 + 1 == i && q.2.category == 2)) = lv') (k : vV G X kc ks (pc + 2) lv' st f) : vV G X kc ks pc lv (Value.int x :: st) f := by
  obtain ⟨p, l, e, R, s, m, args, below, meth, c, A, H0, n0, Q⟩ := X
  obtain ⟨hx, hb, rfl, h⟩ := h
  exact fun L H locs ls h1 h2 h3 h4 h5 => lv_istore hx hb hdg h5 hn hl (fun ls h5 => k L H locs ls h1 h2 h3 h4 h5)
theorem v_lstore_n (h : xOk G X cc y nL rm) {k0 : Fin 4} {i : Nat} {x : Int64} (hdg : decode cc pc = .ok (.lstore_n k0, 1)) (hi : (k0 : Nat) = i) (hn : i + 1 < nL) (hl : (i, Value.long x) :: lv.filter (fun q => !(q.1 == i) && (!(q.1 == i + 1) && !(q.1 + 1 == i && q.2.category == 2))) = lv') (k : vV G X kc ks (pc + 1) lv' st f) : vV G X kc ks pc lv (Value.long x :: st) f := by
  obtain ⟨p, l, e, R, s, m, args, below, meth, c, A, H0, n0, Q⟩ := X
  obtain ⟨hx, hb, rfl, h⟩ := h
  exact fun L H locs ls h1 h2 h3 h4 h5 => lv_lstore_n hx hb hdg hi h5 hn hl (fun ls h5 => k L H locs ls h1 h2 h3 h4 h5)
theorem v_lstore (h : xOk G X cc y nL rm) {i : Nat} {x : Int64} (hdg : decode cc pc = .ok (.lstore i, 2)) (hn : i + 1 < nL) (hl : (i, Value.long x) :: lv.filter (fun q => !(q.1 == i) && (!(q.1 == i + 1) && !(q.1 + 1 == i && q.2.category == 2))) = lv') (k : vV G X kc ks (pc + 2) lv' st f) : vV G X kc ks pc lv (Value.long x :: st) f := by
  obtain ⟨p, l, e, R, s, m, args, below, meth, c, A, H0, n0, Q⟩ := X
  obtain ⟨hx, hb, rfl, h⟩ := h
  exact fun L H locs ls h1 h2 h3 h4 h5 => lv_lstore hx hb hdg h5 hn hl (fun ls h5 => k L H locs ls h1 h2 h3 h4 h5)
theorem v_astore_n (h : xOk G X cc y nL rm) {k0 : Fin 4} {i : Nat} {x : Nat} (hdg : decode cc pc = .ok (.astore_n k0, 1)) (hi : (k0 : Nat) = i) (hn : i < nL) (hl : (i, Value.ref x) :: lv.filter (fun q => !(q.1 == i) && !(q.1 + 1 == i && q.2.category == 2)) = lv') (k : vV G X kc ks (pc + 1) lv' st f) : vV G X kc ks pc lv (Value.ref x :: st) f := by
  obtain ⟨p, l, e, R, s, m, args, below, meth, c, A, H0, n0, Q⟩ := X
  obtain ⟨hx, hb, rfl, h⟩ := h
  exact fun L H locs ls h1 h2 h3 h4 h5 => lv_astore_n hx hb hdg hi h5 hn hl (fun ls h5 => k L H locs ls h1 h2 h3 h4 h5)
theorem v_astore (h : xOk G X cc y nL rm) {i : Nat} {x : Nat} (hdg : decode cc pc = .ok (.astore i, 2)) (hn : i < nL) (hl : (i, Value.ref x) :: lv.filter (fun q => !(q.1 == i) && !(q.1 + 1 == i && q.2.category == 2)) = lv') (k : vV G X kc ks (pc + 2) lv' st f) : vV G X kc ks pc lv (Value.ref x :: st) f := by
  obtain ⟨p, l, e, R, s, m, args, below, meth, c, A, H0, n0, Q⟩ := X
  obtain ⟨hx, hb, rfl, h⟩ := h
  exact fun L H locs ls h1 h2 h3 h4 h5 => lv_astore hx hb hdg h5 hn hl (fun ls h5 => k L H locs ls h1 h2 h3 h4 h5)
theorem v_astore_nN (h : xOk G X cc y nL rm) {k0 : Fin 4} {i : Nat} (hdg : decode cc pc = .ok (.astore_n k0, 1)) (hi : (k0 : Nat) = i) (hn : i < nL) (hl : (i, Value.null) :: lv.filter (fun q => !(q.1 == i) && !(q.1 + 1 == i && q.2.category == 2)) = lv') (k : vV G X kc ks (pc + 1) lv' st f) : vV G X kc ks pc lv (.null :: st) f := by
  obtain ⟨p, l, e, R, s, m, args, below, meth, c, A, H0, n0, Q⟩ := X
  obtain ⟨hx, hb, rfl, h⟩ := h
  exact fun L H locs ls h1 h2 h3 h4 h5 => lv_astore_nN hx hb hdg hi h5 hn hl (fun ls h5 => k L H locs ls h1 h2 h3 h4 h5)
theorem v_astoreN (h : xOk G X cc y nL rm) {i : Nat} (hdg : decode cc pc = .ok (.astore i, 2)) (hn : i < nL) (hl : (i, Value.null) :: lv.filter (fun q => !(q.1 == i) && !(q.1 + 1 == i && q.2.category == 2)) = lv') (k : vV G X kc ks (pc + 2) lv' st f) : vV G X kc ks pc lv (.null :: st) f := by
  obtain ⟨p, l, e, R, s, m, args, below, meth, c, A, H0, n0, Q⟩ := X
  obtain ⟨hx, hb, rfl, h⟩ := h
  exact fun L H locs ls h1 h2 h3 h4 h5 => lv_astoreN hx hb hdg h5 hn hl (fun ls h5 => k L H locs ls h1 h2 h3 h4 h5)
theorem v_iinc (h : xOk G X cc y nL rm) {i : Nat} {n a : Int} (hdg : decode cc pc = .ok (.iinc i n, 3)) (j : Nat) (hk : lv[j]? = some (i, .int (iv a))) (hn : i < nL) (hl : (i, Value.int (iv (a + n))) :: lv.filter (fun q => !(q.1 == i) && !(q.1 + 1 == i && q.2.category == 2)) = lv') (k : vV G X kc ks (pc + 3) lv' st f) : vV G X kc ks pc lv st f := by
  obtain ⟨p, l, e, R, s, m, args, below, meth, c, A, H0, n0, Q⟩ := X
  obtain ⟨hx, hb, rfl, h⟩ := h
  exact fun L H locs ls h1 h2 h3 h4 h5 => lv_iinc hx hb hdg h5 hk (iv_add a n) hn hl (fun ls h5 => k L H locs ls h1 h2 h3 h4 h5)
theorem v_lv (ks' : List Nat) (hl : lv_pick lv ks' = lv') (k : vV G X kc ks pc lv' st f) : vV G X kc ks pc lv st f := by
  obtain ⟨p, l, e, R, s, m, args, below, meth, c, A, H0, n0, Q⟩ := X
  exact fun L H locs ls h1 h2 h3 h4 h5 => k L H locs ls h1 h2 h3 h4 (lv_sub h5 ks' hl)
theorem v_eq {st' : List Value} (h : st = st') (k : vV G X kc ks pc lv st' f) : vV G X kc ks pc lv st f := h ▸ k
theorem v_top {x x' : Int32} (h : x = x') (k : vV G X kc ks pc lv (.int x' :: st) f) : vV G X kc ks pc lv (.int x :: st) f := h ▸ k
theorem v_f {f' : xF} (h : f = f') (k : vV G X kc ks pc lv st f') : vV G X kc ks pc lv st f := h ▸ k
theorem v_widen {kc' ks' : Nat} (h1 : kc ≤ kc') (h2 : ks ≤ ks') (k : vV G X kc' ks' pc lv st f) : vV G X kc ks pc lv st f := by
  obtain ⟨p, l, e, R, s, m, args, below, meth, c, A, H0, n0, Q⟩ := X
  exact fun L H locs ls a1 a2 a3 a4 a5 => W.widen h1 h2 (k L H locs ls a1 a2 a3 a4 a5)
theorem v_icmp_eq (h : xOk G X cc y nL rm) {a b : Int} {off : Int} {tgt : Nat} (hdg : decode cc pc = .ok (.if_icmp .eq off, 3)) (ht : (pc : Int) + off = (tgt : Int)) (ha0 : ir a) (hb0 : ir b) (kt : a = b → vV G X kc ks tgt lv st f) (kf : ¬ a = b → vV G X kc ks (pc + 3) lv st f) : vV G X kc ks pc lv (.int (iv b) :: .int (iv a) :: st) f := by
  obtain ⟨p, l, e, R, s, m, args, below, meth, c, A, H0, n0, Q⟩ := X
  obtain ⟨hx, hb, rfl, h⟩ := h
  exact fun L H locs ls h1 h2 h3 h4 h5 => lv_icmp_eq hx hb hdg ht (fun q => kt ((iv_eq ha0 hb0).mp q) L H locs ls h1 h2 h3 h4 h5) (fun q => kf (fun q9 => q ((iv_eq ha0 hb0).mpr q9)) L H locs ls h1 h2 h3 h4 h5)
theorem v_if_eq (h : xOk G X cc y nL rm) {a : Int} {off : Int} {tgt : Nat} (hdg : decode cc pc = .ok (.ifCond .eq off, 3)) (ht : (pc : Int) + off = (tgt : Int)) (ha0 : ir a) (kt : a = 0 → vV G X kc ks tgt lv st f) (kf : ¬ a = 0 → vV G X kc ks (pc + 3) lv st f) : vV G X kc ks pc lv (.int (iv a) :: st) f := by
  obtain ⟨p, l, e, R, s, m, args, below, meth, c, A, H0, n0, Q⟩ := X
  obtain ⟨hx, hb, rfl, h⟩ := h
  have hb0 : ir 0 := ir_0
  have e0 : (0 : Int32) = iv 0 := rfl
  exact fun L H locs ls h1 h2 h3 h4 h5 => lv_if_eq hx hb hdg ht (fun q => kt ((iv_eq ha0 hb0).mp q) L H locs ls h1 h2 h3 h4 h5) (fun q => kf (fun q9 => q ((iv_eq ha0 hb0).mpr q9)) L H locs ls h1 h2 h3 h4 h5)
theorem v_icmp_ne (h : xOk G X cc y nL rm) {a b : Int} {off : Int} {tgt : Nat} (hdg : decode cc pc = .ok (.if_icmp .ne off, 3)) (ht : (pc : Int) + off = (tgt : Int)) (ha0 : ir a) (hb0 : ir b) (kt : ¬ a = b → vV G X kc ks tgt lv st f) (kf : a = b → vV G X kc ks (pc + 3) lv st f) : vV G X kc ks pc lv (.int (iv b) :: .int (iv a) :: st) f := by
  obtain ⟨p, l, e, R, s, m, args, below, meth, c, A, H0, n0, Q⟩ := X
  obtain ⟨hx, hb, rfl, h⟩ := h
  exact fun L H locs ls h1 h2 h3 h4 h5 => lv_icmp_ne hx hb hdg ht (fun q => kt (fun q9 => q ((iv_eq ha0 hb0).mpr q9)) L H locs ls h1 h2 h3 h4 h5) (fun q => kf ((iv_eq ha0 hb0).mp q) L H locs ls h1 h2 h3 h4 h5)
theorem v_if_ne (h : xOk G X cc y nL rm) {a : Int} {off : Int} {tgt : Nat} (hdg : decode cc pc = .ok (.ifCond .ne off, 3)) (ht : (pc : Int) + off = (tgt : Int)) (ha0 : ir a) (kt : ¬ a = 0 → vV G X kc ks tgt lv st f) (kf : a = 0 → vV G X kc ks (pc + 3) lv st f) : vV G X kc ks pc lv (.int (iv a) :: st) f := by
  obtain ⟨p, l, e, R, s, m, args, below, meth, c, A, H0, n0, Q⟩ := X
  obtain ⟨hx, hb, rfl, h⟩ := h
  have hb0 : ir 0 := ir_0
  have e0 : (0 : Int32) = iv 0 := rfl
  exact fun L H locs ls h1 h2 h3 h4 h5 => lv_if_ne hx hb hdg ht (fun q => kt (fun q9 => q ((iv_eq ha0 hb0).mpr q9)) L H locs ls h1 h2 h3 h4 h5) (fun q => kf ((iv_eq ha0 hb0).mp q) L H locs ls h1 h2 h3 h4 h5)
theorem v_icmp_lt (h : xOk G X cc y nL rm) {a b : Int} {off : Int} {tgt : Nat} (hdg : decode cc pc = .ok (.if_icmp .lt off, 3)) (ht : (pc : Int) + off = (tgt : Int)) (ha0 : ir a) (hb0 : ir b) (kt : a < b → vV G X kc ks tgt lv st f) (kf : b ≤ a → vV G X kc ks (pc + 3) lv st f) : vV G X kc ks pc lv (.int (iv b) :: .int (iv a) :: st) f := by
  obtain ⟨p, l, e, R, s, m, args, below, meth, c, A, H0, n0, Q⟩ := X
  obtain ⟨hx, hb, rfl, h⟩ := h
  exact fun L H locs ls h1 h2 h3 h4 h5 => lv_icmp_lt hx hb hdg ht (fun q => kt ((iv_lt ha0 hb0).mp q) L H locs ls h1 h2 h3 h4 h5) (fun q => kf (by have := mt (iv_lt ha0 hb0).mpr q; omega) L H locs ls h1 h2 h3 h4 h5)
theorem v_if_lt (h : xOk G X cc y nL rm) {a : Int} {off : Int} {tgt : Nat} (hdg : decode cc pc = .ok (.ifCond .lt off, 3)) (ht : (pc : Int) + off = (tgt : Int)) (ha0 : ir a) (kt : a < 0 → vV G X kc ks tgt lv st f) (kf : 0 ≤ a → vV G X kc ks (pc + 3) lv st f) : vV G X kc ks pc lv (.int (iv a) :: st) f := by
  obtain ⟨p, l, e, R, s, m, args, below, meth, c, A, H0, n0, Q⟩ := X
  obtain ⟨hx, hb, rfl, h⟩ := h
  have hb0 : ir 0 := ir_0
  have e0 : (0 : Int32) = iv 0 := rfl
  exact fun L H locs ls h1 h2 h3 h4 h5 => lv_if_lt hx hb hdg ht (fun q => kt ((iv_lt ha0 hb0).mp q) L H locs ls h1 h2 h3 h4 h5) (fun q => kf (by have := mt (iv_lt ha0 hb0).mpr q; omega) L H locs ls h1 h2 h3 h4 h5)
theorem v_icmp_ge (h : xOk G X cc y nL rm) {a b : Int} {off : Int} {tgt : Nat} (hdg : decode cc pc = .ok (.if_icmp .ge off, 3)) (ht : (pc : Int) + off = (tgt : Int)) (ha0 : ir a) (hb0 : ir b) (kt : b ≤ a → vV G X kc ks tgt lv st f) (kf : a < b → vV G X kc ks (pc + 3) lv st f) : vV G X kc ks pc lv (.int (iv b) :: .int (iv a) :: st) f := by
  obtain ⟨p, l, e, R, s, m, args, below, meth, c, A, H0, n0, Q⟩ := X
  obtain ⟨hx, hb, rfl, h⟩ := h
  exact fun L H locs ls h1 h2 h3 h4 h5 => lv_icmp_ge hx hb hdg ht (fun q => kt ((iv_le hb0 ha0).mp q) L H locs ls h1 h2 h3 h4 h5) (fun q => kf (by have := mt (iv_le hb0 ha0).mpr q; omega) L H locs ls h1 h2 h3 h4 h5)
theorem v_if_ge (h : xOk G X cc y nL rm) {a : Int} {off : Int} {tgt : Nat} (hdg : decode cc pc = .ok (.ifCond .ge off, 3)) (ht : (pc : Int) + off = (tgt : Int)) (ha0 : ir a) (kt : 0 ≤ a → vV G X kc ks tgt lv st f) (kf : a < 0 → vV G X kc ks (pc + 3) lv st f) : vV G X kc ks pc lv (.int (iv a) :: st) f := by
  obtain ⟨p, l, e, R, s, m, args, below, meth, c, A, H0, n0, Q⟩ := X
  obtain ⟨hx, hb, rfl, h⟩ := h
  have hb0 : ir 0 := ir_0
  have e0 : (0 : Int32) = iv 0 := rfl
  exact fun L H locs ls h1 h2 h3 h4 h5 => lv_if_ge hx hb hdg ht (fun q => kt ((iv_le hb0 ha0).mp q) L H locs ls h1 h2 h3 h4 h5) (fun q => kf (by have := mt (iv_le hb0 ha0).mpr q; omega) L H locs ls h1 h2 h3 h4 h5)
theorem v_icmp_gt (h : xOk G X cc y nL rm) {a b : Int} {off : Int} {tgt : Nat} (hdg : decode cc pc = .ok (.if_icmp .gt off, 3)) (ht : (pc : Int) + off = (tgt : Int)) (ha0 : ir a) (hb0 : ir b) (kt : b < a → vV G X kc ks tgt lv st f) (kf : a ≤ b → vV G X kc ks (pc + 3) lv st f) : vV G X kc ks pc lv (.int (iv b) :: .int (iv a) :: st) f := by
  obtain ⟨p, l, e, R, s, m, args, below, meth, c, A, H0, n0, Q⟩ := X
  obtain ⟨hx, hb, rfl, h⟩ := h
  exact fun L H locs ls h1 h2 h3 h4 h5 => lv_icmp_gt hx hb hdg ht (fun q => kt ((iv_lt hb0 ha0).mp q) L H locs ls h1 h2 h3 h4 h5) (fun q => kf (by have := mt (iv_lt hb0 ha0).mpr q; omega) L H locs ls h1 h2 h3 h4 h5)
theorem v_if_gt (h : xOk G X cc y nL rm) {a : Int} {off : Int} {tgt : Nat} (hdg : decode cc pc = .ok (.ifCond .gt off, 3)) (ht : (pc : Int) + off = (tgt : Int)) (ha0 : ir a) (kt : 0 < a → vV G X kc ks tgt lv st f) (kf : a ≤ 0 → vV G X kc ks (pc + 3) lv st f) : vV G X kc ks pc lv (.int (iv a) :: st) f := by
  obtain ⟨p, l, e, R, s, m, args, below, meth, c, A, H0, n0, Q⟩ := X
  obtain ⟨hx, hb, rfl, h⟩ := h
  have hb0 : ir 0 := ir_0
  have e0 : (0 : Int32) = iv 0 := rfl
  exact fun L H locs ls h1 h2 h3 h4 h5 => lv_if_gt hx hb hdg ht (fun q => kt ((iv_lt hb0 ha0).mp q) L H locs ls h1 h2 h3 h4 h5) (fun q => kf (by have := mt (iv_lt hb0 ha0).mpr q; omega) L H locs ls h1 h2 h3 h4 h5)
theorem v_icmp_le (h : xOk G X cc y nL rm) {a b : Int} {off : Int} {tgt : Nat} (hdg : decode cc pc = .ok (.if_icmp .le off, 3)) (ht : (pc : Int) + off = (tgt : Int)) (ha0 : ir a) (hb0 : ir b) (kt : a ≤ b → vV G X kc ks tgt lv st f) (kf : b < a → vV G X kc ks (pc + 3) lv st f) : vV G X kc ks pc lv (.int (iv b) :: .int (iv a) :: st) f := by
  obtain ⟨p, l, e, R, s, m, args, below, meth, c, A, H0, n0, Q⟩ := X
  obtain ⟨hx, hb, rfl, h⟩ := h
  exact fun L H locs ls h1 h2 h3 h4 h5 => lv_icmp_le hx hb hdg ht (fun q => kt ((iv_le ha0 hb0).mp q) L H locs ls h1 h2 h3 h4 h5) (fun q => kf (by have := mt (iv_le ha0 hb0).mpr q; omega) L H locs ls h1 h2 h3 h4 h5)
theorem v_if_le (h : xOk G X cc y nL rm) {a : Int} {off : Int} {tgt : Nat} (hdg : decode cc pc = .ok (.ifCond .le off, 3)) (ht : (pc : Int) + off = (tgt : Int)) (ha0 : ir a) (kt : a ≤ 0 → vV G X kc ks tgt lv st f) (kf : 0 < a → vV G X kc ks (pc + 3) lv st f) : vV G X kc ks pc lv (.int (iv a) :: st) f := by
  obtain ⟨p, l, e, R, s, m, args, below, meth, c, A, H0, n0, Q⟩ := X
  obtain ⟨hx, hb, rfl, h⟩ := h
  have hb0 : ir 0 := ir_0
  have e0 : (0 : Int32) = iv 0 := rfl
  exact fun L H locs ls h1 h2 h3 h4 h5 => lv_if_le hx hb hdg ht (fun q => kt ((iv_le ha0 hb0).mp q) L H locs ls h1 h2 h3 h4 h5) (fun q => kf (by have := mt (iv_le ha0 hb0).mpr q; omega) L H locs ls h1 h2 h3 h4 h5)
theorem v_goto (h : xOk G X cc y nL rm) {off : Int} {tgt : Nat} (hdg : decode cc pc = .ok (.goto off, 3)) (ht : (pc : Int) + off = (tgt : Int)) (k : vV G X kc ks tgt lv st f) : vV G X kc ks pc lv st f := by
  obtain ⟨p, l, e, R, s, m, args, below, meth, c, A, H0, n0, Q⟩ := X
  obtain ⟨hx, hb, rfl, h⟩ := h
  exact fun L H locs ls h1 h2 h3 h4 h5 => lv_goto hx hb hdg ht (k L H locs ls h1 h2 h3 h4 h5)
theorem v_ifnonnull (h : xOk G X cc y nL rm) {x : Nat} {off : Int} {tgt : Nat} (hdg : decode cc pc = .ok (.ifnonnull off, 3)) (ht : (pc : Int) + off = (tgt : Int)) (k : vV G X kc ks tgt lv st f) : vV G X kc ks pc lv (.ref x :: st) f := by
  obtain ⟨p, l, e, R, s, m, args, below, meth, c, A, H0, n0, Q⟩ := X
  obtain ⟨hx, hb, rfl, h⟩ := h
  exact fun L H locs ls h1 h2 h3 h4 h5 => lv_ifnonnull hx hb hdg ht (k L H locs ls h1 h2 h3 h4 h5)
theorem v_ifnull (h : xOk G X cc y nL rm) {x : Nat} {off : Int} (hdg : decode cc pc = .ok (.ifnull off, 3)) (k : vV G X kc ks (pc + 3) lv st f) : vV G X kc ks pc lv (.ref x :: st) f := by
  obtain ⟨p, l, e, R, s, m, args, below, meth, c, A, H0, n0, Q⟩ := X
  obtain ⟨hx, hb, rfl, h⟩ := h
  exact fun L H locs ls h1 h2 h3 h4 h5 => lv_ifnull hx hb hdg (k L H locs ls h1 h2 h3 h4 h5)
theorem v_ifnullN (h : xOk G X cc y nL rm) {off : Int} {tgt : Nat} (hdg : decode cc pc = .ok (.ifnull off, 3)) (ht : (pc : Int) + off = (tgt : Int)) (k : vV G X kc ks tgt lv st f) : vV G X kc ks pc lv (.null :: st) f := by
  obtain ⟨p, l, e, R, s, m, args, below, meth, c, A, H0, n0, Q⟩ := X
  obtain ⟨hx, hb, rfl, h⟩ := h
  exact fun L H locs ls h1 h2 h3 h4 h5 => lv_ifnullN hx hb hdg ht (k L H locs ls h1 h2 h3 h4 h5)
theorem v_ifnonnullN (h : xOk G X cc y nL rm) {off : Int} (hdg : decode cc pc = .ok (.ifnonnull off, 3)) (k : vV G X kc ks (pc + 3) lv st f) : vV G X kc ks pc lv (.null :: st) f := by
  obtain ⟨p, l, e, R, s, m, args, below, meth, c, A, H0, n0, Q⟩ := X
  obtain ⟨hx, hb, rfl, h⟩ := h
  exact fun L H locs ls h1 h2 h3 h4 h5 => lv_ifnonnullN hx hb hdg (k L H locs ls h1 h2 h3 h4 h5)
theorem v_tableOut (h : xOk G X cc y nL rm) {dflt lo hi a : Int} {offs : Array Int} {len : Nat} {tgt : Nat} (hdg : decode cc pc = .ok (.tableswitch dflt lo hi offs, len)) (ha : ir a) (hq : a < lo ∨ hi < a) (ht : (pc : Int) + dflt = (tgt : Int)) (k : vV G X kc ks tgt lv st f) : vV G X kc ks pc lv (.int (iv a) :: st) f := by
  obtain ⟨p, l, e, R, s, m, args, below, meth, c, A, H0, n0, Q⟩ := X
  obtain ⟨hx, hb, rfl, h⟩ := h
  intro L H locs ls h1 h2 h3 h4 h5
  exact lv_tableOut hx hb hdg (by rw [iv_toInt ha]; exact hq) ht (k L H locs ls h1 h2 h3 h4 h5)
theorem v_tableIn (h : xOk G X cc y nL rm) {dflt lo hi a : Int} {offs : Array Int} {len : Nat} {off : Int} {tgt : Nat} (hdg : decode cc pc = .ok (.tableswitch dflt lo hi offs, len)) (ha : ir a) (hq1 : lo ≤ a) (hq2 : a ≤ hi) (ho : offs[(a - lo).toNat]? = some off) (ht : (pc : Int) + off = (tgt : Int)) (k : vV G X kc ks tgt lv st f) : vV G X kc ks pc lv (.int (iv a) :: st) f := by
  obtain ⟨p, l, e, R, s, m, args, below, meth, c, A, H0, n0, Q⟩ := X
  obtain ⟨hx, hb, rfl, h⟩ := h
  intro L H locs ls h1 h2 h3 h4 h5
  exact lv_tableIn hx hb hdg (by rw [iv_toInt ha]; omega) (by rw [iv_toInt ha]; omega) (by rw [iv_toInt ha]; exact ho) ht (k L H locs ls h1 h2 h3 h4 h5)
theorem v_get (h : xOk G X cc y nL rm) {idx ci kf a : Nat} {fs : List Value} {v : Value} (hF : FldA y.cls idx ci kf) (hdg : decode cc pc = .ok (.getfield idx, 3)) (he : f a = eO ci fs) (hv : fs[kf]? = some v) (k : vV G X kc ks (pc + 3) lv (v :: st) f) : vV G X kc ks pc lv (.ref a :: st) f := by
  obtain ⟨p, l, e, R, s, m, args, below, meth, c, A, H0, n0, Q⟩ := X
  obtain ⟨hx, hb, rfl, hml, hown, hts, hN, hK, hA, hR, hnm⟩ := h
  obtain ⟨C, T, N, hc, hk, h9, hin, hC, hl⟩ := hF
  intro L H locs ls h1 h2 h3 h4 h5
  have hm : a ∈ L := h1.mem (by rw [he]; exact eO_ne h9)
  obtain ⟨q0, hq0⟩ := pl_get (f := f) hm
  rw [he] at hq0
  rcases hl with hl | ⟨host, hl⟩
  · exact va_get (D := G.1) (ci := ci) (v := v) (C := C) (T := T) (N := N) hx hb hts hin hown hK h2 q0 hq0 hc kf hk (hts _ hl) (fun _ q9 => by rw [hC] at q9; exact q9) hv hdg (k L H locs ls h1 h2 h3 h4 h5)
  · exact va_getN (D := G.1) (ci := ci) (v := v) (C := C) (T := T) (N := N) hx hb hts hin hown hK h2 q0 hq0 hc kf hk (va_Nw.use rfl (hN _ hl)) (fun _ q9 => by rw [hC] at q9; exact q9) hv hdg (k L H locs ls h1 h2 h3 h4 h5)
theorem v_put (h : xOk G X cc y nL rm) {idx ci kf a : Nat} {ty : FieldType} {fs fs' : List Value} {v : Value} (hF : PutA y.cls idx ci kf ty) (hdg : decode cc pc = .ok (.putfield idx, 3)) (he : f a = eO ci fs) (hn : narrow ty v = v) (hfit : fits ty v = true) (hl : kf < fs.length) (hs : fs.set kf v = fs') (k : vV G X kc ks (pc + 3) lv st (va_up f a (eO ci fs'))) : vV G X kc ks pc lv (v :: .ref a :: st) f := by
  obtain ⟨p, l, e, R, s, m, args, below, meth, c, A, H0, n0, Q⟩ := X
  obtain ⟨hx, hb, rfl, hml, hown, hts, hN, hK, hA, hR, hnm⟩ := h
  obtain ⟨C, T, N, ty0, hc, hk, h9, hin, hC, hty, hnms, hd, hfin, hlk⟩ := hF
  subst hs
  intro L H locs ls h1 h2 h3 h4 h5
  have hm : a ∈ L := h1.mem (by rw [he]; exact eO_ne h9)
  obtain ⟨q0, hq0⟩ := pl_get (f := f) hm
  have hset := pl_set (x := eO ci (fs.set kf v)) h3 hm hq0
  rw [he] at hq0
  rcases hlk with hlk | ⟨host, hlk⟩
  · exact va_put (D := G.1) (ci := ci) (v := v) (ty := ty) (C := C) (T := T) (N := N) hx hb hts hin ty0 hty hnms hown hK h2 h3 h4 q0 hq0 hc kf hk (hts _ hlk) (fun _ q9 => by rw [hC] at q9; exact q9) hfin hd hn hfit hl hdg (fun H1 locs1 a1 a2 a3 => by rw [hset] at a1 a2; exact k L H1 locs1 ls (h1.up hm _) a1 a2 a3 h5)
  · exact va_putN (D := G.1) (ci := ci) (v := v) (ty := ty) (C := C) (T := T) (N := N) hx hb hts hin ty0 hty hnms hown hK h2 h3 h4 q0 hq0 hc kf hk (va_Nw.use rfl (hN _ hlk)) (fun _ q9 => by rw [hC] at q9; exact q9) hfin hd hn hfit hl hdg (fun H1 locs1 a1 a2 a3 => by rw [hset] at a1 a2; exact k L H1 locs1 ls (h1.up hm _) a1 a2 a3 h5)
theorem v_putF (h : xOk G X cc y nL rm) {idx ci kf a : Nat} {ty : FieldType} {fs fs' : List Value} {v : Value} (hF : PutF y.cls idx ci kf ty) (hy : y.name = "<init>") (hdg : decode cc pc = .ok (.putfield idx, 3)) (he : f a = eO ci fs) (hn : narrow ty v = v) (hfit : fits ty v = true) (hl : kf < fs.length) (hs : fs.set kf v = fs') (k : vV G X kc ks (pc + 3) lv st (va_up f a (eO ci fs'))) : vV G X kc ks pc lv (v :: .ref a :: st) f := by
  obtain ⟨p, l, e, R, s, m, args, below, meth, c, A, H0, n0, Q⟩ := X
  obtain ⟨hx, hb, rfl, hml, hown, hts, hN, hK, hA, hR, hnm⟩ := h
  obtain ⟨C, T, N, ty0, hc, hk, h9, hin, hC, hty, hnms, hd, hfin, hlk, hCo⟩ := hF
  subst hs
  intro L H locs ls h1 h2 h3 h4 h5
  have hm : a ∈ L := h1.mem (by rw [he]; exact eO_ne h9)
  obtain ⟨q0, hq0⟩ := pl_get (f := f) hm
  have hset := pl_set (x := eO ci (fs.set kf v)) h3 hm hq0
  rw [he] at hq0
  exact va_putF (D := G.1) (ci := ci) (v := v) (ty := ty) (C := C) (T := T) (N := N) hx hb hts hin ty0 hty hnms hown hK h2 h3 h4 q0 hq0 hc kf hk (hts _ hlk) (fun _ q9 => by rw [hC] at q9; exact q9) hfin (hnm.trans hy) (hC.trans hCo) hd hn hfit hl hdg (fun H1 locs1 a1 a2 a3 => by rw [hset] at a1 a2; exact k L H1 locs1 ls (h1.up hm _) a1 a2 a3 h5)
theorem v_iald (h : xOk G X cc y nL rm) {a n : Nat} {g : Nat → Int} {z : Int} (hdg : decode cc pc = .ok (.iaload, 1)) (he : f a = eJ G n g) (hn : n < 2147483648) (i : Nat) (hi : z = i) (hin : i < n) (k : vV G X kc ks (pc + 1) lv (.int (iv (g i)) :: st) f) : vV G X kc ks pc lv (.int (iv z) :: .ref a :: st) f := by
  obtain ⟨p, l, e, R, s, m, args, below, meth, c, A, H0, n0, Q⟩ := X
  obtain ⟨hx, hb, rfl, hml, hown, hts, hN, hK, hA, hR, hnm⟩ := h
  intro L H locs ls h1 h2 h3 h4 h5
  have hm : a ∈ L := h1.mem (by rw [he]; exact eJ_ne)
  obtain ⟨q0, hq0⟩ := pl_get (f := f) hm
  rw [he] at hq0
  obtain ⟨b1, b2⟩ := iv_in hi hin hn
  exact va_iald (D := G.1) hx hb hK h2 q0 0 hq0 rfl b1 hdg (by rw [b2]; exact k L H locs ls h1 h2 h3 h4 h5)
theorem v_iast (h : xOk G X cc y nL rm) {a n : Nat} {g : Nat → Int} {z x : Int} (hdg : decode cc pc = .ok (.iastore, 1)) (he : f a = eJ G n g) (hn : n < 2147483648) (i : Nat) (hi : z = i) (hin : i < n) (k : vV G X kc ks (pc + 1) lv st (va_up f a (eJ G n (va_up g i x)))) : vV G X kc ks pc lv (.int (iv x) :: .int (iv z) :: .ref a :: st) f := by
  obtain ⟨p, l, e, R, s, m, args, below, meth, c, A, H0, n0, Q⟩ := X
  obtain ⟨hx, hb, rfl, hml, hown, hts, hN, hK, hA, hR, hnm⟩ := h
  intro L H locs ls h1 h2 h3 h4 h5
  have hm : a ∈ L := h1.mem (by rw [he]; exact eJ_ne)
  obtain ⟨q0, hq0⟩ := pl_get (f := f) hm
  have hset := pl_set (x := eJ G n (va_up g i x)) h3 hm hq0
  rw [he] at hq0
  obtain ⟨b1, b2⟩ := iv_in hi hin hn
  exact va_iast (D := G.1) hx hb hK h2 h3 h4 q0 0 hq0 rfl b1 hdg (fun H1 locs1 a1 a2 a3 => by rw [b2, eJ_up, hset] at a1 a2; exact k L H1 locs1 ls (h1.up hm _) a1 a2 a3 h5)
theorem v_alenJ (h : xOk G X cc y nL rm) {a n : Nat} {g : Nat → Int} (hdg : decode cc pc = .ok (.arraylength, 1)) (he : f a = eJ G n g) (k : vV G X kc ks (pc + 1) lv (.int (iv n) :: st) f) : vV G X kc ks pc lv (.ref a :: st) f := by
  obtain ⟨p, l, e, R, s, m, args, below, meth, c, A, H0, n0, Q⟩ := X
  obtain ⟨hx, hb, rfl, hml, hown, hts, hN, hK, hA, hR, hnm⟩ := h
  intro L H locs ls h1 h2 h3 h4 h5
  have hm : a ∈ L := h1.mem (by rw [he]; exact eJ_ne)
  obtain ⟨q0, hq0⟩ := pl_get (f := f) hm
  rw [he] at hq0
  exact va_alen (D := G.1) hx hb hK h2 q0 0 hq0 rfl (by rw [iv_nat]; rfl) hdg (k L H locs ls h1 h2 h3 h4 h5)
theorem v_aald (h : xOk G X cc y nL rm) {a t n : Nat} {C : String} {g : Nat → Option Nat} {z : Int} (hdg : decode cc pc = .ok (.aaload, 1)) (he : f a = eR G t n g) (ht : (xt G)[t]? = some (G.2 t, .object C)) (hn : n < 2147483648) (i : Nat) (hi : z = i) (hin : i < n) {q : Nat} (hq : g i = some q) (k : vV G X kc ks (pc + 1) lv (.ref q :: st) f) : vV G X kc ks pc lv (.int (iv z) :: .ref a :: st) f := by
  obtain ⟨p, l, e, R, s, m, args, below, meth, c, A, H0, n0, Q⟩ := X
  obtain ⟨hx, hb, rfl, hml, hown, hts, hN, hK, hA, hR, hnm⟩ := h
  intro L H locs ls h1 h2 h3 h4 h5
  have hm : a ∈ L := h1.mem (by rw [he]; exact eR_ne)
  obtain ⟨q0, hq0⟩ := pl_get (f := f) hm
  rw [he] at hq0
  obtain ⟨b1, b2⟩ := iv_in hi hin hn
  exact va_aldq (D := G.1) hx hb hK h2 q0 t hq0 ht b1 hdg (by rw [b2, hq]; exact k L H locs ls h1 h2 h3 h4 h5)
theorem v_aaldA (h : xOk G X cc y nL rm) {a t n : Nat} {ty : FieldType} {g : Nat → Option Nat} {z : Int} (hdg : decode cc pc = .ok (.aaload, 1)) (he : f a = eR G t n g) (ht : (xt G)[t]? = some (G.2 t, .array ty)) (hn : n < 2147483648) (i : Nat) (hi : z = i) (hin : i < n) {q : Nat} (hq : g i = some q) (k : vV G X kc ks (pc + 1) lv (.ref q :: st) f) : vV G X kc ks pc lv (.int (iv z) :: .ref a :: st) f := by
  obtain ⟨p, l, e, R, s, m, args, below, meth, c, A, H0, n0, Q⟩ := X
  obtain ⟨hx, hb, rfl, hml, hown, hts, hN, hK, hA, hR, hnm⟩ := h
  intro L H locs ls h1 h2 h3 h4 h5
  have hm : a ∈ L := h1.mem (by rw [he]; exact eR_ne)
  obtain ⟨q0, hq0⟩ := pl_get (f := f) hm
  rw [he] at hq0
  obtain ⟨b1, b2⟩ := iv_in hi hin hn
  have hlt : (iv z).toNatClampNeg < n := by rw [b2]; exact hin
  exact W.aald (v := va_rf (g (iv z).toNatClampNeg)) (ty := .array ty) hx hb (h2 q0 _ hq0) ((hK.2 t _ ht).1 n (fun j => va_rf (g j))) rfl (fun q => by cases q) (by show ¬ (iv z < 0 ∨ (arrV _ _ _).slots.size ≤ _); rw [arrV_size]; exact b1) (by show (arrV _ _ _).slots[_]? = _; rw [arrV_read _ _ hlt]) rfl rfl hdg (by rw [b2, hq]; exact k L H locs ls h1 h2 h3 h4 h5)
theorem v_objInit (h : xOk G X cc y nL rm) {idx a : Nat} (hdg : decode cc pc = .ok (.invokespecial idx, 3)) (hl : Cond.methodLink y.cls idx Lib.objectInit ∈ zT) (hi : Cond.instanceMethod Lib.objectInit ∈ zT) (hc : Cond.code Lib.objectInit ⟨#[0xb1]⟩ 1 none ∈ zT) (hr1 : 1 ≤ rm.frames) (hr2 : (st.map fun v => v.category).sum + 12 ≤ rm.locals) (k : vV G X kc ks (pc + 3) lv st f) : vV G X kc ks pc lv (.ref a :: st) f := by
  obtain ⟨p, l, e, R, s, m, args, below, meth, c, A, H0, n0, Q⟩ := X
  obtain ⟨hx, hb, rfl, hml, hown, hts, hN, hK, hA, rfl, hnm⟩ := h
  intro L H locs ls h1 h2 h3 h4 h5
  refine W.objInit hx hb hown (hts _ hl) (hts _ hi) (hts _ hc) rfl (by rw [hml]; exact h5.1) rfl hdg hr1 (Nat.le_trans (Nat.le_of_eq ?_) hr2) ?_
  · simp [JFrame.monitorRoom]
  · exact k L H locs ls h1 h2 h3 h4 h5
end VV

/-! contracts: a method by what it does to f -/
def mPre (G : xG) (L : List Nat) (f : xF) (sz : Nat) : State → Prop := fun U => U.heap.size = sz ∧ va_P G.1 zCl (va_pl L f) U.heap ∧ va_K G.1 zCl (xt G) U ∧ (∀ w ∈ zN, va_Nw w U) ∧ va_D (fun _ => True) (va_pl L f)
def mPost (G : xG) (A : Nat → Prop) (f' : xF) (t : State) : Prop := ∃ L' : List Nat, vW L' f' ∧ va_P G.1 zCl (va_pl L' f') t.heap ∧ va_K G.1 zCl (xt G) t ∧ va_D A (va_pl L' f')
def mI (l : Launch) (G : xG) (y : MethodName) (cw : Cond) (rm : Room) (av : List Value) (f : xF) (post : Int → xF → Prop) : Prop := ∀ (L : List Nat) (sz : Nat), vW L f → Met l y (cw :: zT) rm (va_Pc av (mPre G L f sz)) (va_Qi (fun r f' => ∃ z, ir z ∧ r = iv z ∧ post z f') (mPost G (va_A (va_pl L f) sz)) (va_A (va_pl L f) sz)) rm.cells rm.slots (va_A (va_pl L f) sz)
def mV (l : Launch) (G : xG) (y : MethodName) (cw : Cond) (rm : Room) (av : List Value) (f : xF) (post : xF → Prop) : Prop := ∀ (L : List Nat) (sz : Nat), vW L f → Met l y (cw :: zT) rm (va_Pc av (mPre G L f sz)) (va_Qv post (mPost G (va_A (va_pl L f) sz)) (va_A (va_pl L f) sz)) rm.cells rm.slots (va_A (va_pl L f) sz)
def mR (l : Launch) (G : xG) (y : MethodName) (cw : Cond) (rm : Room) (av : List Value) (f : xF) (post : Option Nat → xF → Prop) : Prop := ∀ (L : List Nat) (sz : Nat), vW L f → Met l y (cw :: zT) rm (va_Pc av (mPre G L f sz)) (va_Qq post (mPost G (va_A (va_pl L f) sz)) (va_A (va_pl L f) sz)) rm.cells rm.slots (va_A (va_pl L f) sz)
theorem mPre_blind {G : xG} {L : List Nat} {f : xF} {sz : Nat} {av : List Value} : FrameBlind (va_Pc av (mPre G L f sz)) := fun a U g mk q => by
  obtain ⟨q0, q1, qP, qK, qN, qD⟩ := q
  exact ⟨q0, q1, qP, va_K.moved (u := U) (U := U.calling g mk a) (Vm.Alike.refl U.vm) qK, zN_same (s := U) (U := U.calling g mk a) rfl qN, qD⟩
theorem mI_of {l : Launch} {G : xG} {y : MethodName} {cc : ByteArray} {nL : Nat} {rt : FieldType} {rm : Room} {av : List Value} {f : xF} {post : Int → xF → Prop} (hy : plainName y.cls = true) (hlen : (lg_sl av).length ≤ nL) (body : ∀ X : xT, xOk G X cc y nL rm → (∀ (pc : Nat) (lv : List (Nat × Value)) (z : Int) (f' : xF), decode cc pc = .ok (.ireturn, 1) → ir z → post z f' → narrow rt (.int (iv z)) = .int (iv z) → vV G X rm.cells rm.slots pc lv [.int (iv z)] f') → vV G X 0 0 0 (lv_args 0 av) [] f) : mI l G y (.code y cc nL (some rt)) rm av f post := by
  intro L sz hw
  refine Met.ofW (cc := cc) (maxL := nL) (ret := some rt) hy rfl ?_
  intro p e s m args below meth c s₁ B hml hv
  obtain ⟨rfl, hsz, hP, hK, hN, hD0⟩ := hv
  have hts := atoms_spec (ws := .code y cc nL (some rt) :: zT) B.pre
  have hown : s.vm.findClass y.cls = some m.cls := findClass_of_methodNamed B.named
  subst hsz
  have hD := hD0.self (sz := s.heap.size)
  have hl := lv_entry av (n := nL) hlen
  have hlocks := B.notSynchronized
  rw [lg_entry_eq]
  refine body (p, l, e, rm, s, m, av.toArray, below, meth, c, va_A (va_pl L f) s.heap.size, s.heap, nL, MQ below (va_Qi (fun r f' => ∃ z, ir z ∧ r = iv z ∧ post z f') (mPost G (va_A (va_pl L f) s.heap.size)) (va_A (va_pl L f) s.heap.size)) av.toArray s rm.cells rm.slots (va_A (va_pl L f) s.heap.size)) ⟨B.exec, B.bytes, rfl, hml, hown, fun w hw => hts w (List.mem_cons_of_mem _ hw), hN, hK, fun q h => Or.inr h, rfl, (name_of_methodNamed B.named B.method).1⟩ ?_ L s.heap [] _ hw hP hD va_S.rf hl
  · intro pc lv z f' hd hz hp hn L' H locs ls h1 h2 h3 h4 h5
    exact W.zret (v := iv z) B.exec B.bytes B.returns hn (fun t ht hW => ⟨⟨iv z, f', rfl, ⟨z, hz, rfl, hp⟩, L', h1, by rw [ht]; exact h2, va_K.moved hW.alike hK, h3⟩, h4.F ht⟩) h4.2.2 hd
theorem mV_of {l : Launch} {G : xG} {y : MethodName} {cc : ByteArray} {nL : Nat} {rm : Room} {av : List Value} {f : xF} {post : xF → Prop} (hy : plainName y.cls = true) (hlen : (lg_sl av).length ≤ nL) (body : ∀ X : xT, xOk G X cc y nL rm → (∀ (pc : Nat) (lv : List (Nat × Value)) (f' : xF), decode cc pc = .ok (.return_, 1) → post f' → vV G X rm.cells rm.slots pc lv [] f') → vV G X 0 0 0 (lv_args 0 av) [] f) : mV l G y (.code y cc nL (none)) rm av f post := by
  intro L sz hw
  refine Met.ofW (cc := cc) (maxL := nL) (ret := none) hy rfl ?_
  intro p e s m args below meth c s₁ B hml hv
  obtain ⟨rfl, hsz, hP, hK, hN, hD0⟩ := hv
  have hts := atoms_spec (ws := .code y cc nL (none) :: zT) B.pre
  have hown : s.vm.findClass y.cls = some m.cls := findClass_of_methodNamed B.named
  subst hsz
  have hD := hD0.self (sz := s.heap.size)
  have hl := lv_entry av (n := nL) hlen
  have hlocks := B.notSynchronized
  rw [lg_entry_eq]
  refine body (p, l, e, rm, s, m, av.toArray, below, meth, c, va_A (va_pl L f) s.heap.size, s.heap, nL, MQ below (va_Qv post (mPost G (va_A (va_pl L f) s.heap.size)) (va_A (va_pl L f) s.heap.size)) av.toArray s rm.cells rm.slots (va_A (va_pl L f) s.heap.size)) ⟨B.exec, B.bytes, rfl, hml, hown, fun w hw => hts w (List.mem_cons_of_mem _ hw), hN, hK, fun q h => Or.inr h, rfl, (name_of_methodNamed B.named B.method).1⟩ ?_ L s.heap [] _ hw hP hD va_S.rf hl
  · intro pc lv f' hd hp L' H locs ls h1 h2 h3 h4 h5
    exact W.vret B.exec B.bytes B.returns (fun t ht hW => ⟨⟨f', rfl, hp, L', h1, by rw [ht]; exact h2, va_K.moved hW.alike hK, h3⟩, h4.F ht⟩) h4.2.2 hd
theorem mR_of {l : Launch} {G : xG} {y : MethodName} {cc : ByteArray} {nL : Nat} {rt : FieldType} (hrt : (∃ n, rt = .object n) ∨ ∃ t, rt = .array t) {rm : Room} {av : List Value} {f : xF} {post : Option Nat → xF → Prop} (hy : plainName y.cls = true) (hlen : (lg_sl av).length ≤ nL) (body : ∀ X : xT, xOk G X cc y nL rm → (∀ (pc : Nat) (lv : List (Nat × Value)) (r : Option Nat) (f' : xF), decode cc pc = .ok (.areturn, 1) → post r f' → vV G X rm.cells rm.slots pc lv [va_rf r] f') → vV G X 0 0 0 (lv_args 0 av) [] f) : mR l G y (.code y cc nL (some rt)) rm av f post := by
  intro L sz hw
  refine Met.ofW (cc := cc) (maxL := nL) (ret := some rt) hy rfl ?_
  intro p e s m args below meth c s₁ B hml hv
  obtain ⟨rfl, hsz, hP, hK, hN, hD0⟩ := hv
  have hts := atoms_spec (ws := .code y cc nL (some rt) :: zT) B.pre
  have hown : s.vm.findClass y.cls = some m.cls := findClass_of_methodNamed B.named
  subst hsz
  have hD := hD0.self (sz := s.heap.size)
  have hl := lv_entry av (n := nL) hlen
  have hlocks := B.notSynchronized
  rw [lg_entry_eq]
  refine body (p, l, e, rm, s, m, av.toArray, below, meth, c, va_A (va_pl L f) s.heap.size, s.heap, nL, MQ below (va_Qq post (mPost G (va_A (va_pl L f) s.heap.size)) (va_A (va_pl L f) s.heap.size)) av.toArray s rm.cells rm.slots (va_A (va_pl L f) s.heap.size)) ⟨B.exec, B.bytes, rfl, hml, hown, fun w hw => hts w (List.mem_cons_of_mem _ hw), hN, hK, fun q h => Or.inr h, rfl, (name_of_methodNamed B.named B.method).1⟩ ?_ L s.heap [] _ hw hP hD va_S.rf hl
  · intro pc lv r f' hd hp L' H locs ls h1 h2 h3 h4 h5
    exact W.aret (v := va_rf r) B.exec B.bytes B.returns hrt (va_rf_or r) (fun t ht hW => ⟨⟨r, f', rfl, hp, L', h1, by rw [ht]; exact h2, va_K.moved hW.alike hK, h3⟩, h4.F ht⟩) h4.2.2 hd
section VC
variable {G : xG} {X : xT} {cc : ByteArray} {y : MethodName} {nL : Nat} {rm : Room} {kc ks pc : Nat} {lv lv' : List (Nat × Value)} {st : List Value} {f : xF}
theorem v_callVI (h : xOk G X cc y nL rm) {y2 : MethodName} {bytes : ByteArray} {maxL idx n : Nat} {rt : FieldType} {rmc : Room} {b : Nat} {As : List Value} {post : Int → xF → Prop} {ci : Nat} {fs : List Value} (he : f b = eO ci fs) (hM : ∀ l, mI l G y2 (.code y2 bytes maxL (some rt)) rmc (.ref b :: As) f post) (hC : CalV y.cls idx y2 (.code y2 bytes maxL (some rt)) n ci) (hdg : decode cc pc = .ok (.invokevirtual idx, 3)) (hn : As.length = n) (hroom : rmc.frames + 1 ≤ rm.frames ∧ 8 + (maxL + 11) + rmc.locals ≤ rm.locals) (hcap : kc + rmc.cells ≤ rm.cells ∧ ks + rmc.slots ≤ rm.slots) (hst : (st.map fun v => v.category).sum ≤ 8) (kk : ∀ (z : Int) (f' : xF), ir z → post z f' → vV G X (kc + rmc.cells) (ks + rmc.slots) (pc + 3) lv (.int (iv z) :: st) f') : vV G X kc ks pc lv (As.reverse ++ .ref b :: st) f := by
  obtain ⟨p, l, e, R, s, m, args, below, meth, c, A, H0, n0, Q⟩ := X
  obtain ⟨hx, hb, rfl, hml, hown, hts, hN, hK, hA, rfl, hnm⟩ := h
  obtain ⟨c1, c2, c3, c4, c5, c6, c7, T, N, c8⟩ := hC
  intro L H locs ls h1 h2 h3 h4 h5
  have hm : b ∈ L := h1.mem (by rw [he]; exact eO_ne c7)
  obtain ⟨q0, hq0⟩ := pl_get (f := f) hm
  rw [he] at hq0
  have hF : ∀ q, va_A (va_pl L f) H.size q → A q := fun q hq => by
    rcases hq with ⟨k9, e9, h9⟩ | h9
    · exact h3.2 k9 (q, e9) h9
    · exact hA q (Nat.le_trans h4.1 h9)
  have hM0 := hM l L H.size h1
  have hp : PreV s H y2.cls b (va_Pc (.ref b :: As) (mPre G L f H.size)) As := ⟨mPre_blind, va_recv hK h2 (q0 := q0) c8 hq0, fun U hU hW => ⟨rfl, by rw [hU], by rw [hU]; exact h2, va_K.moved hW.alike hK, zN_warm hW hN, h3.weaken (fun _ _ _ _ => trivial)⟩⟩
  rcases c2 with c2 | ⟨host, c2⟩
  · refine va_calli (va_runV (As := As) (rest := st) (C := y2.cls) (b := b) ⟨hx, hb, hml, hown, hts⟩ hM0 ⟨callB_of n hts (lw_goodIn c1) rfl rfl rfl (hts _ c5) (hts _ c2) c6 hroom, hts _ c3, hts _ c4⟩ hp rfl hn h5.1 rfl (lv_room hst) hdg hcap) h4 (fun q _ h9 => hF q h9) hF (fun r f' t H1 locs1 ht hvm hw hB hz1 hk1 hS1 => by
    obtain ⟨z, hz, rfl, hp⟩ := hw
    obtain ⟨L', w1, w2, w3, w4⟩ := hB
    exact kk z f' hz hp L' H1 locs1 ls w1 (by rw [← ht]; exact w2) (w4.weaken (fun _ q _ h => hF q.1 h)) hS1 h5)
  · refine va_calli (va_runVN (As := As) (rest := st) (C := y2.cls) (b := b) ⟨hx, hb, hml, hown, hts⟩ hM0 ⟨va_cnB n hts (lw_goodIn c1) rfl rfl rfl (hN _ c2) (hts _ c5) c6 hroom, hts _ c3, hts _ c4⟩ hp rfl hn h5.1 rfl (lv_room hst) hdg hcap) h4 (fun q _ h9 => hF q h9) hF (fun r f' t H1 locs1 ht hvm hw hB hz1 hk1 hS1 => by
    obtain ⟨z, hz, rfl, hp⟩ := hw
    obtain ⟨L', w1, w2, w3, w4⟩ := hB
    exact kk z f' hz hp L' H1 locs1 ls w1 (by rw [← ht]; exact w2) (w4.weaken (fun _ q _ h => hF q.1 h)) hS1 h5)
theorem v_callVV (h : xOk G X cc y nL rm) {y2 : MethodName} {bytes : ByteArray} {maxL idx n : Nat} {rmc : Room} {b : Nat} {As : List Value} {post : xF → Prop} {ci : Nat} {fs : List Value} (he : f b = eO ci fs) (hM : ∀ l, mV l G y2 (.code y2 bytes maxL (none)) rmc (.ref b :: As) f post) (hC : CalV y.cls idx y2 (.code y2 bytes maxL (none)) n ci) (hdg : decode cc pc = .ok (.invokevirtual idx, 3)) (hn : As.length = n) (hroom : rmc.frames + 1 ≤ rm.frames ∧ 8 + (maxL + 11) + rmc.locals ≤ rm.locals) (hcap : kc + rmc.cells ≤ rm.cells ∧ ks + rmc.slots ≤ rm.slots) (hst : (st.map fun v => v.category).sum ≤ 8) (kk : ∀ (f' : xF), post f' → vV G X (kc + rmc.cells) (ks + rmc.slots) (pc + 3) lv st f') : vV G X kc ks pc lv (As.reverse ++ .ref b :: st) f := by
  obtain ⟨p, l, e, R, s, m, args, below, meth, c, A, H0, n0, Q⟩ := X
  obtain ⟨hx, hb, rfl, hml, hown, hts, hN, hK, hA, rfl, hnm⟩ := h
  obtain ⟨c1, c2, c3, c4, c5, c6, c7, T, N, c8⟩ := hC
  intro L H locs ls h1 h2 h3 h4 h5
  have hm : b ∈ L := h1.mem (by rw [he]; exact eO_ne c7)
  obtain ⟨q0, hq0⟩ := pl_get (f := f) hm
  rw [he] at hq0
  have hF : ∀ q, va_A (va_pl L f) H.size q → A q := fun q hq => by
    rcases hq with ⟨k9, e9, h9⟩ | h9
    · exact h3.2 k9 (q, e9) h9
    · exact hA q (Nat.le_trans h4.1 h9)
  have hM0 := hM l L H.size h1
  have hp : PreV s H y2.cls b (va_Pc (.ref b :: As) (mPre G L f H.size)) As := ⟨mPre_blind, va_recv hK h2 (q0 := q0) c8 hq0, fun U hU hW => ⟨rfl, by rw [hU], by rw [hU]; exact h2, va_K.moved hW.alike hK, zN_warm hW hN, h3.weaken (fun _ _ _ _ => trivial)⟩⟩
  rcases c2 with c2 | ⟨host, c2⟩
  · refine va_callv (va_runV (As := As) (rest := st) (C := y2.cls) (b := b) ⟨hx, hb, hml, hown, hts⟩ hM0 ⟨callB_of n hts (lw_goodIn c1) rfl rfl rfl (hts _ c5) (hts _ c2) c6 hroom, hts _ c3, hts _ c4⟩ hp rfl hn h5.1 rfl (lv_room hst) hdg hcap) h4 (fun q _ h9 => hF q h9) hF (fun f' t H1 locs1 ht hvm hw hB hz1 hk1 hS1 => by
    obtain ⟨L', w1, w2, w3, w4⟩ := hB
    exact kk f' hw L' H1 locs1 ls w1 (by rw [← ht]; exact w2) (w4.weaken (fun _ q _ h => hF q.1 h)) hS1 h5)
  · refine va_callv (va_runVN (As := As) (rest := st) (C := y2.cls) (b := b) ⟨hx, hb, hml, hown, hts⟩ hM0 ⟨va_cnB n hts (lw_goodIn c1) rfl rfl rfl (hN _ c2) (hts _ c5) c6 hroom, hts _ c3, hts _ c4⟩ hp rfl hn h5.1 rfl (lv_room hst) hdg hcap) h4 (fun q _ h9 => hF q h9) hF (fun f' t H1 locs1 ht hvm hw hB hz1 hk1 hS1 => by
    obtain ⟨L', w1, w2, w3, w4⟩ := hB
    exact kk f' hw L' H1 locs1 ls w1 (by rw [← ht]; exact w2) (w4.weaken (fun _ q _ h => hF q.1 h)) hS1 h5)
theorem v_callVR (h : xOk G X cc y nL rm) {y2 : MethodName} {bytes : ByteArray} {maxL idx n : Nat} {rt : FieldType} {rmc : Room} {b : Nat} {As : List Value} {post : Option Nat → xF → Prop} {ci : Nat} {fs : List Value} (he : f b = eO ci fs) (hM : ∀ l, mR l G y2 (.code y2 bytes maxL (some rt)) rmc (.ref b :: As) f post) (hC : CalV y.cls idx y2 (.code y2 bytes maxL (some rt)) n ci) (hdg : decode cc pc = .ok (.invokevirtual idx, 3)) (hn : As.length = n) (hroom : rmc.frames + 1 ≤ rm.frames ∧ 8 + (maxL + 11) + rmc.locals ≤ rm.locals) (hcap : kc + rmc.cells ≤ rm.cells ∧ ks + rmc.slots ≤ rm.slots) (hst : (st.map fun v => v.category).sum ≤ 8) (kk : ∀ (r : Option Nat) (f' : xF), post r f' → vV G X (kc + rmc.cells) (ks + rmc.slots) (pc + 3) lv (va_rf r :: st) f') : vV G X kc ks pc lv (As.reverse ++ .ref b :: st) f := by
  obtain ⟨p, l, e, R, s, m, args, below, meth, c, A, H0, n0, Q⟩ := X
  obtain ⟨hx, hb, rfl, hml, hown, hts, hN, hK, hA, rfl, hnm⟩ := h
  obtain ⟨c1, c2, c3, c4, c5, c6, c7, T, N, c8⟩ := hC
  intro L H locs ls h1 h2 h3 h4 h5
  have hm : b ∈ L := h1.mem (by rw [he]; exact eO_ne c7)
  obtain ⟨q0, hq0⟩ := pl_get (f := f) hm
  rw [he] at hq0
  have hF : ∀ q, va_A (va_pl L f) H.size q → A q := fun q hq => by
    rcases hq with ⟨k9, e9, h9⟩ | h9
    · exact h3.2 k9 (q, e9) h9
    · exact hA q (Nat.le_trans h4.1 h9)
  have hM0 := hM l L H.size h1
  have hp : PreV s H y2.cls b (va_Pc (.ref b :: As) (mPre G L f H.size)) As := ⟨mPre_blind, va_recv hK h2 (q0 := q0) c8 hq0, fun U hU hW => ⟨rfl, by rw [hU], by rw [hU]; exact h2, va_K.moved hW.alike hK, zN_warm hW hN, h3.weaken (fun _ _ _ _ => trivial)⟩⟩
  rcases c2 with c2 | ⟨host, c2⟩
  · refine va_callq (va_runV (As := As) (rest := st) (C := y2.cls) (b := b) ⟨hx, hb, hml, hown, hts⟩ hM0 ⟨callB_of n hts (lw_goodIn c1) rfl rfl rfl (hts _ c5) (hts _ c2) c6 hroom, hts _ c3, hts _ c4⟩ hp rfl hn h5.1 rfl (lv_room hst) hdg hcap) h4 (fun q _ h9 => hF q h9) hF (fun r f' t H1 locs1 ht hvm hw hB hz1 hk1 hS1 => by
    obtain ⟨L', w1, w2, w3, w4⟩ := hB
    exact kk r f' hw L' H1 locs1 ls w1 (by rw [← ht]; exact w2) (w4.weaken (fun _ q _ h => hF q.1 h)) hS1 h5)
  · refine va_callq (va_runVN (As := As) (rest := st) (C := y2.cls) (b := b) ⟨hx, hb, hml, hown, hts⟩ hM0 ⟨va_cnB n hts (lw_goodIn c1) rfl rfl rfl (hN _ c2) (hts _ c5) c6 hroom, hts _ c3, hts _ c4⟩ hp rfl hn h5.1 rfl (lv_room hst) hdg hcap) h4 (fun q _ h9 => hF q h9) hF (fun r f' t H1 locs1 ht hvm hw hB hz1 hk1 hS1 => by
    obtain ⟨L', w1, w2, w3, w4⟩ := hB
    exact kk r f' hw L' H1 locs1 ls w1 (by rw [← ht]; exact w2) (w4.weaken (fun _ q _ h => hF q.1 h)) hS1 h5)
theorem v_callSI (h : xOk G X cc y nL rm) {y2 : MethodName} {bytes : ByteArray} {maxL idx n : Nat} {rt : FieldType} {rmc : Room} {As : List Value} {post : Int → xF → Prop} (hM : ∀ l, mI l G y2 (.code y2 bytes maxL (some rt)) rmc As f post) (hC : CalS y.cls idx y2 (.code y2 bytes maxL (some rt)) n) (hdg : decode cc pc = .ok (.invokestatic idx, 3)) (hn : As.length = n) (hroom : rmc.frames + 1 ≤ rm.frames ∧ 8 + (maxL + 11) + rmc.locals ≤ rm.locals) (hcap : kc + rmc.cells ≤ rm.cells ∧ ks + rmc.slots ≤ rm.slots) (hst : (st.map fun v => v.category).sum ≤ 8) (kk : ∀ (z : Int) (f' : xF), ir z → post z f' → vV G X (kc + rmc.cells) (ks + rmc.slots) (pc + 3) lv (.int (iv z) :: st) f') : vV G X kc ks pc lv (As.reverse ++ st) f := by
  obtain ⟨p, l, e, R, s, m, args, below, meth, c, A, H0, n0, Q⟩ := X
  obtain ⟨hx, hb, rfl, hml, hown, hts, hN, hK, hA, rfl, hnm⟩ := h
  obtain ⟨c1, c2, c3, c5, c6⟩ := hC
  intro L H locs ls h1 h2 h3 h4 h5
  have hF : ∀ q, va_A (va_pl L f) H.size q → A q := fun q hq => by
    rcases hq with ⟨k9, e9, h9⟩ | h9
    · exact h3.2 k9 (q, e9) h9
    · exact hA q (Nat.le_trans h4.1 h9)
  have hM0 := hM l L H.size h1
  have hp : PreS s H (va_Pc As (mPre G L f H.size)) As := ⟨mPre_blind, fun U hU hW => ⟨rfl, by rw [hU], by rw [hU]; exact h2, va_K.moved hW.alike hK, zN_warm hW hN, h3.weaken (fun _ _ _ _ => trivial)⟩⟩
  rcases c2 with c2 | ⟨host, c2⟩
  · refine va_calli (va_runS (As := As) (rest := st) ⟨hx, hb, hml, hown, hts⟩ hM0 ⟨callB_of n hts (lw_goodIn c1) rfl rfl rfl (hts _ c5) (hts _ c2) c6 hroom, hts _ c3⟩ hp rfl hn h5.1 rfl (lv_room hst) hdg hcap) h4 (fun q _ h9 => hF q h9) hF (fun r f' t H1 locs1 ht hvm hw hB hz1 hk1 hS1 => by
    obtain ⟨z, hz, rfl, hp⟩ := hw
    obtain ⟨L', w1, w2, w3, w4⟩ := hB
    exact kk z f' hz hp L' H1 locs1 ls w1 (by rw [← ht]; exact w2) (w4.weaken (fun _ q _ h => hF q.1 h)) hS1 h5)
  · refine va_calli (va_runSN (As := As) (rest := st) ⟨hx, hb, hml, hown, hts⟩ hM0 ⟨va_cnB n hts (lw_goodIn c1) rfl rfl rfl (hN _ c2) (hts _ c5) c6 hroom, hts _ c3, trivial⟩ hp rfl hn h5.1 rfl (lv_room hst) hdg hcap) h4 (fun q _ h9 => hF q h9) hF (fun r f' t H1 locs1 ht hvm hw hB hz1 hk1 hS1 => by
    obtain ⟨z, hz, rfl, hp⟩ := hw
    obtain ⟨L', w1, w2, w3, w4⟩ := hB
    exact kk z f' hz hp L' H1 locs1 ls w1 (by rw [← ht]; exact w2) (w4.weaken (fun _ q _ h => hF q.1 h)) hS1 h5)
theorem v_callSV (h : xOk G X cc y nL rm) {y2 : MethodName} {bytes : ByteArray} {maxL idx n : Nat} {rmc : Room} {As : List Value} {post : xF → Prop} (hM : ∀ l, mV l G y2 (.code y2 bytes maxL (none)) rmc As f post) (hC : CalS y.cls idx y2 (.code y2 bytes maxL (none)) n) (hdg : decode cc pc = .ok (.invokestatic idx, 3)) (hn : As.length = n) (hroom : rmc.frames + 1 ≤ rm.frames ∧ 8 + (maxL + 11) + rmc.locals ≤ rm.locals) (hcap : kc + rmc.cells ≤ rm.cells ∧ ks + rmc.slots ≤ rm.slots) (hst : (st.map fun v => v.category).sum ≤ 8) (kk : ∀ (f' : xF), post f' → vV G X (kc + rmc.cells) (ks + rmc.slots) (pc + 3) lv st f') : vV G X kc ks pc lv (As.reverse ++ st) f := by
  obtain ⟨p, l, e, R, s, m, args, below, meth, c, A, H0, n0, Q⟩ := X
  obtain ⟨hx, hb, rfl, hml, hown, hts, hN, hK, hA, rfl, hnm⟩ := h
  obtain ⟨c1, c2, c3, c5, c6⟩ := hC
  intro L H locs ls h1 h2 h3 h4 h5
  have hF : ∀ q, va_A (va_pl L f) H.size q → A q := fun q hq => by
    rcases hq with ⟨k9, e9, h9⟩ | h9
    · exact h3.2 k9 (q, e9) h9
    · exact hA q (Nat.le_trans h4.1 h9)
  have hM0 := hM l L H.size h1
  have hp : PreS s H (va_Pc As (mPre G L f H.size)) As := ⟨mPre_blind, fun U hU hW => ⟨rfl, by rw [hU], by rw [hU]; exact h2, va_K.moved hW.alike hK, zN_warm hW hN, h3.weaken (fun _ _ _ _ => trivial)⟩⟩
  rcases c2 with c2 | ⟨host, c2⟩
  · refine va_callv (va_runS (As := As) (rest := st) ⟨hx, hb, hml, hown, hts⟩ hM0 ⟨callB_of n hts (lw_goodIn c1) rfl rfl rfl (hts _ c5) (hts _ c2) c6 hroom, hts _ c3⟩ hp rfl hn h5.1 rfl (lv_room hst) hdg hcap) h4 (fun q _ h9 => hF q h9) hF (fun f' t H1 locs1 ht hvm hw hB hz1 hk1 hS1 => by
    obtain ⟨L', w1, w2, w3, w4⟩ := hB
    exact kk f' hw L' H1 locs1 ls w1 (by rw [← ht]; exact w2) (w4.weaken (fun _ q _ h => hF q.1 h)) hS1 h5)
  · refine va_callv (va_runSN (As := As) (rest := st) ⟨hx, hb, hml, hown, hts⟩ hM0 ⟨va_cnB n hts (lw_goodIn c1) rfl rfl rfl (hN _ c2) (hts _ c5) c6 hroom, hts _ c3, trivial⟩ hp rfl hn h5.1 rfl (lv_room hst) hdg hcap) h4 (fun q _ h9 => hF q h9) hF (fun f' t H1 locs1 ht hvm hw hB hz1 hk1 hS1 => by
    obtain ⟨L', w1, w2, w3, w4⟩ := hB
    exact kk f' hw L' H1 locs1 ls w1 (by rw [← ht]; exact w2) (w4.weaken (fun _ q _ h => hF q.1 h)) hS1 h5)
theorem v_callSR (h : xOk G X cc y nL rm) {y2 : MethodName} {bytes : ByteArray} {maxL idx n : Nat} {rt : FieldType} {rmc : Room} {As : List Value} {post : Option Nat → xF → Prop} (hM : ∀ l, mR l G y2 (.code y2 bytes maxL (some rt)) rmc As f post) (hC : CalS y.cls idx y2 (.code y2 bytes maxL (some rt)) n) (hdg : decode cc pc = .ok (.invokestatic idx, 3)) (hn : As.length = n) (hroom : rmc.frames + 1 ≤ rm.frames ∧ 8 + (maxL + 11) + rmc.locals ≤ rm.locals) (hcap : kc + rmc.cells ≤ rm.cells ∧ ks + rmc.slots ≤ rm.slots) (hst : (st.map fun v => v.category).sum ≤ 8) (kk : ∀ (r : Option Nat) (f' : xF), post r f' → vV G X (kc + rmc.cells) (ks + rmc.slots) (pc + 3) lv (va_rf r :: st) f') : vV G X kc ks pc lv (As.reverse ++ st) f := by
  obtain ⟨p, l, e, R, s, m, args, below, meth, c, A, H0, n0, Q⟩ := X
  obtain ⟨hx, hb, rfl, hml, hown, hts, hN, hK, hA, rfl, hnm⟩ := h
  obtain ⟨c1, c2, c3, c5, c6⟩ := hC
  intro L H locs ls h1 h2 h3 h4 h5
  have hF : ∀ q, va_A (va_pl L f) H.size q → A q := fun q hq => by
    rcases hq with ⟨k9, e9, h9⟩ | h9
    · exact h3.2 k9 (q, e9) h9
    · exact hA q (Nat.le_trans h4.1 h9)
  have hM0 := hM l L H.size h1
  have hp : PreS s H (va_Pc As (mPre G L f H.size)) As := ⟨mPre_blind, fun U hU hW => ⟨rfl, by rw [hU], by rw [hU]; exact h2, va_K.moved hW.alike hK, zN_warm hW hN, h3.weaken (fun _ _ _ _ => trivial)⟩⟩
  rcases c2 with c2 | ⟨host, c2⟩
  · refine va_callq (va_runS (As := As) (rest := st) ⟨hx, hb, hml, hown, hts⟩ hM0 ⟨callB_of n hts (lw_goodIn c1) rfl rfl rfl (hts _ c5) (hts _ c2) c6 hroom, hts _ c3⟩ hp rfl hn h5.1 rfl (lv_room hst) hdg hcap) h4 (fun q _ h9 => hF q h9) hF (fun r f' t H1 locs1 ht hvm hw hB hz1 hk1 hS1 => by
    obtain ⟨L', w1, w2, w3, w4⟩ := hB
    exact kk r f' hw L' H1 locs1 ls w1 (by rw [← ht]; exact w2) (w4.weaken (fun _ q _ h => hF q.1 h)) hS1 h5)
  · refine va_callq (va_runSN (As := As) (rest := st) ⟨hx, hb, hml, hown, hts⟩ hM0 ⟨va_cnB n hts (lw_goodIn c1) rfl rfl rfl (hN _ c2) (hts _ c5) c6 hroom, hts _ c3, trivial⟩ hp rfl hn h5.1 rfl (lv_room hst) hdg hcap) h4 (fun q _ h9 => hF q h9) hF (fun r f' t H1 locs1 ht hvm hw hB hz1 hk1 hS1 => by
    obtain ⟨L', w1, w2, w3, w4⟩ := hB
    exact kk r f' hw L' H1 locs1 ls w1 (by rw [← ht]; exact w2) (w4.weaken (fun _ q _ h => hF q.1 h)) hS1 h5)
theorem v_callN (h : xOk G X cc y nL rm) {y2 : MethodName} {bytes : ByteArray} {maxL idx n : Nat} {rmc : Room} {b : Nat} {As : List Value} {post : xF → Prop} (hM : ∀ l, mV l G y2 (.code y2 bytes maxL (none)) rmc (.ref b :: As) f post) (hC : CalI y.cls idx y2 (.code y2 bytes maxL (none)) n) (hdg : decode cc pc = .ok (.invokespecial idx, 3)) (hn : As.length = n) (hroom : rmc.frames + 1 ≤ rm.frames ∧ 8 + (maxL + 11) + rmc.locals ≤ rm.locals) (hcap : kc + rmc.cells ≤ rm.cells ∧ ks + rmc.slots ≤ rm.slots) (hst : (st.map fun v => v.category).sum ≤ 8) (kk : ∀ (f' : xF), post f' → vV G X (kc + rmc.cells) (ks + rmc.slots) (pc + 3) lv st f') : vV G X kc ks pc lv (As.reverse ++ .ref b :: st) f := by
  obtain ⟨p, l, e, R, s, m, args, below, meth, c, A, H0, n0, Q⟩ := X
  obtain ⟨hx, hb, rfl, hml, hown, hts, hN, hK, hA, rfl, hnm⟩ := h
  obtain ⟨c1, c2, c3, c4, c5, c6⟩ := hC
  intro L H locs ls h1 h2 h3 h4 h5
  have hF : ∀ q, va_A (va_pl L f) H.size q → A q := fun q hq => by
    rcases hq with ⟨k9, e9, h9⟩ | h9
    · exact h3.2 k9 (q, e9) h9
    · exact hA q (Nat.le_trans h4.1 h9)
  have hM0 := hM l L H.size h1
  have hp : PreS s H (va_Pc (.ref b :: As) (mPre G L f H.size)) (.ref b :: As) := ⟨mPre_blind, fun U hU hW => ⟨rfl, by rw [hU], by rw [hU]; exact h2, va_K.moved hW.alike hK, zN_warm hW hN, h3.weaken (fun _ _ _ _ => trivial)⟩⟩
  rcases c2 with c2 | ⟨host, c2⟩
  · refine va_callv (va_runI (As := As) (rest := st) (b := b) ⟨hx, hb, hml, hown, hts⟩ hM0 ⟨callB_of n hts (lw_goodIn c1) rfl rfl rfl (hts _ c5) (hts _ c2) c6 hroom, c4, hts _ c3⟩ hp rfl hn h5.1 rfl (lv_room hst) hdg hcap) h4 (fun q _ h9 => hF q h9) hF (fun f' t H1 locs1 ht hvm hw hB hz1 hk1 hS1 => by
    obtain ⟨L', w1, w2, w3, w4⟩ := hB
    exact kk f' hw L' H1 locs1 ls w1 (by rw [← ht]; exact w2) (w4.weaken (fun _ q _ h => hF q.1 h)) hS1 h5)
  · refine va_callv (va_runIN (As := As) (rest := st) (b := b) ⟨hx, hb, hml, hown, hts⟩ hM0 ⟨va_cnB n hts (lw_goodIn c1) rfl rfl rfl (hN _ c2) (hts _ c5) c6 hroom, c4, hts _ c3⟩ hp rfl hn h5.1 rfl (lv_room hst) hdg hcap) h4 (fun q _ h9 => hF q h9) hF (fun f' t H1 locs1 ht hvm hw hB hz1 hk1 hS1 => by
    obtain ⟨L', w1, w2, w3, w4⟩ := hB
    exact kk f' hw L' H1 locs1 ls w1 (by rw [← ht]; exact w2) (w4.weaken (fun _ q _ h => hF q.1 h)) hS1 h5)
theorem v_new (h : xOk G X cc y nL rm) {idx ci N : Nat} {fs : List Value} (hNw : NewA y.cls idx ci N fs) (hdg : decode cc pc = .ok (.new idx, 3)) (hcap : kc + 1 ≤ rm.cells ∧ ks + N ≤ rm.slots) (kk : ∀ q, f q = fNo → vV G X (kc + 1) (ks + N) (pc + 3) lv (.ref q :: st) (va_up f q (eO ci fs))) : vV G X kc ks pc lv st f := by
  obtain ⟨p, l, e, R, s, m, args, below, meth, c, A, H0, n0, Q⟩ := X
  obtain ⟨hx, hb, rfl, hml, hown, hts, hN, hK, hA, rfl, hnm⟩ := h
  obtain ⟨C, T, ty0, c1, c2, c3, c4, c5, c6, c7, c8⟩ := hNw
  intro L H locs ls h1 h2 h3 h4 h5
  refine va_new (D := G.1) (ci := ci) (fs := fs) (C := C) (T := T) (N := N) hx hb hts c3 ty0 c4 hown (hts _ c6) (hts _ c7) (hts _ c8) hK h2 h3 h4 hA c1 c5 hcap.1 hcap.2 hdg (fun q H1 a1 a2 a3 => ?_)
  have hq : q ∉ L := fun hm => by
    obtain ⟨i, hi⟩ := pl_get (f := f) hm
    have hi2 : i < (va_pl L f).length := (List.getElem?_eq_some_iff.mp hi).1
    have e1 : (va_pl L f ++ [(q, (.inr (ci, fs) : va_E))])[i]? = some (q, f q) := by rw [List.getElem?_append_left hi2]; exact hi
    have e2 : (va_pl L f ++ [(q, (.inr (ci, fs) : va_E))])[(va_pl L f).length]? = some (q, .inr (ci, fs)) := by simp
    have := a2.1 _ _ _ _ e1 e2 rfl
    omega
  rw [va_pl_push hq] at a1 a2
  exact kk q (h1 q hq) (L ++ [q]) H1 locs ls (h1.push q _) a1 a2 a3 h5
end VC

/-! THE OVERLAY: the pool's cells that have a number: ad i is the address of number i (i < M); σ says what lies there; f0 the rest -/
def adOk (ad : Nat → Nat) (M : Nat) : Prop := ∀ i j, i < M → j < M → ad i = ad j → i = j
noncomputable def ov (f0 : xF) (ad : Nat → Nat) (M : Nat) (σ : xF) : xF := fun q => if h : ∃ i, i < M ∧ ad i = q then σ (Classical.choose h) else f0 q
theorem ov_at {f0 : xF} {ad : Nat → Nat} {M : Nat} {σ : xF} (hj : adOk ad M) {i : Nat} (hi : i < M) : ov f0 ad M σ (ad i) = σ i := by
  have h : ∃ j, j < M ∧ ad j = ad i := ⟨i, hi, rfl⟩
  have hc := Classical.choose_spec h
  unfold ov
  rw [dif_pos h, hj _ _ hc.1 hi hc.2]
theorem ov_out {f0 : xF} {ad : Nat → Nat} {M : Nat} {σ : xF} {q : Nat} (h : ¬ ∃ i, i < M ∧ ad i = q) : ov f0 ad M σ q = f0 q := by
  unfold ov
  rw [dif_neg h]
theorem ov_up {f0 : xF} {ad : Nat → Nat} {M : Nat} {σ : xF} (hj : adOk ad M) {i : Nat} (hi : i < M) (e : va_E) : va_up (ov f0 ad M σ) (ad i) e = ov f0 ad M (va_up σ i e) := by
  funext q
  by_cases hq : ∃ j, j < M ∧ ad j = q
  · obtain ⟨j, hjM, rfl⟩ := hq
    rw [ov_at hj hjM]
    by_cases hji : j = i
    · subst hji
      rw [va_up_self, va_up_self]
    · rw [va_up_ne _ _ (fun h => hji (hj _ _ hjM hi h)), va_up_ne _ _ hji, ov_at hj hjM]
  · have hq1 : q ≠ ad i := fun h => hq ⟨i, hi, h.symm⟩
    rw [va_up_ne _ _ hq1, ov_out hq, ov_out hq]
def gI (l : Launch) (G : xG) (f0 : xF) (ad : Nat → Nat) (M : Nat) (y : MethodName) (cw : Cond) (rm : Room) (av : List Value) (σ : xF) (post : Int → xF → Prop) : Prop := mI l G y cw rm av (ov f0 ad M σ) (fun z f' => ∃ σ', f' = ov f0 ad M σ' ∧ post z σ')
def gVo (l : Launch) (G : xG) (f0 : xF) (ad : Nat → Nat) (M : Nat) (y : MethodName) (cw : Cond) (rm : Room) (av : List Value) (σ : xF) (post : xF → Prop) : Prop := mV l G y cw rm av (ov f0 ad M σ) (fun f' => ∃ σ', f' = ov f0 ad M σ' ∧ post σ')
def gR (l : Launch) (G : xG) (f0 : xF) (ad : Nat → Nat) (M : Nat) (y : MethodName) (cw : Cond) (rm : Room) (av : List Value) (σ : xF) (post : Option Nat → xF → Prop) : Prop := mR l G y cw rm av (ov f0 ad M σ) (fun r f' => ∃ σ', f' = ov f0 ad M σ' ∧ post r σ')
section GV
variable {G : xG} {X : xT} {cc : ByteArray} {y : MethodName} {nL : Nat} {rm : Room} {kc ks pc : Nat} {lv lv' : List (Nat × Value)} {st : List Value} {f0 : xF} {ad : Nat → Nat} {M : Nat} {σ : xF}
theorem g_get (h : xOk G X cc y nL rm) (hj : adOk ad M) {idx ci kf i : Nat} {fs : List Value} {v : Value} (hF : FldA y.cls idx ci kf) (hdg : decode cc pc = .ok (.getfield idx, 3)) (hi : i < M) (he : σ i = eO ci fs) (hv : fs[kf]? = some v) (k : vV G X kc ks (pc + 3) lv (v :: st) (ov f0 ad M σ)) : vV G X kc ks pc lv (.ref (ad i) :: st) (ov f0 ad M σ) :=
  v_get h hF hdg ((ov_at hj hi).trans he) hv k
theorem g_put (h : xOk G X cc y nL rm) (hj : adOk ad M) {idx ci kf i : Nat} {ty : FieldType} {fs fs' : List Value} {v : Value} (hF : PutA y.cls idx ci kf ty) (hdg : decode cc pc = .ok (.putfield idx, 3)) (hi : i < M) (he : σ i = eO ci fs) (hn : narrow ty v = v) (hfit : fits ty v = true) (hl : kf < fs.length) (hs : fs.set kf v = fs') (k : vV G X kc ks (pc + 3) lv st (ov f0 ad M (va_up σ i (eO ci fs')))) : vV G X kc ks pc lv (v :: .ref (ad i) :: st) (ov f0 ad M σ) :=
  v_put h hF hdg ((ov_at hj hi).trans he) hn hfit hl hs (v_f (ov_up hj hi _) k)
theorem g_iald (h : xOk G X cc y nL rm) (hj : adOk ad M) {i n : Nat} {g : Nat → Int} {z : Int} (hdg : decode cc pc = .ok (.iaload, 1)) (hi : i < M) (he : σ i = eJ G n g) (hn : n < 2147483648) (q : Nat) (hz : z = q) (hq : q < n) (k : vV G X kc ks (pc + 1) lv (.int (iv (g q)) :: st) (ov f0 ad M σ)) : vV G X kc ks pc lv (.int (iv z) :: .ref (ad i) :: st) (ov f0 ad M σ) :=
  v_iald h hdg ((ov_at hj hi).trans he) hn q hz hq k
theorem g_iast (h : xOk G X cc y nL rm) (hj : adOk ad M) {i n : Nat} {g : Nat → Int} {z x : Int} (hdg : decode cc pc = .ok (.iastore, 1)) (hi : i < M) (he : σ i = eJ G n g) (hn : n < 2147483648) (q : Nat) (hz : z = q) (hq : q < n) (k : vV G X kc ks (pc + 1) lv st (ov f0 ad M (va_up σ i (eJ G n (va_up g q x))))) : vV G X kc ks pc lv (.int (iv x) :: .int (iv z) :: .ref (ad i) :: st) (ov f0 ad M σ) :=
  v_iast h hdg ((ov_at hj hi).trans he) hn q hz hq (v_f (ov_up hj hi _) k)
theorem g_alenJ (h : xOk G X cc y nL rm) (hj : adOk ad M) {i n : Nat} {g : Nat → Int} (hdg : decode cc pc = .ok (.arraylength, 1)) (hi : i < M) (he : σ i = eJ G n g) (k : vV G X kc ks (pc + 1) lv (.int (iv n) :: st) (ov f0 ad M σ)) : vV G X kc ks pc lv (.ref (ad i) :: st) (ov f0 ad M σ) :=
  v_alenJ h hdg ((ov_at hj hi).trans he) k
theorem g_aald (h : xOk G X cc y nL rm) (hj : adOk ad M) {i t n : Nat} {C : String} {g : Nat → Option Nat} {z : Int} (hdg : decode cc pc = .ok (.aaload, 1)) (hi : i < M) (he : σ i = eR G t n g) (ht : (xt G)[t]? = some (G.2 t, .object C)) (hn : n < 2147483648) (q : Nat) (hz : z = q) (hq : q < n) {r : Nat} (hr : g q = some r) (k : vV G X kc ks (pc + 1) lv (.ref r :: st) (ov f0 ad M σ)) : vV G X kc ks pc lv (.int (iv z) :: .ref (ad i) :: st) (ov f0 ad M σ) :=
  v_aald h hdg ((ov_at hj hi).trans he) ht hn q hz hq hr k
theorem g_aaldA (h : xOk G X cc y nL rm) (hj : adOk ad M) {i t n : Nat} {ty : FieldType} {g : Nat → Option Nat} {z : Int} (hdg : decode cc pc = .ok (.aaload, 1)) (hi : i < M) (he : σ i = eR G t n g) (ht : (xt G)[t]? = some (G.2 t, .array ty)) (hn : n < 2147483648) (q : Nat) (hz : z = q) (hq : q < n) {r : Nat} (hr : g q = some r) (k : vV G X kc ks (pc + 1) lv (.ref r :: st) (ov f0 ad M σ)) : vV G X kc ks pc lv (.int (iv z) :: .ref (ad i) :: st) (ov f0 ad M σ) :=
  v_aaldA h hdg ((ov_at hj hi).trans he) ht hn q hz hq hr k
theorem g_callVI (h : xOk G X cc y nL rm) (hj : adOk ad M) {y2 : MethodName} {bytes : ByteArray} {maxL idx n : Nat} {rt : FieldType} {rmc : Room} {i : Nat} {As : List Value} {post : Int → xF → Prop} {ci : Nat} {fs : List Value} (hi : i < M) (he : σ i = eO ci fs) (hM : ∀ l, gI l G f0 ad M y2 (.code y2 bytes maxL (some rt)) rmc (.ref (ad i) :: As) σ post) (hC : CalV y.cls idx y2 (.code y2 bytes maxL (some rt)) n ci) (hdg : decode cc pc = .ok (.invokevirtual idx, 3)) (hn : As.length = n) (hroom : rmc.frames + 1 ≤ rm.frames ∧ 8 + (maxL + 11) + rmc.locals ≤ rm.locals) (hcap : kc + rmc.cells ≤ rm.cells ∧ ks + rmc.slots ≤ rm.slots) (hst : (st.map fun v => v.category).sum ≤ 8) (kk : ∀ (z : Int) (σ' : xF), ir z → post z σ' → vV G X (kc + rmc.cells) (ks + rmc.slots) (pc + 3) lv (.int (iv z) :: st) (ov f0 ad M σ')) : vV G X kc ks pc lv (As.reverse ++ .ref (ad i) :: st) (ov f0 ad M σ) :=
  v_callVI h ((ov_at hj hi).trans he) hM hC hdg hn hroom hcap hst (fun z f' hz hp => by obtain ⟨σ', rfl, hp⟩ := hp; exact kk z σ' hz hp)
theorem g_callVV (h : xOk G X cc y nL rm) (hj : adOk ad M) {y2 : MethodName} {bytes : ByteArray} {maxL idx n : Nat} {rmc : Room} {i : Nat} {As : List Value} {post : xF → Prop} {ci : Nat} {fs : List Value} (hi : i < M) (he : σ i = eO ci fs) (hM : ∀ l, gVo l G f0 ad M y2 (.code y2 bytes maxL none) rmc (.ref (ad i) :: As) σ post) (hC : CalV y.cls idx y2 (.code y2 bytes maxL none) n ci) (hdg : decode cc pc = .ok (.invokevirtual idx, 3)) (hn : As.length = n) (hroom : rmc.frames + 1 ≤ rm.frames ∧ 8 + (maxL + 11) + rmc.locals ≤ rm.locals) (hcap : kc + rmc.cells ≤ rm.cells ∧ ks + rmc.slots ≤ rm.slots) (hst : (st.map fun v => v.category).sum ≤ 8) (kk : ∀ (σ' : xF), post σ' → vV G X (kc + rmc.cells) (ks + rmc.slots) (pc + 3) lv st (ov f0 ad M σ')) : vV G X kc ks pc lv (As.reverse ++ .ref (ad i) :: st) (ov f0 ad M σ) :=
  v_callVV h ((ov_at hj hi).trans he) hM hC hdg hn hroom hcap hst (fun f' hp => by obtain ⟨σ', rfl, hp⟩ := hp; exact kk σ' hp)
theorem g_callVR (h : xOk G X cc y nL rm) (hj : adOk ad M) {y2 : MethodName} {bytes : ByteArray} {maxL idx n : Nat} {rt : FieldType} {rmc : Room} {i : Nat} {As : List Value} {post : Option Nat → xF → Prop} {ci : Nat} {fs : List Value} (hi : i < M) (he : σ i = eO ci fs) (hM : ∀ l, gR l G f0 ad M y2 (.code y2 bytes maxL (some rt)) rmc (.ref (ad i) :: As) σ post) (hC : CalV y.cls idx y2 (.code y2 bytes maxL (some rt)) n ci) (hdg : decode cc pc = .ok (.invokevirtual idx, 3)) (hn : As.length = n) (hroom : rmc.frames + 1 ≤ rm.frames ∧ 8 + (maxL + 11) + rmc.locals ≤ rm.locals) (hcap : kc + rmc.cells ≤ rm.cells ∧ ks + rmc.slots ≤ rm.slots) (hst : (st.map fun v => v.category).sum ≤ 8) (kk : ∀ (r : Option Nat) (σ' : xF), post r σ' → vV G X (kc + rmc.cells) (ks + rmc.slots) (pc + 3) lv (va_rf r :: st) (ov f0 ad M σ')) : vV G X kc ks pc lv (As.reverse ++ .ref (ad i) :: st) (ov f0 ad M σ) :=
  v_callVR h ((ov_at hj hi).trans he) hM hC hdg hn hroom hcap hst (fun r f' hp => by obtain ⟨σ', rfl, hp⟩ := hp; exact kk r σ' hp)
theorem g_callSI (h : xOk G X cc y nL rm) {y2 : MethodName} {bytes : ByteArray} {maxL idx n : Nat} {rt : FieldType} {rmc : Room} {As : List Value} {post : Int → Prop} (hM : ∀ l f, mI l G y2 (.code y2 bytes maxL (some rt)) rmc As f (fun z f' => f' = f ∧ post z)) (hC : CalS y.cls idx y2 (.code y2 bytes maxL (some rt)) n) (hdg : decode cc pc = .ok (.invokestatic idx, 3)) (hn : As.length = n) (hroom : rmc.frames + 1 ≤ rm.frames ∧ 8 + (maxL + 11) + rmc.locals ≤ rm.locals) (hcap : kc + rmc.cells ≤ rm.cells ∧ ks + rmc.slots ≤ rm.slots) (hst : (st.map fun v => v.category).sum ≤ 8) {f : xF} (kk : ∀ z : Int, ir z → post z → vV G X (kc + rmc.cells) (ks + rmc.slots) (pc + 3) lv (.int (iv z) :: st) f) : vV G X kc ks pc lv (As.reverse ++ st) f :=
  v_callSI h (fun l => hM l f) hC hdg hn hroom hcap hst (fun z f' hz hp => by obtain ⟨rfl, hp⟩ := hp; exact kk z hz hp)
end GV

