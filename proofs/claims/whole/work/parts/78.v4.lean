/-! ===== BEGIN new T[n][m]: the outer array a place, the inner ones among the pooled ===== -/
/-- f, but v at every address of l -/
def vr_up {α : Type} (f : Nat → α) (l : List Nat) (v : α) : Nat → α := fun a => if a ∈ l then v else f a
theorem vr_up_in {α : Type} {f : Nat → α} {l : List Nat} {v : α} {a : Nat} (h : a ∈ l) : vr_up f l v a = v := if_pos h
theorem vr_up_ne {α : Type} {f : Nat → α} {l : List Nat} {v : α} {a : Nat} (h : a ∉ l) : vr_up f l v a = f a := if_neg h
theorem vr_rows {L l : List Nat} {f : Nat → va_E} {e : va_E} (h : ∀ a, a ∈ l → a ∉ L) : va_pl L f ++ l.map (fun a => (a, e)) = va_pl (L ++ l) (vr_up f l e) := by
  unfold va_pl
  rw [List.map_append]
  congr 1
  · apply List.map_congr_left
    intro a ha
    rw [vr_up_ne (fun q => h a q ha)]
  · apply List.map_congr_left
    intro a ha
    rw [vr_up_in ha]
theorem vr_lay {X rows : va_W} {x : Nat × va_E} {pl : va_W} {D : va_G} {cl : List vw_C} {H : Heap} (hP : va_P D cl (((X ++ pl) ++ [x]) ++ rows) H) : va_P D cl ((X ++ [x]) ++ (pl ++ rows)) H := by
  rw [List.append_assoc (X ++ pl)] at hP
  have h := va_P.swap hP
  rw [← List.append_assoc X] at h
  have h2 := va_P.swap h
  rw [List.append_assoc (X ++ [x])] at h2
  exact h2
theorem vr_layD {X rows : va_W} {x : Nat × va_E} {pl : va_W} {A : Nat → Prop} (hD : va_D A (((X ++ pl) ++ [x]) ++ rows)) : va_D A ((X ++ [x]) ++ (pl ++ rows)) := by
  rw [List.append_assoc (X ++ pl)] at hD
  have h := va_D.swap hD
  rw [← List.append_assoc X] at h
  have h2 := va_D.swap h
  rw [List.append_assoc (X ++ [x])] at h2
  exact h2
theorem vr_outer (c : ClassId) (N h0 : Nat) : ∀ i : Nat, Jvm.Free.Multi.outerC c N h0 i = arrV c N (fun j => va_rf (if j < i then some (h0 + 1 + j) else none))
  | 0 => by
    show ({ cls := c, slots := Array.replicate N .null, vm := .none } : Cell) = _
    rw [arrV_new]
    refine congrArg (arrV c N) (funext fun j => ?_)
    simp [va_rf]
  | i + 1 => by
    show (Jvm.Free.Multi.outerC c N h0 i).setSlot i (.ref (h0 + 1 + i)) = _
    rw [vr_outer c N h0 i, arrV_store]
    refine congrArg (arrV c N) (funext fun j => ?_)
    by_cases e : j = i
    · subst e
      simp [updV, va_rf]
    · by_cases h : j < i
      · simp [updV, e, h, Nat.lt_succ_of_lt h]
      · simp [updV, e, h, show ¬ j < i + 1 by omega]
section VGM
variable {p : Program} {l : Launch} {e : Env} {R : Room} {s : State} {m : MethodId} {args : Array Value} {below : List Frame} {meth : Method} {c : Code} {H : Heap} {locs : List Loc} {cells slots : Nat} {Q : State → Prop}
variable {cc : ByteArray} {pc : Nat} {ls : Array Slot} {rest : List Value} {D : va_G} {cl : List vw_C} {A : Nat → Prop} {a : Nat} {tys : List (ClassId × FieldType)} {ws : va_W} {H0 : Heap}
theorem va_mna {X : va_W} {L : List Nat} {f : Nat → va_E} {cc : ByteArray} (hexec : p.tables.exec = Jvm.exec) (hb : c.code = cc) {own : String} {index : Nat} {ty : FieldType} {cy : ClassId} (hown : s.vm.findClass own = some m.cls) (hclink : (Cond.classLink own index ("[" ++ (FieldType.array ty).toString)).before args s = true) (hover : va_Nw (.arrayOver (.array ty)) s) (harr : (Cond.arrayClass ty).before args s = true) (hcy : s.vm.findClass (FieldType.array ty).toString = some cy)
    (hK : va_K D cl tys s) (hP : va_P D cl (X ++ va_pl L f) H) (hD : va_D A (X ++ va_pl L f)) (hS : va_S A H0 H locs) (hA : ∀ q, H0.size ≤ q → A q) {n k : Int32} {N' K' : Nat} {z : vp_A} (hn : ¬ n < 0) (hk : ¬ k < 0) (hN : n.toNatClampNeg = N') (hM : k.toNatClampNeg = K')
    (hb1 : N' * 4 ≤ 536870912) (hb2 : K' * componentBytes ty ≤ 536870912) (hb3 : K' ≤ 536870912) (hdf : fits ty (defaultValue ty) = true) (hdd : (defaultValue ty).isDefault = true) (hcells : cells + (1 + N') ≤ R.cells) (hslots : slots + (N' + N' * K') ≤ R.slots) (hz : ∀ c : ClassId, Jvm.Free.Multi.innerC c K' (defaultValue ty) = vp_cell c z) (hdg : decode cc pc = .ok (.multianewarray index 2, 4))
    (kk : ∀ (q : Nat) (r : Nat → Nat) (cA : ClassId) (H1 : Heap), (∀ i j : Nat, i < N' → j < N' → r i = r j → i = j) → (∀ i : Nat, i < N' → r i ∉ L) → va_K D cl (tys ++ [(cA, .array ty)]) s →
      va_P D cl ((X ++ [(q, .inl (cA, N', .inr (.inr (.inr (.inr (fun i => if i < N' then some (r i) else none))))))]) ++ va_pl (L ++ (List.range N').map r) (vr_up f ((List.range N').map r) (.inl (cy, z)))) H1 → va_D A ((X ++ [(q, .inl (cA, N', .inr (.inr (.inr (.inr (fun i => if i < N' then some (r i) else none))))))]) ++ va_pl (L ++ (List.range N').map r) (vr_up f ((List.range N').map r) (.inl (cy, z)))) → va_S A H0 H1 locs →
      W p l e R s m args below meth c H1 locs (cells + 1 + N') (slots + N' + N' * K') Q (F0 m (pc + 4) ls (.ref q :: rest))) : W p l e R s m args below meth c H locs cells slots Q (F0 m pc ls (.int k :: .int n :: rest)) := by
  subst hN
  subst hM
  intro T hT Xs
  obtain ⟨vm₁, cA, comp, -, fA, fC, hO, -, X', step⟩ := Xs.multianewarray2F hexec hown hclink (show (Cond.arrayOver (.array ty)).before args s = true from hover) harr (g := F0 m pc ls (.int k :: .int n :: rest)) rfl (by rw [hb]; exact hdg) rfl hn hk hb1 hb2 hb3 hdf hdd hcells hslots
  have ec : some cy = some comp := hcy.symm.trans fC
  cases ec
  generalize hF : Jvm.Free.Multi.fill (T.setVm vm₁) cA cy n.toNatClampNeg k.toNatClampNeg (defaultValue ty) n.toNatClampNeg = F at X' step
  have hTh : (T.setVm vm₁).heap = H := hT
  obtain ⟨f1, f2, -, -⟩ := Jvm.Free.Multi.fill_facts (T.setVm vm₁) cA cy n.toNatClampNeg k.toNatClampNeg (defaultValue ty) n.toNatClampNeg
  rw [hF, hTh] at f1 f2
  have hold : ∀ x : Nat, x < H.size → F.heap[x]? = H[x]? := fun x hx => by
    have := Jvm.Free.Multi.fill_old (T.setVm vm₁) cA cy n.toNatClampNeg k.toNatClampNeg (defaultValue ty) (a := x) (by rw [hTh]; exact hx) n.toNatClampNeg
    rw [hF, hTh] at this
    exact this
  have hrow : ∀ j : Nat, j < n.toNatClampNeg → F.heap[H.size + 1 + j]? = some (vp_cell cy z) := fun j hj => by
    have := Jvm.Free.Multi.fill_inner (T.setVm vm₁) cA cy n.toNatClampNeg k.toNatClampNeg (defaultValue ty) n.toNatClampNeg j hj
    rw [hF, hTh, hz] at this
    exact this
  have hout : Jvm.Free.Multi.outerC cA n.toNatClampNeg H.size n.toNatClampNeg = vp_cell cA (n.toNatClampNeg, .inr (.inr (.inr (.inr (fun i => if i < n.toNatClampNeg then some (H.size + 1 + i) else none))))) := by
    rw [vp_cell_q]
    exact vr_outer cA n.toNatClampNeg H.size n.toNatClampNeg
  rw [hout] at f2
  have hlt : ∀ a, a ∈ L → a < H.size := fun a ha => by
    obtain ⟨k9, hk9⟩ := va_pl_get (X := X) (f := f) ha
    exact (hP k9 _ hk9).lt
  have hnl : ∀ i : Nat, i < n.toNatClampNeg → H.size + 1 + i ∉ L := fun i _ h => by
    have := hlt _ h
    omega
  have hnm : ∀ a, a ∈ (List.range n.toNatClampNeg).map (fun i => H.size + 1 + i) → a ∉ L := fun a ha h => by
    obtain ⟨i, -, rfl⟩ := List.mem_map.mp ha
    have := hlt _ h
    omega
  have hP0 : va_P D cl (X ++ va_pl L f) F.heap := hP.kept (fun k9 x hx => hold x.1 ((hP k9 x hx).lt))
  have hP1 : va_P D cl ((X ++ va_pl L f) ++ [(H.size, .inl (cA, n.toNatClampNeg, .inr (.inr (.inr (.inr (fun i => if i < n.toNatClampNeg then some (H.size + 1 + i) else none))))))]) F.heap := hP0.app (fun k9 x hx => by
    have h0 : k9 < 1 := (List.getElem?_eq_some_iff.mp hx).1
    rw [show k9 = 0 by omega] at hx
    cases hx
    exact f2)
  have hP2 : va_P D cl (((X ++ va_pl L f) ++ [(H.size, .inl (cA, n.toNatClampNeg, .inr (.inr (.inr (.inr (fun i => if i < n.toNatClampNeg then some (H.size + 1 + i) else none))))))]) ++ ((List.range n.toNatClampNeg).map (fun i => H.size + 1 + i)).map (fun a => (a, .inl (cy, z)))) F.heap := hP1.app (fun k9 x hx => by
    obtain ⟨a, ha, rfl⟩ := List.mem_map.mp (List.mem_of_getElem? hx)
    obtain ⟨i, hi, rfl⟩ := List.mem_map.mp ha
    exact hrow i (List.mem_range.mp hi))
  have hD2 : va_D A (((X ++ va_pl L f) ++ [(H.size, .inl (cA, n.toNatClampNeg, .inr (.inr (.inr (.inr (fun i => if i < n.toNatClampNeg then some (H.size + 1 + i) else none))))))]) ++ ((List.range n.toNatClampNeg).map (fun i => H.size + 1 + i)).map (fun a => (a, .inl (cy, z)))) := by
    have hD1 := hD.push (e := .inl (cA, n.toNatClampNeg, .inr (.inr (.inr (.inr (fun i => if i < n.toNatClampNeg then some (H.size + 1 + i) else none)))))) hP rfl (hA _ hS.1)
    generalize hW1 : (X ++ va_pl L f) ++ [(H.size, .inl (cA, n.toNatClampNeg, .inr (.inr (.inr (.inr (fun i => if i < n.toNatClampNeg then some (H.size + 1 + i) else none))))))] = W1 at hD1 hP1 ⊢
    have hle : ∀ (k9 : Nat) (x : Nat × va_E), W1[k9]? = some x → x.1 ≤ H.size := fun k9 x hx => by
      rw [← hW1] at hx
      by_cases hl : k9 < (X ++ va_pl L f).length
      · rw [List.getElem?_append_left hl] at hx
        exact Nat.le_of_lt ((hP k9 x hx).lt)
      · rw [List.getElem?_append_right (by omega)] at hx
        have h0 : k9 - (X ++ va_pl L f).length < 1 := (List.getElem?_eq_some_iff.mp hx).1
        rw [show k9 - (X ++ va_pl L f).length = 0 by omega] at hx
        cases hx
        exact Nat.le_refl _
    have hr : ∀ (k9 : Nat) (x : Nat × va_E), (((List.range n.toNatClampNeg).map (fun i => H.size + 1 + i)).map (fun a => ((a, .inl (cy, z)) : Nat × va_E)))[k9]? = some x → x.1 = H.size + 1 + k9 := fun k9 x hx => by
      rw [List.getElem?_map, List.getElem?_map] at hx
      by_cases h9 : k9 < n.toNatClampNeg
      · rw [List.getElem?_range h9] at hx
        cases hx
        rfl
      · have hn0 : (List.range n.toNatClampNeg)[k9]? = none := List.getElem?_eq_none (by rw [List.length_range]; omega)
        rw [hn0] at hx
        cases hx
    refine ⟨fun i j x y hi hj hxy => ?_, fun k9 x hx => ?_⟩
    · by_cases h1 : i < W1.length <;> by_cases h2 : j < W1.length
      · rw [List.getElem?_append_left h1] at hi
        rw [List.getElem?_append_left h2] at hj
        exact hD1.1 i j x y hi hj hxy
      · rw [List.getElem?_append_left h1] at hi
        rw [List.getElem?_append_right (by omega)] at hj
        have := hle _ _ hi
        have := hr _ _ hj
        omega
      · rw [List.getElem?_append_right (by omega)] at hi
        rw [List.getElem?_append_left h2] at hj
        have := hle _ _ hj
        have := hr _ _ hi
        omega
      · rw [List.getElem?_append_right (by omega)] at hi hj
        have := hr _ _ hi
        have := hr _ _ hj
        omega
    · by_cases h1 : k9 < W1.length
      · rw [List.getElem?_append_left h1] at hx
        exact hD1.2 k9 x hx
      · rw [List.getElem?_append_right (by omega)] at hx
        have := hr _ _ hx
        exact hA _ (by have := hS.1; omega)
  have hAr : ArrOfT s cA (.array ty) := fun N9 z9 => by
    obtain ⟨-, k9, hk9, cm9, hkk9⟩ := (hO 0 0 0).1
    exact ⟨(fun q hq => by cases hq), k9, hk9, cm9, hkk9⟩
  have hK2 : va_K D cl (tys ++ [(cA, .array ty)]) s := ⟨hK.1, fun k9 x hx => by
    by_cases hl : k9 < tys.length
    · rw [List.getElem?_append_left hl] at hx
      exact hK.2 k9 x hx
    · rw [List.getElem?_append_right (by omega)] at hx
      have h0 : k9 - tys.length < 1 := (List.getElem?_eq_some_iff.mp hx).1
      rw [show k9 - tys.length = 0 by omega] at hx
      cases hx
      exact ⟨hAr, fA⟩⟩
  obtain ⟨t, a1, b1⟩ := kk H.size (fun i => H.size + 1 + i) cA F.heap (fun i j _ _ h => by have h9 : H.size + 1 + i = H.size + 1 + j := h; omega) hnl hK2 (by rw [← vr_rows hnm]; exact vr_lay hP2) (by rw [← vr_rows hnm]; exact vr_layD hD2) ⟨by rw [f1]; have := hS.1; omega, fun x h1 h2 => (hold x (Nat.lt_of_lt_of_le h1 hS.1)).trans (hS.2.1 x h1 h2), hS.2.2⟩ F rfl X'
  refine ⟨t, step t ?_, b1⟩
  have e : T.heap.size = H.size := by rw [hT]
  rw [e]
  exact a1
end VGM
/-! MAKING: numbers that are not made yet hold fNo; a new cell takes one of them -/
def fZ : xF := fun _ => fNo
theorem al_new {ad : Nat → Nat} {σ : xF} (hj : adOk ad 400) {g : Nat} (hg : g < 400) (hs : σ g = fNo) {q : Nat} (hq : ov fZ ad 400 σ q = fNo) : ∃ ad' : Nat → Nat, adOk ad' 400 ∧ ad' g = q ∧ (∀ i, i < 400 → σ i ≠ fNo → ad' i = ad i) ∧ ov fZ ad' 400 σ = ov fZ ad 400 σ := by
  have out : ∀ {ad : Nat → Nat} {p : Nat}, ¬ (∃ i, i < 400 ∧ ad i = p) → ov fZ ad 400 σ p = fNo := fun h => ov_out h
  obtain ⟨ad', had⟩ : ∃ ad' : Nat → Nat, ad' = fun i => if i = g then q else if ad i = q then ad g else ad i := ⟨_, rfl⟩
  have eg : ad' g = q := by rw [had]; exact if_pos rfl
  have e1 : ∀ i, i ≠ g → ad i = q → ad' i = ad g := fun i h1 h2 => by
    have : ad' i = (if i = g then q else if ad i = q then ad g else ad i) := by rw [had]
    rw [this, if_neg h1, if_pos h2]
  have e2 : ∀ i, i ≠ g → ¬ ad i = q → ad' i = ad i := fun i h1 h2 => by
    have : ad' i = (if i = g then q else if ad i = q then ad g else ad i) := by rw [had]
    rw [this, if_neg h1, if_neg h2]
  have hz : ∀ i, i < 400 → ad i = q → σ i = fNo := fun i hi e => by
    have := ov_at (f0 := fZ) (σ := σ) hj hi
    rw [e, hq] at this
    exact this.symm
  have hj' : adOk ad' 400 := fun i k hi hk e => by
    by_cases q1 : i = g
    · subst q1
      by_cases q2 : k = i
      · exact q2.symm
      · exfalso
        rw [eg] at e
        by_cases q3 : ad k = q
        · rw [e1 k q2 q3] at e
          exact q2 (hj _ _ hk hi (q3.trans e))
        · rw [e2 k q2 q3] at e
          exact q3 e.symm
    · by_cases q2 : k = g
      · subst q2
        exfalso
        rw [eg] at e
        by_cases q3 : ad i = q
        · rw [e1 i q1 q3] at e
          exact q1 (hj _ _ hi hk (q3.trans e.symm))
        · rw [e2 i q1 q3] at e
          exact q3 e
      · by_cases q3 : ad i = q
        · by_cases q4 : ad k = q
          · exact hj _ _ hi hk (q3.trans q4.symm)
          · rw [e1 i q1 q3, e2 k q2 q4] at e
            exact absurd (hj _ _ hg hk e).symm q2
        · by_cases q4 : ad k = q
          · rw [e2 i q1 q3, e1 k q2 q4] at e
            exact absurd (hj _ _ hi hg e) q1
          · rw [e2 i q1 q3, e2 k q2 q4] at e
            exact hj _ _ hi hk e
  refine ⟨ad', hj', eg, fun i hi hne => ?_, ?_⟩
  · have q1 : i ≠ g := fun e => hne (by rw [e]; exact hs)
    exact e2 i q1 (fun e => hne (hz i hi e))
  · funext p
    by_cases hp : ∃ i, i < 400 ∧ ad' i = p
    · obtain ⟨i, hi, rfl⟩ := hp
      rw [ov_at hj' hi]
      by_cases q1 : i = g
      · subst q1; rw [eg, hq]; exact hs
      · by_cases q2 : ad i = q
        · rw [e1 i q1 q2, ov_at hj hg, hs]
          exact hz i hi q2
        · rw [e2 i q1 q2, ov_at hj hi]
    · rw [out hp]
      by_cases hp2 : ∃ i, i < 400 ∧ ad i = p
      · obtain ⟨i, hi, rfl⟩ := hp2
        rw [ov_at hj hi]
        by_cases q1 : i = g
        · subst q1; exact hs.symm
        · by_cases q2 : ad i = q
          · exact absurd ⟨g, hg, eg.trans q2.symm⟩ hp
          · exact absurd ⟨i, hi, e2 i q1 q2⟩ hp
      · rw [out hp2]
/-- since ad, σ: what was made stays where it is -/
def exA (σ : xF) (ad ad' : Nat → Nat) : Prop := ∀ i, i < 400 → σ i ≠ fNo → ad' i = ad i
def gC (l : Launch) (G : xG) (ad : Nat → Nat) (y : MethodName) (cw : Cond) (rm : Room) (av : List Value) (σ : xF) (post : (Nat → Nat) → xF → Prop) : Prop := mV l G y cw rm av (ov fZ ad 400 σ) (fun f' => ∃ ad' σ', adOk ad' 400 ∧ exA σ ad ad' ∧ f' = ov fZ ad' 400 σ' ∧ post ad' σ')
theorem ra_i {s : State} {a b : ClassId} (h1 : va_RA s a .int) (h2 : va_RA s b .int) : a = b := Option.some.inj (h1.symm.trans h2)
theorem ra_l {s : State} {a b : ClassId} (h1 : va_RA s a .long) (h2 : va_RA s b .long) : a = b := Option.some.inj (h1.symm.trans h2)
theorem ra_a {s : State} {a b : ClassId} {t : FieldType} (h1 : va_RA s a (.array t)) (h2 : va_RA s b (.array t)) : a = b := Option.some.inj (h1.symm.trans h2)
theorem ra_o {s : State} {a b : ClassId} {C : String} (h1 : va_RA s a (.object C)) (h2 : va_RA s b (.object C)) : a = b := by
  obtain ⟨-, -, -, -, -, e1⟩ := h1
  obtain ⟨-, -, -, -, -, e2⟩ := h2
  exact Option.some.inj (e1.symm.trans e2)
theorem kx_at {D : va_G} {cl : List vw_C} {tys : List (ClassId × FieldType)} {x : ClassId × FieldType} {U : State} (h : va_K D cl (tys ++ [x]) U) : va_RA U x.1 x.2 := (h.2 tys.length x (by simp)).2
theorem iv_ge0 {n : Nat} (h : n < 65536) : ¬ iv (n : Int) < 0 ∧ (iv (n : Int)).toNatClampNeg = n := by
  refine ⟨fun q => ?_, ?_⟩
  · have e0 : (0 : Int32) = iv 0 := rfl
    rw [e0, iv_lt (ir_n (by omega)) ir_0] at q
    omega
  · rw [iv_nat]; exact nI_clamp (by omega)
section V4
variable {G : xG} {X : xT} {cc : ByteArray} {y : MethodName} {nL : Nat} {rm : Room} {kc ks pc : Nat} {lv lv' : List (Nat × Value)} {st : List Value} {f : xF} {ad : Nat → Nat} {σ : xF}
theorem fresh_q {L : List Nat} {f : xF} {A : Nat → Prop} {q : Nat} {e : va_E} (a2 : va_D A (va_pl L f ++ [(q, e)])) : q ∉ L := fun hm => by
  obtain ⟨i, hi⟩ := pl_get (f := f) hm
  have hi2 : i < (va_pl L f).length := (List.getElem?_eq_some_iff.mp hi).1
  have e1 : (va_pl L f ++ [(q, e)])[i]? = some (q, f q) := by rw [List.getElem?_append_left hi2]; exact hi
  have e2 : (va_pl L f ++ [(q, e)])[(va_pl L f).length]? = some (q, e) := by simp
  have := a2.1 _ _ _ _ e1 e2 rfl
  omega
theorem v_newJ (h : xOk G X cc y nL rm) (n : Nat) {z : Int} (hw : Cond.arrayClass .int ∈ zT) (hdg : decode cc pc = .ok (.newarray .int, 2)) (hz : z = n) (hn : n < 65536) (hcap : kc + 1 ≤ rm.cells ∧ ks + n ≤ rm.slots) (kk : ∀ q, f q = fNo → vV G X (kc + 1) (ks + n) (pc + 2) lv (.ref q :: st) (va_up f q (eJ G n (fun _ => 0)))) : vV G X kc ks pc lv (.int (iv z) :: st) f := by
  obtain ⟨p, l, e, R, s, m, args, below, meth, c, A, H0, n0, Q⟩ := X
  obtain ⟨hx, hb, rfl, hml, hown, hts, hN, hK, hA, rfl, hnm⟩ := h
  subst hz
  intro L H locs ls h1 h2 h3 h4 h5
  obtain ⟨g1, g2⟩ := iv_ge0 hn
  refine va_newa (D := G.1) (atype := .int) (ty := .int) (a0 := (n, .inl (fun _ => iv 0))) hx hb (hts _ hw) rfl hK h2 h3 h4 hA (fun cA => rfl) g1 g2 (by show n * 4 ≤ 536870912; omega) hcap.1 hcap.2 hdg (fun q cA H1 k1 a1 a2 a3 => ?_)
  have ec : cA = G.2 0 := ra_i (kx_at k1) (hK.2 0 (G.2 0, .int) rfl).2
  subst ec
  have hq := fresh_q a2
  rw [va_pl_push hq] at a1 a2
  exact kk q (h1 q hq) (L ++ [q]) H1 locs ls (h1.push q _) a1 a2 a3 h5
theorem v_newL (h : xOk G X cc y nL rm) (n : Nat) {z : Int} (hw : Cond.arrayClass .long ∈ zT) (hdg : decode cc pc = .ok (.newarray .long, 2)) (hz : z = n) (hn : n < 65536) (hcap : kc + 1 ≤ rm.cells ∧ ks + n ≤ rm.slots) (kk : ∀ q, f q = fNo → vV G X (kc + 1) (ks + n) (pc + 2) lv (.ref q :: st) (va_up f q (eL G n (fun _ => 0)))) : vV G X kc ks pc lv (.int (iv z) :: st) f := by
  obtain ⟨p, l, e, R, s, m, args, below, meth, c, A, H0, n0, Q⟩ := X
  obtain ⟨hx, hb, rfl, hml, hown, hts, hN, hK, hA, rfl, hnm⟩ := h
  subst hz
  intro L H locs ls h1 h2 h3 h4 h5
  obtain ⟨g1, g2⟩ := iv_ge0 hn
  refine va_newa (D := G.1) (atype := .long) (ty := .long) (a0 := (n, .inr (.inl (fun _ => jv 0)))) hx hb (hts _ hw) rfl hK h2 h3 h4 hA (fun cA => rfl) g1 g2 (by show n * 8 ≤ 536870912; omega) hcap.1 hcap.2 hdg (fun q cA H1 k1 a1 a2 a3 => ?_)
  have ec : cA = G.2 4 := ra_l (kx_at k1) (hK.2 4 (G.2 4, .long) rfl).2
  subst ec
  have hq := fresh_q a2
  rw [va_pl_push hq] at a1 a2
  exact kk q (h1 q hq) (L ++ [q]) H1 locs ls (h1.push q _) a1 a2 a3 h5
theorem v_newR (h : xOk G X cc y nL rm) (n t : Nat) {C : String} {idx : Nat} {z : Int} (hw : Cond.classLink y.cls idx C ∈ zT) (ho : Cond.arrayOver (.object C) ∈ zN) (ht : (xt G)[t]? = some (G.2 t, .object C)) (hdg : decode cc pc = .ok (.anewarray idx, 3)) (hz : z = n) (hn : n < 65536) (hcap : kc + 1 ≤ rm.cells ∧ ks + n ≤ rm.slots) (kk : ∀ q, f q = fNo → vV G X (kc + 1) (ks + n) (pc + 3) lv (.ref q :: st) (va_up f q (eR G t n (fun _ => none)))) : vV G X kc ks pc lv (.int (iv z) :: st) f := by
  obtain ⟨p, l, e, R, s, m, args, below, meth, c, A, H0, n0, Q⟩ := X
  obtain ⟨hx, hb, rfl, hml, hown, hts, hN, hK, hA, rfl, hnm⟩ := h
  subst hz
  intro L H locs ls h1 h2 h3 h4 h5
  obtain ⟨g1, g2⟩ := iv_ge0 hn
  refine va_newq (D := G.1) hx hb hown (hts _ hw) (hN _ ho) hK h2 h3 h4 hA g1 g2 (by omega) hcap.1 hcap.2 hdg (fun q cA H1 k1 a1 a2 a3 => ?_)
  have ec : cA = G.2 t := ra_o (kx_at k1) (hK.2 t (G.2 t, .object C) ht).2
  subst ec
  have hq := fresh_q a2
  rw [va_pl_push hq] at a1 a2
  exact kk q (h1 q hq) (L ++ [q]) H1 locs ls (h1.push q _) a1 a2 a3 h5
theorem v_aast (h : xOk G X cc y nL rm) {a t n v ci : Nat} {r : vw_C} {vs : List Value} {g : Nat → Option Nat} {z : Int} (hdg : decode cc pc = .ok (.aastore, 1)) (he : f a = eR G t n g) (hv : f v = eO ci vs) (hc : zCl[ci]? = some r) (hci : ci < 999) (ht : (xt G)[t]? = some (G.2 t, .object r.1)) (hn : n < 2147483648) (i : Nat) (hi : z = i) (hin : i < n) (k : vV G X kc ks (pc + 1) lv st (va_up f a (eR G t n (va_up g i (some v))))) : vV G X kc ks pc lv (.ref v :: .int (iv z) :: .ref a :: st) f := by
  obtain ⟨p, l, e, R, s, m, args, below, meth, c, A, H0, n0, Q⟩ := X
  obtain ⟨hx, hb, rfl, hml, hown, hts, hN, hK, hA, hR, hnm⟩ := h
  intro L H locs ls h1 h2 h3 h4 h5
  have hm : a ∈ L := h1.mem (by rw [he]; exact eR_ne)
  have hmv : v ∈ L := h1.mem (by rw [hv]; exact eO_ne hci)
  obtain ⟨q0, hq0⟩ := pl_get (f := f) hm
  obtain ⟨qk, hqk⟩ := pl_get (f := f) hmv
  have hset := pl_set (x := eR G t n (va_up g i (some v))) h3 hm hq0
  rw [he] at hq0
  rw [hv] at hqk
  obtain ⟨b1, b2⟩ := iv_in hi hin hn
  exact va_astq (D := G.1) hx hb hK h2 h3 h4 q0 t qk ci hq0 ht hqk hc b1 hdg (fun H1 locs1 a1 a2 a3 => by rw [b2] at a1 a2; exact k L H1 locs1 ls (h1.up hm _) (by rw [← hset]; exact a1) (by rw [← hset]; exact a2) a3 h5)
theorem pl_cons {L : List Nat} {f : xF} {q : Nat} {e : va_E} (h : q ∉ L) : [(q, e)] ++ va_pl L f = va_pl (q :: L) (va_up f q e) := by
  unfold va_pl
  rw [List.map_cons, va_up_self]
  show (q, e) :: _ = _
  congr 1
  apply List.map_congr_left
  intro a ha
  rw [va_up_ne _ _ (fun e => h (by rw [← e]; exact ha))]
theorem v_mna (h : xOk G X cc y nL rm) (n m9 : Nat) {idx : Nat} {z z2 : Int} (hw : Cond.classLink y.cls idx "[[I" ∈ zT) (ho : Cond.arrayOver (.array .int) ∈ zN) (ha : Cond.arrayClass .int ∈ zT) (hdg : decode cc pc = .ok (.multianewarray idx 2, 4)) (hz : z = n) (hn : n < 65536) (hz2 : z2 = m9) (hm9 : m9 < 65536) (hcap : kc + (1 + n) ≤ rm.cells ∧ ks + (n + n * m9) ≤ rm.slots) (kk : ∀ (q : Nat) (r : Nat → Nat), f q = fNo → (∀ i, i < n → f (r i) = fNo) → (∀ i, i < n → r i ≠ q) → (∀ i j : Nat, i < n → j < n → r i = r j → i = j) → vV G X (kc + 1 + n) (ks + n + n * m9) (pc + 4) lv (.ref q :: st) (va_up (vr_up f ((List.range n).map r) (eJ G m9 (fun _ => 0))) q (eR G 1 n (fun i => if i < n then some (r i) else none)))) : vV G X kc ks pc lv (.int (iv z2) :: .int (iv z) :: st) f := by
  obtain ⟨p, l, e, R, s, m, args, below, meth, c, A, H0, n0, Q⟩ := X
  obtain ⟨hx, hb, rfl, hml, hown, hts, hN, hK, hA, rfl, hnm⟩ := h
  subst hz hz2
  intro L H locs ls h1 h2 h3 h4 h5
  obtain ⟨g1, g2⟩ := iv_ge0 hn
  obtain ⟨g3, g4⟩ := iv_ge0 hm9
  have hcy : s.vm.findClass (FieldType.array .int).toString = some (G.2 0) := (hK.2 0 (G.2 0, .int) rfl).2
  refine va_mna (X := []) (D := G.1) (ty := .int) (cy := G.2 0) (z := (m9, .inl (fun _ => iv 0))) hx hb hown (hts _ hw) (hN _ ho) (hts _ ha) hcy hK (by simpa using h2) (by simpa using h3) h4 hA g1 g3 g2 g4 (by omega) (by show m9 * 4 ≤ 536870912; omega) (by omega) rfl rfl hcap.1 hcap.2 (fun c => arrV_new _ _ _) hdg (fun q r cA H1 hinj hnl k1 a1 a2 a3 => ?_)
  have ec : cA = G.2 1 := ra_a (kx_at k1) (hK.2 1 (G.2 1, .array .int) rfl).2
  subst ec
  have a1 : va_P G.1 zCl ([(q, .inl (G.2 1, n, .inr (.inr (.inr (.inr (fun i => if i < n then some (r i) else none))))))] ++ va_pl (L ++ (List.range n).map r) (vr_up f ((List.range n).map r) (.inl (G.2 0, m9, .inl (fun _ => iv 0))))) H1 := by simpa using a1
  have a2 : va_D A ([(q, .inl (G.2 1, n, .inr (.inr (.inr (.inr (fun i => if i < n then some (r i) else none))))))] ++ va_pl (L ++ (List.range n).map r) (vr_up f ((List.range n).map r) (.inl (G.2 0, m9, .inl (fun _ => iv 0))))) := by simpa using a2
  have hqL : q ∉ L ++ (List.range n).map r := fun hm => by
    obtain ⟨i, hi⟩ := pl_get (f := vr_up f ((List.range n).map r) (.inl (G.2 0, m9, .inl (fun _ => iv 0)))) hm
    have := a2.1 0 (i + 1) _ (q, vr_up f ((List.range n).map r) (.inl (G.2 0, m9, .inl (fun _ => iv 0))) q) rfl (by rw [List.singleton_append, List.getElem?_cons_succ]; exact hi) rfl
    omega
  have hq1 : q ∉ L := fun hm => hqL (List.mem_append_left _ hm)
  have hrq : ∀ i, i < n → r i ≠ q := fun i hi e => hqL (by rw [← e]; exact List.mem_append_right _ (List.mem_map.mpr ⟨i, List.mem_range.mpr hi, rfl⟩))
  rw [pl_cons hqL] at a1 a2
  refine kk q r (h1 q hq1) (fun i hi => h1 _ (hnl i hi)) hrq hinj (q :: (L ++ (List.range n).map r)) H1 locs ls (fun x hx => ?_) a1 a2 a3 h5
  have x1 : x ≠ q := fun e => hx (by rw [e]; exact List.mem_cons_self)
  have x2 : x ∉ (List.range n).map r := fun e => hx (List.mem_cons_of_mem _ (List.mem_append_right _ e))
  have x3 : x ∉ L := fun e => hx (List.mem_cons_of_mem _ (List.mem_append_left _ e))
  rw [va_up_ne _ _ x1, vr_up_ne x2]
  exact h1 x x3
/-! over the overlay -/
theorem g_new (h : xOk G X cc y nL rm) (hj : adOk ad 400) {g : Nat} (hg : g < 400) (hs : σ g = fNo) {idx ci N : Nat} {fs : List Value} (hNw : NewA y.cls idx ci N fs) (hdg : decode cc pc = .ok (.new idx, 3)) (hcap : kc + 1 ≤ rm.cells ∧ ks + N ≤ rm.slots) (kk : ∀ ad', adOk ad' 400 → exA σ ad ad' → vV G X (kc + 1) (ks + N) (pc + 3) lv (.ref (ad' g) :: st) (ov fZ ad' 400 (va_up σ g (eO ci fs)))) : vV G X kc ks pc lv st (ov fZ ad 400 σ) :=
  v_new h hNw hdg hcap (fun q hq => by
    obtain ⟨ad', j', rfl, e1, e2⟩ := al_new hj hg hs hq
    rw [← e2, ov_up j' hg]
    exact kk ad' j' e1)
theorem g_newJ (h : xOk G X cc y nL rm) (hj : adOk ad 400) {g : Nat} (hg : g < 400) (hs : σ g = fNo) (n : Nat) {z : Int} (hw : Cond.arrayClass .int ∈ zT) (hdg : decode cc pc = .ok (.newarray .int, 2)) (hz : z = n) (hn : n < 65536) (hcap : kc + 1 ≤ rm.cells ∧ ks + n ≤ rm.slots) (kk : ∀ ad', adOk ad' 400 → exA σ ad ad' → vV G X (kc + 1) (ks + n) (pc + 2) lv (.ref (ad' g) :: st) (ov fZ ad' 400 (va_up σ g (eJ G n (fun _ => 0))))) : vV G X kc ks pc lv (.int (iv z) :: st) (ov fZ ad 400 σ) :=
  v_newJ h n hw hdg hz hn hcap (fun q hq => by
    obtain ⟨ad', j', rfl, e1, e2⟩ := al_new hj hg hs hq
    rw [← e2, ov_up j' hg]
    exact kk ad' j' e1)
theorem g_newL (h : xOk G X cc y nL rm) (hj : adOk ad 400) {g : Nat} (hg : g < 400) (hs : σ g = fNo) (n : Nat) {z : Int} (hw : Cond.arrayClass .long ∈ zT) (hdg : decode cc pc = .ok (.newarray .long, 2)) (hz : z = n) (hn : n < 65536) (hcap : kc + 1 ≤ rm.cells ∧ ks + n ≤ rm.slots) (kk : ∀ ad', adOk ad' 400 → exA σ ad ad' → vV G X (kc + 1) (ks + n) (pc + 2) lv (.ref (ad' g) :: st) (ov fZ ad' 400 (va_up σ g (eL G n (fun _ => 0))))) : vV G X kc ks pc lv (.int (iv z) :: st) (ov fZ ad 400 σ) :=
  v_newL h n hw hdg hz hn hcap (fun q hq => by
    obtain ⟨ad', j', rfl, e1, e2⟩ := al_new hj hg hs hq
    rw [← e2, ov_up j' hg]
    exact kk ad' j' e1)
theorem g_newR (h : xOk G X cc y nL rm) (hj : adOk ad 400) {g : Nat} (hg : g < 400) (hs : σ g = fNo) (n t : Nat) {C : String} {idx : Nat} {z : Int} (hw : Cond.classLink y.cls idx C ∈ zT) (ho : Cond.arrayOver (.object C) ∈ zN) (ht : (xt G)[t]? = some (G.2 t, .object C)) (hdg : decode cc pc = .ok (.anewarray idx, 3)) (hz : z = n) (hn : n < 65536) (hcap : kc + 1 ≤ rm.cells ∧ ks + n ≤ rm.slots) (kk : ∀ ad', adOk ad' 400 → exA σ ad ad' → vV G X (kc + 1) (ks + n) (pc + 3) lv (.ref (ad' g) :: st) (ov fZ ad' 400 (va_up σ g (eR G t n (fun _ => none))))) : vV G X kc ks pc lv (.int (iv z) :: st) (ov fZ ad 400 σ) :=
  v_newR h n t hw ho ht hdg hz hn hcap (fun q hq => by
    obtain ⟨ad', j', rfl, e1, e2⟩ := al_new hj hg hs hq
    rw [← e2, ov_up j' hg]
    exact kk ad' j' e1)
/-- K new cells at once, alike -/
theorem al_many {e : va_E} (he : e ≠ fNo) {g : Nat} {f : xF} (r : Nat → Nat) {ad : Nat → Nat} {σ : xF} (hj : adOk ad 400) (hf : f = ov fZ ad 400 σ) (K : Nat) : g + K ≤ 400 → (∀ i, i < K → σ (g + i) = fNo) → (∀ i, i < K → f (r i) = fNo) → (∀ i j : Nat, i < K → j < K → r i = r j → i = j) → ∃ ad', adOk ad' 400 ∧ exA σ ad ad' ∧ (∀ i, i < K → ad' (g + i) = r i) ∧ vr_up f ((List.range K).map r) e = ov fZ ad' 400 (fun j => if g ≤ j ∧ j < g + K then e else σ j) := by
  induction K with
  | zero =>
    intro _ _ _ _
    refine ⟨ad, hj, fun _ _ _ => rfl, fun i h => absurd h (Nat.not_lt_zero i), ?_⟩
    have e1 : (fun j => if g ≤ j ∧ j < g + 0 then e else σ j) = σ := by funext j; rw [if_neg (by omega)]
    have e2 : vr_up f ((List.range 0).map r) e = f := by funext x; exact vr_up_ne (by simp)
    rw [e1, e2]; exact hf
  | succ K ih =>
    intro hK hs hr hi
    obtain ⟨ad1, j1, x1, a1, f1⟩ := ih (by omega) (fun i h => hs i (by omega)) (fun i h => hr i (by omega)) (fun i j h1 h2 => hi i j (by omega) (by omega))
    obtain ⟨σ1, hσ1⟩ : ∃ σ1 : xF, σ1 = fun j => if g ≤ j ∧ j < g + K then e else σ j := ⟨_, rfl⟩
    rw [← hσ1] at f1
    have s1 : σ1 (g + K) = fNo := by
      have : σ1 (g + K) = (if g ≤ g + K ∧ g + K < g + K then e else σ (g + K)) := by rw [hσ1]
      rw [this, if_neg (by omega)]
      exact hs K (by omega)
    have q1 : ov fZ ad1 400 σ1 (r K) = fNo := by
      rw [← f1, vr_up_ne]
      · exact hr K (by omega)
      · intro hm
        obtain ⟨i, h1, h2⟩ := List.mem_map.mp hm
        have h1 := List.mem_range.mp h1
        have := hi i K (by omega) (by omega) h2
        omega
    obtain ⟨ad2, j2, e2, x2, f2⟩ := al_new j1 (show g + K < 400 by omega) s1 q1
    have mono : ∀ i, σ i ≠ fNo → σ1 i ≠ fNo := fun i h => by
      have : σ1 i = (if g ≤ i ∧ i < g + K then e else σ i) := by rw [hσ1]
      rw [this]
      split
      · exact he
      · exact h
    refine ⟨ad2, j2, fun i h1 h2 => (x2 i h1 (mono i h2)).trans (x1 i h1 h2), fun i h => ?_, ?_⟩
    · by_cases q : i = K
      · rw [q]; exact e2
      · have hne : σ1 (g + i) ≠ fNo := by
          have : σ1 (g + i) = (if g ≤ g + i ∧ g + i < g + K then e else σ (g + i)) := by rw [hσ1]
          rw [this, if_pos (by omega)]; exact he
        rw [x2 (g + i) (by omega) hne]
        exact a1 i (by omega)
    · have e3 : vr_up f ((List.range (K + 1)).map r) e = va_up (vr_up f ((List.range K).map r) e) (r K) e := by
        funext x
        rw [List.range_succ, List.map_append]
        by_cases q : x = r K
        · subst q; rw [va_up_self, vr_up_in (by simp)]
        · rw [va_up_ne _ _ q]
          by_cases q2 : x ∈ (List.range K).map r
          · rw [vr_up_in q2, vr_up_in (List.mem_append_left _ q2)]
          · rw [vr_up_ne q2, vr_up_ne]
            intro hm
            rcases List.mem_append.mp hm with h | h
            · exact q2 h
            · simp at h; exact q h
      rw [e3, f1, ← f2, ← e2, ov_up j2 (by omega)]
      refine congrArg (ov fZ ad2 400) (funext fun j => ?_)
      by_cases q : j = g + K
      · subst q; rw [va_up_self, if_pos (by omega)]
      · rw [va_up_ne _ _ q]
        have : σ1 j = (if g ≤ j ∧ j < g + K then e else σ j) := by rw [hσ1]
        rw [this]
        by_cases q2 : g ≤ j ∧ j < g + K
        · rw [if_pos q2, if_pos (by omega)]
        · rw [if_neg q2, if_neg (by omega)]
theorem g_mna (h : xOk G X cc y nL rm) (hj : adOk ad 400) (n m9 go g : Nat) (hgo : go < 400) (hg : g + n ≤ 400) (hgg : go < g ∨ g + n ≤ go) (hso : σ go = fNo) (hs : ∀ i, i < n → σ (g + i) = fNo) {idx : Nat} {z z2 : Int} (hw : Cond.classLink y.cls idx "[[I" ∈ zT) (ho : Cond.arrayOver (.array .int) ∈ zN) (ha : Cond.arrayClass .int ∈ zT) (hdg : decode cc pc = .ok (.multianewarray idx 2, 4)) (hz : z = n) (hn : n < 65536) (hz2 : z2 = m9) (hm9 : m9 < 65536) (hcap : kc + (1 + n) ≤ rm.cells ∧ ks + (n + n * m9) ≤ rm.slots) (kk : ∀ ad', adOk ad' 400 → exA σ ad ad' → vV G X (kc + 1 + n) (ks + n + n * m9) (pc + 4) lv (.ref (ad' go) :: st) (ov fZ ad' 400 (va_up (fun j => if g ≤ j ∧ j < g + n then eJ G m9 (fun _ => 0) else σ j) go (eR G 1 n (fun i => if i < n then some (ad' (g + i)) else none))))) : vV G X kc ks pc lv (.int (iv z2) :: .int (iv z) :: st) (ov fZ ad 400 σ) :=
  v_mna h n m9 hw ho ha hdg hz hn hz2 hm9 hcap (fun q r hq hr hrq hinj => by
    obtain ⟨ad1, j1, x1, a1, f1⟩ := al_many (e := eJ G m9 (fun _ => 0)) eJ_ne r hj rfl n hg hs hr hinj
    obtain ⟨σ1, hσ1⟩ : ∃ σ1 : xF, σ1 = fun j => if g ≤ j ∧ j < g + n then eJ G m9 (fun _ => 0) else σ j := ⟨_, rfl⟩
    rw [← hσ1] at f1
    have at1 : ∀ j, σ1 j = (if g ≤ j ∧ j < g + n then eJ G m9 (fun _ => 0) else σ j) := fun j => by rw [hσ1]
    have q1 : ov fZ ad1 400 σ1 q = fNo := by
      rw [← f1, vr_up_ne]
      · exact hq
      · intro hm
        obtain ⟨i, h1, h2⟩ := List.mem_map.mp hm
        exact hrq i (List.mem_range.mp h1) h2
    obtain ⟨ad2, j2, e2, x2, f2⟩ := al_new j1 hgo (by rw [at1, if_neg (by omega)]; exact hso) q1
    have rows : ∀ i, i < n → ad2 (g + i) = r i := fun i hi => by
      rw [x2 (g + i) (by omega) (by rw [at1, if_pos (by omega)]; exact eJ_ne)]
      exact a1 i hi
    have ext : exA σ ad ad2 := fun i h1 h2 => by
      have : σ1 i ≠ fNo := by
        rw [at1]
        split
        · exact eJ_ne
        · exact h2
      exact (x2 i h1 this).trans (x1 i h1 h2)
    have k9 := kk ad2 j2 ext
    rw [← hσ1, show (fun i => if i < n then some (ad2 (g + i)) else none) = (fun i => if i < n then some (r i) else none) from by
      funext i
      by_cases q : i < n
      · rw [if_pos q, if_pos q, rows i q]
      · rw [if_neg q, if_neg q], ← ov_up j2 hgo, f2, ← f1, e2] at k9
    exact k9)
theorem g_putF (h : xOk G X cc y nL rm) (hj : adOk ad 400) {f0 : xF} {idx ci kf i : Nat} {ty : FieldType} {fs fs' : List Value} {v : Value} (hF : PutF y.cls idx ci kf ty) (hy : y.name = "<init>") (hdg : decode cc pc = .ok (.putfield idx, 3)) (hi : i < 400) (he : σ i = eO ci fs) (hn : narrow ty v = v) (hfit : fits ty v = true) (hl : kf < fs.length) (hs : fs.set kf v = fs') (k : vV G X kc ks (pc + 3) lv st (ov f0 ad 400 (va_up σ i (eO ci fs')))) : vV G X kc ks pc lv (v :: .ref (ad i) :: st) (ov f0 ad 400 σ) :=
  v_putF h hF hy hdg ((ov_at hj hi).trans he) hn hfit hl hs (v_f (ov_up hj hi _) k)
theorem g_aast (h : xOk G X cc y nL rm) (hj : adOk ad 400) {f0 : xF} {i t n v ci : Nat} {r : vw_C} {vs : List Value} {g : Nat → Option Nat} {z : Int} (hdg : decode cc pc = .ok (.aastore, 1)) (hi : i < 400) (hv4 : v < 400) (he : σ i = eR G t n g) (hv : σ v = eO ci vs) (hc : zCl[ci]? = some r) (hci : ci < 999) (ht : (xt G)[t]? = some (G.2 t, .object r.1)) (hn : n < 2147483648) (q : Nat) (hz : z = q) (hq : q < n) (k : vV G X kc ks (pc + 1) lv st (ov f0 ad 400 (va_up σ i (eR G t n (va_up g q (some (ad v))))))) : vV G X kc ks pc lv (.ref (ad v) :: .int (iv z) :: .ref (ad i) :: st) (ov f0 ad 400 σ) :=
  v_aast h hdg ((ov_at hj hi).trans he) ((ov_at hj hv4).trans hv) hc hci ht hn q hz hq (v_f (ov_up hj hi _) k)
theorem g_callN (h : xOk G X cc y nL rm) {y2 : MethodName} {bytes : ByteArray} {maxL idx n : Nat} {rmc : Room} {b : Nat} {As : List Value} {post : (Nat → Nat) → xF → Prop} (hM : ∀ l, gC l G ad y2 (.code y2 bytes maxL (none)) rmc (.ref b :: As) σ post) (hC : CalI y.cls idx y2 (.code y2 bytes maxL (none)) n) (hdg : decode cc pc = .ok (.invokespecial idx, 3)) (hn : As.length = n) (hroom : rmc.frames + 1 ≤ rm.frames ∧ 8 + (maxL + 11) + rmc.locals ≤ rm.locals) (hcap : kc + rmc.cells ≤ rm.cells ∧ ks + rmc.slots ≤ rm.slots) (hst : (st.map fun v => v.category).sum ≤ 8) (kk : ∀ ad' σ', adOk ad' 400 → exA σ ad ad' → post ad' σ' → vV G X (kc + rmc.cells) (ks + rmc.slots) (pc + 3) lv st (ov fZ ad' 400 σ')) : vV G X kc ks pc lv (As.reverse ++ .ref b :: st) (ov fZ ad 400 σ) :=
  v_callN h hM hC hdg hn hroom hcap hst (fun f' hp => by obtain ⟨ad', σ', a1, a2, rfl, a3⟩ := hp; exact kk ad' σ' a1 a2 a3)
end V4
