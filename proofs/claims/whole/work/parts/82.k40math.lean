/-! the loops of two constructors -/
def tI : Nat → Nat → Int := fun _ j => if j = 16 then 1 else 0
def trI (G : xG) (t : Nat) (σ1 : xF) (ad1 : Nat → Nat) (k : Nat) (σv : xF) (adv : Nat → Nat) : Prop := adOk adv 400 ∧ exA σ1 ad1 adv ∧ moN σ1 σv ∧ σv (18 + t) = eR G 2 47 (fun i => if i < k then some (adv (76 + 141 * t + 3 * i)) else none) ∧ (∀ i, i < k → pNod adv σv (76 + 141 * t + 3 * i) i (tI i) none) ∧ (∀ i, k ≤ i → i < 47 → σv (76 + 141 * t + 3 * i) = fNo ∧ σv (76 + 141 * t + 3 * i + 1) = fNo ∧ σv (76 + 141 * t + 3 * i + 2) = fNo) ∧ ∀ q, q ≠ 18 + t → (q < 76 + 141 * t ∨ 217 + 141 * t ≤ q) → σv q = σ1 q
theorem pNod_ad {ad ad' : Nat → Nat} {σ σ' : xF} {b num : Nat} {F : Nat → Int} (h : pNod ad σ b num F none) (e0 : σ' b = σ b) (e1 : σ' (b + 1) = σ (b + 1)) (e2 : σ' (b + 2) = σ (b + 2)) (a1 : ad' (b + 1) = ad (b + 1)) (a2 : ad' (b + 2) = ad (b + 2)) : pNod ad' σ' b num F none := by
  obtain ⟨h0, h1, h2⟩ := h
  refine ⟨?_, ?_, e2.trans h2⟩
  · rw [e0, h0]; unfold nodE; rw [a1]; rfl
  · unfold pCut; rw [e1, a2]; exact h1
theorem trI_step {G : xG} {t : Nat} {σ1 : xF} {ad1 : Nat → Nat} {k : Nat} {σv : xF} {adv : Nat → Nat} (ht : t ≤ 1) (h : trI G t σ1 ad1 k σv adv) (hk : k < 47) {σ' : xF} {adB : Nat → Nat} (hj : adOk adB 400) (hex : exA σv adv adB) (hmo : moN σv σ') (hc : σ' (76 + 141 * t + 3 * k) = nodE adB (76 + 141 * t + 3 * k) k (tI k) none) (hc1 : pCut adB σ' (76 + 141 * t + 3 * k + 1) (76 + 141 * t + 3 * k + 2) 0 0 0) (hc2 : pFra σ' (76 + 141 * t + 3 * k + 2) 0 1) (ha : σ' (18 + t) = eR G 2 47 (va_up (fun i => if i < k then some (adv (76 + 141 * t + 3 * i)) else none) k (some (adB (76 + 141 * t + 3 * k))))) (hf : ∀ q, q ≠ 18 + t → q ≠ 76 + 141 * t + 3 * k → q ≠ 76 + 141 * t + 3 * k + 1 → q ≠ 76 + 141 * t + 3 * k + 2 → σ' q = σv q) : trI G t σ1 ad1 (k + 1) σ' adB := by
  obtain ⟨h1, h2, h3, h4, h5, h6, h7⟩ := h
  have ne0 : ∀ i, i < k → σv (76 + 141 * t + 3 * i) ≠ fNo := fun i hi => by rw [(h5 i hi).1]; exact eO_ne (by decide)
  have ne1 : ∀ i, i < k → σv (76 + 141 * t + 3 * i + 1) ≠ fNo := fun i hi => by rw [(h5 i hi).2.1]; exact eO_ne (by decide)
  have ne2 : ∀ i, i < k → σv (76 + 141 * t + 3 * i + 2) ≠ fNo := fun i hi => by rw [(h5 i hi).2.2]; exact eO_ne (by decide)
  refine ⟨hj, exA_tr h2 h3 hex, moN_tr h3 hmo, ?_, fun i hi => ?_, fun i hi hi2 => ?_, fun q q1 q2 => ?_⟩
  · rw [ha]
    have : va_up (fun i => if i < k then some (adv (76 + 141 * t + 3 * i)) else none) k (some (adB (76 + 141 * t + 3 * k))) = (fun i => if i < k + 1 then some (adB (76 + 141 * t + 3 * i)) else none) := by
      funext i
      by_cases e : i = k
      · subst e; rw [va_up_self, if_pos (by omega)]
      · rw [va_up_ne _ _ e]
        by_cases e2 : i < k
        · show (if i < k then some (adv (76 + 141 * t + 3 * i)) else none) = _
          rw [if_pos e2, if_pos (by omega), hex _ (by omega) (ne0 i e2)]
        · show (if i < k then some (adv (76 + 141 * t + 3 * i)) else none) = _
          rw [if_neg e2, if_neg (by omega)]
    rw [this]
  · by_cases e : i = k
    · subst e; exact ⟨hc, hc1, hc2⟩
    · have hi2 : i < k := by omega
      exact pNod_ad (h5 i hi2) (hf _ (by omega) (by omega) (by omega) (by omega)) (hf _ (by omega) (by omega) (by omega) (by omega)) (hf _ (by omega) (by omega) (by omega) (by omega)) (hex _ (by omega) (ne1 i hi2)) (hex _ (by omega) (ne2 i hi2))
  · obtain ⟨a, b, c⟩ := h6 i (by omega) hi2
    exact ⟨(hf _ (by omega) (by omega) (by omega) (by omega)).trans a, (hf _ (by omega) (by omega) (by omega) (by omega)).trans b, (hf _ (by omega) (by omega) (by omega) (by omega)).trans c⟩
  · rw [hf q q1 (by omega) (by omega) (by omega)]
    exact h7 q q1 q2
def prI (G : xG) (σ1 : xF) (ad1 : Nat → Nat) (k : Nat) (σv : xF) (adv : Nat → Nat) : Prop := adOk adv 400 ∧ exA σ1 ad1 adv ∧ moN σ1 σv ∧ σv 20 = eR G 3 24 (fun i => if i < k then some (adv (52 + i)) else none) ∧ (∀ i, i < k → σv (52 + i) = eO 1 [.int (iv 0), .int (iv 1)]) ∧ (∀ i, k ≤ i → i < 24 → σv (52 + i) = fNo) ∧ ∀ q, q ≠ 20 → (q < 52 ∨ 75 < q) → σv q = σ1 q
theorem prI_step {G : xG} {σ1 : xF} {ad1 : Nat → Nat} {k : Nat} {σv : xF} {adv : Nat → Nat} (h : prI G σ1 ad1 k σv adv) (hk : k < 24) {σ' : xF} {adB : Nat → Nat} (hj : adOk adB 400) (hex : exA σv adv adB) (hmo : moN σv σ') (hc : σ' (52 + k) = eO 1 [.int (iv 0), .int (iv 1)]) (ha : σ' 20 = eR G 3 24 (va_up (fun i => if i < k then some (adv (52 + i)) else none) k (some (adB (52 + k))))) (hf : ∀ q, q ≠ 20 → q ≠ 52 + k → σ' q = σv q) : prI G σ1 ad1 (k + 1) σ' adB := by
  obtain ⟨h1, h2, h3, h4, h5, h6, h7⟩ := h
  refine ⟨hj, exA_tr h2 h3 hex, moN_tr h3 hmo, ?_, fun i hi => ?_, fun i hi hi2 => ?_, fun q q1 q2 => ?_⟩
  · rw [ha]
    have : va_up (fun i => if i < k then some (adv (52 + i)) else none) k (some (adB (52 + k))) = (fun i => if i < k + 1 then some (adB (52 + i)) else none) := by
      funext i
      by_cases e : i = k
      · subst e; rw [va_up_self, if_pos (by omega)]
      · rw [va_up_ne _ _ e]
        by_cases e2 : i < k
        · show (if i < k then some (adv (52 + i)) else none) = _
          rw [if_pos e2, if_pos (by omega), hex _ (by omega) (by rw [h5 i e2]; exact eO_ne (by decide))]
        · show (if i < k then some (adv (52 + i)) else none) = _
          rw [if_neg e2, if_neg (by omega)]
    rw [this]
  · by_cases e : i = k
    · subst e; exact hc
    · rw [hf _ (by omega) (by omega)]; exact h5 i (by omega)
  · rw [hf _ (by omega) (by omega)]; exact h6 i (by omega) hi2
  · rw [hf q q1 (by omega)]; exact h7 q q1 q2
