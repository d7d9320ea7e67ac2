/-! pictures, when addresses of what isn't made yet change -/
theorem pTab_ad {G : xG} {ad ad' : Nat → Nat} {σ : xF} {n : Nat} {val : Nat → Nat → Int} {cl so rC rK : Nat → Nat} {rL : Nat → Nat → Nat} (h : pTab G ad σ n val cl so rC rK rL) (hx : exA σ ad ad') : pTab G ad' σ n val cl so rC rK rL := by
  obtain ⟨a1, a2, a3, a4, a5, a6, a7, a8, a9⟩ := h
  have e12 := hx 12 (by decide) (by rw [a2]; exact eR_ne)
  have e13 := hx 13 (by decide) (by rw [a3]; exact eJ_ne)
  have e14 := hx 14 (by decide) (by rw [a4]; exact eJ_ne)
  have e15 := hx 15 (by decide) (by rw [a5]; exact eJ_ne)
  have e16 := hx 16 (by decide) (by rw [a6]; exact eJ_ne)
  have e17 := hx 17 (by decide) (by rw [a7]; exact eR_ne)
  refine ⟨by rw [e12, e13, e14, e15, e16, e17]; exact a1, a2.trans (eR_c (fun i hi => hx _ (by omega) (by rw [a9 i hi]; exact eJ_ne))), a3, a4, a5, a6, a7.trans (eR_c (fun i hi => hx _ (by omega) (by rw [a8 i hi]; exact eJ_ne))), a8, a9⟩
theorem pTre_ad {G : xG} {ad ad' : Nat → Nat} {σ : xF} {t sz : Nat} (ht : t ≤ 1) {T : Nat → Nat → Int} (h : pTre G ad σ t sz T (fun _ => none)) (hx : exA σ ad ad') (n1 : σ 1 ≠ fNo) (n2 : σ 2 ≠ fNo) (n3 : σ 3 ≠ fNo) : pTre G ad' σ t sz T (fun _ => none) := by
  obtain ⟨a1, a2, a3⟩ := h
  have e0 : ∀ n, n < 47 → ad' (76 + 141 * t + 3 * n) = ad (76 + 141 * t + 3 * n) := fun n hn => hx _ (by omega) (by rw [(a3 n hn).1]; exact eO_ne (by decide))
  refine ⟨?_, ?_, fun n hn => pNod_ad (a3 n hn) rfl rfl rfl (hx _ (by omega) (by rw [(a3 n hn).2.1]; exact eO_ne (by decide))) (hx _ (by omega) (by rw [(a3 n hn).2.2]; exact eO_ne (by decide)))⟩
  · rw [hx 1 (by decide) n1, hx 2 (by decide) n2, hx 3 (by decide) n3, hx (18 + t) (by omega) (by rw [a2]; exact eR_ne), show ad' (76 + 141 * t) = ad (76 + 141 * t) from e0 0 (by decide)]
    exact a1
  · rw [a2]
    have : (fun n => if n < 47 then some (ad (76 + 141 * t + 3 * n)) else none) = (fun n => if n < 47 then some (ad' (76 + 141 * t + 3 * n)) else none) := by
      funext n
      by_cases q : n < 47
      · rw [if_pos q, if_pos q, e0 n q]
      · rw [if_neg q, if_neg q]
    rw [this]
theorem pPru_ad {G : xG} {ad ad' : Nat → Nat} {σ : xF} {ps : Nat} {lc ws al be : Nat → Int} (h : pPru G ad σ ps lc ws al be) (hx : exA σ ad ad') (n8 : σ 8 ≠ fNo) : pPru G ad' σ ps lc ws al be := by
  obtain ⟨a1, a2, a3, a4, ⟨x, y, a5⟩, a6⟩ := h
  refine ⟨?_, a2.trans (eR_c (fun i hi => hx _ (by omega) (by rw [a6 i hi]; exact eO_ne (by decide)))), a3, a4, ⟨x, y, a5⟩, a6⟩
  rw [hx 20 (by decide) (by rw [a2]; exact eR_ne), hx 21 (by decide) (by rw [a3]; exact eJ_ne), hx 22 (by decide) (by rw [a4]; exact eJ_ne), hx 8 (by decide) n8, hx 23 (by decide) (by rw [a5]; exact eO_ne (by decide))]
  exact a1
def sur0 (ad : Nat → Nat) (σ : xF) : Prop := pSur ad σ ∧ pCut ad σ 4 5 0 0 0 ∧ pFra σ 5 0 1 ∧ pCut ad σ 6 7 0 0 0 ∧ pFra σ 7 0 1
theorem sur0.up {ad : Nat → Nat} {σ σ' : xF} (h : sur0 ad σ) (hs : ∀ i, 3 ≤ i ∧ i ≤ 7 → σ' i = σ i) : sur0 ad σ' := ⟨(hs 3 (by omega)).trans h.1, (hs 4 (by omega)).trans h.2.1, (hs 5 (by omega)).trans h.2.2.1, (hs 6 (by omega)).trans h.2.2.2.1, (hs 7 (by omega)).trans h.2.2.2.2⟩
theorem sur0_ad {ad ad' : Nat → Nat} {σ : xF} (h : sur0 ad σ) (hx : exA σ ad ad') (n1 : σ 1 ≠ fNo) (n2 : σ 2 ≠ fNo) : sur0 ad' σ := by
  obtain ⟨h1, h2, h3, h4, h5⟩ := h
  have e4 := hx 4 (by decide) (by rw [h2]; exact eO_ne (by decide))
  have e5 := hx 5 (by decide) (by rw [h3]; exact eO_ne (by decide))
  have e6 := hx 6 (by decide) (by rw [h4]; exact eO_ne (by decide))
  have e7 := hx 7 (by decide) (by rw [h5]; exact eO_ne (by decide))
  refine ⟨?_, ?_, h3, ?_, h5⟩
  · unfold pSur; rw [e4, e6, hx 1 (by decide) n1, hx 2 (by decide) n2]; exact h1
  · unfold pCut; rw [e5]; exact h2
  · unfold pCut; rw [e7]; exact h4
theorem sur0_lkO {ad : Nat → Nat} {σ : xF} (h : sur0 ad σ) : lkO ad σ := ⟨(0, 0, 0, 0, 1), fun _ _ _ _ _ => rfl, ⟨0, 0, 0, h.2.1⟩, ⟨0, 1, h.2.2.1⟩, h.2.2.2.1, h.2.2.2.2, by unfold ir; decide, by unfold ir; decide⟩
theorem tI_ok : tOk tI := fun n _ => ⟨0, 0, 0, by decide, by decide, by decide, rfl, rfl, rfl⟩
theorem iOk_tI : iOk tI := fun x _ => ⟨(show (0 : Int) ≤ 0 ∧ (0 : Int) ≤ 24 by decide), (show (0 : Int) ≤ 0 ∧ (0 : Int) ≤ 24 by decide)⟩
theorem chOk_none (t : Nat) : chOk t (fun _ => none) := fun n q _ h => by cases h
theorem pTab_ne {G : xG} {ad : Nat → Nat} {σ : xF} {n : Nat} {val : Nat → Nat → Int} {cl so rC rK : Nat → Nat} {rL : Nat → Nat → Nat} (h : pTab G ad σ n val cl so rC rK rL) {q : Nat} (hq : q = 1 ∨ (12 ≤ q ∧ q ≤ 17) ∨ (24 ≤ q ∧ q ≤ 51)) : σ q ≠ fNo := by
  obtain ⟨a1, a2, a3, a4, a5, a6, a7, a8, a9⟩ := h
  rcases hq with e | e | e
  · rw [e, a1]; exact eO_ne (by decide)
  · have : q = 12 ∨ q = 13 ∨ q = 14 ∨ q = 15 ∨ q = 16 ∨ q = 17 := by omega
    rcases this with e | e | e | e | e | e
    · rw [e, a2]; exact eR_ne
    · rw [e, a3]; exact eJ_ne
    · rw [e, a4]; exact eJ_ne
    · rw [e, a5]; exact eJ_ne
    · rw [e, a6]; exact eJ_ne
    · rw [e, a7]; exact eR_ne
  · by_cases c : q < 28
    · have := a8 (q - 24) (by omega)
      rw [show 24 + (q - 24) = q by omega] at this
      rw [this]; exact eJ_ne
    · have := a9 (q - 28) (by omega)
      rw [show 28 + (q - 28) = q by omega] at this
      rw [this]; exact eJ_ne
theorem sur0_ne {ad : Nat → Nat} {σ : xF} (h : sur0 ad σ) {q : Nat} (hq : 3 ≤ q ∧ q ≤ 7) : σ q ≠ fNo := by
  obtain ⟨h1, h2, h3, h4, h5⟩ := h
  have : q = 3 ∨ q = 4 ∨ q = 5 ∨ q = 6 ∨ q = 7 := by omega
  rcases this with e | e | e | e | e
  · rw [e, h1]; exact eO_ne (by decide)
  · rw [e, h2]; exact eO_ne (by decide)
  · rw [e, h3]; exact eO_ne (by decide)
  · rw [e, h4]; exact eO_ne (by decide)
  · rw [e, h5]; exact eO_ne (by decide)
theorem pTre_ne {G : xG} {ad : Nat → Nat} {σ : xF} {t sz : Nat} (ht : t ≤ 1) {T : Nat → Nat → Int} {ch : Nat → Option Nat} (h : pTre G ad σ t sz T ch) {q : Nat} (hq : q = 8 + t ∨ q = 18 + t ∨ (76 + 141 * t ≤ q ∧ q < 217 + 141 * t)) : σ q ≠ fNo := by
  obtain ⟨a1, a2, a3⟩ := h
  rcases hq with e | e | e
  · rw [e, a1]; exact eO_ne (by decide)
  · rw [e, a2]; exact eR_ne
  · obtain ⟨n, hn⟩ : ∃ n, n = (q - (76 + 141 * t)) / 3 := ⟨_, rfl⟩
    have hn47 : n < 47 := by omega
    obtain ⟨b0, b1, b2⟩ := a3 n hn47
    have : q = 76 + 141 * t + 3 * n ∨ q = 76 + 141 * t + 3 * n + 1 ∨ q = 76 + 141 * t + 3 * n + 2 := by omega
    rcases this with e | e | e
    · rw [e, b0]; exact eO_ne (by decide)
    · rw [e, b1]; exact eO_ne (by decide)
    · rw [e, b2]; exact eO_ne (by decide)
theorem pPru_ne {G : xG} {ad : Nat → Nat} {σ : xF} {ps : Nat} {lc ws al be : Nat → Int} (h : pPru G ad σ ps lc ws al be) {q : Nat} (hq : q = 10 ∨ (20 ≤ q ∧ q ≤ 23) ∨ (52 ≤ q ∧ q ≤ 75)) : σ q ≠ fNo := by
  obtain ⟨a1, a2, a3, a4, ⟨x, y, a5⟩, a6⟩ := h
  rcases hq with e | e | e
  · rw [e, a1]; exact eO_ne (by decide)
  · have : q = 20 ∨ q = 21 ∨ q = 22 ∨ q = 23 := by omega
    rcases this with e | e | e | e
    · rw [e, a2]; exact eR_ne
    · rw [e, a3]; exact eJ_ne
    · rw [e, a4]; exact eJ_ne
    · rw [e, a5]; exact eO_ne (by decide)
  · have := a6 (q - 52) (by omega)
    rw [show 52 + (q - 52) = q by omega] at this
    rw [this]; exact eO_ne (by decide)
