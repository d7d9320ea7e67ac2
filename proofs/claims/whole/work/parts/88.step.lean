/-! EACH METHOD over the law's invariant; by program -/
theorem s_nodes {G : xG} {ad : Nat → Nat} (hj : adOk ad 400) {σ : xF} {n : Nat} {val : Nat → Nat → Int} {cl so : Nat → Nat} {de le wo : Nat} (h : lwC G ad σ (n, val, cl, so, de, le, wo)) : ∀ l, gI l G fZ ad 400 y_Bs_nodes (.code y_Bs_nodes c_Bs_nodes 1 (some (.int))) rm_Bs_nodes [.ref (ad 0)] σ (cPo G ad σ (qA (n, val, cl, so, de, le, wo) ((((cTr so (mC n cl) (mK n val) (mLf n val so) le de wo (2 ^ n - 1)).1 : Nat) : Int)))) := fun l => by
  obtain ⟨⟨hD, ⟨hl1, hl2⟩, hde, hwo⟩, cg, lo, ak, sz, T, ch, ps, lc, ws, al, be, hI, hcg, hlo⟩ := h
  refine gI_mono (m_Bs_nodes hj hI (bTab_of hD) hl2 hwo hde hcg   l) (fun z σ' hp => ?_)
  obtain ⟨sz2, T2, ch2, ps2, lc2, ws2, al2, be2, i1, i2, i3, i4⟩ := hp
  have hc := blt_can hde hD.1 hD.2.2.1 hl1 i2
  exact ⟨_, ⟨rfl, i4.trans (by rw [hc.1])⟩, ⟨⟨hD, ⟨hl1, hl2⟩, hde, hwo⟩, 0, lo, ak, sz2, T2, ch2, ps2, lc2, ws2, al2, be2, i1, Or.inr ⟨rfl, i2⟩, hlo⟩, i3⟩
theorem r_nodes {G : xG} {ad : Nat → Nat} (hj : adOk ad 400) {σ : xF} {n : Nat} {val : Nat → Nat → Int} {cl so : Nat → Nat} {de le wo : Nat} (h : lwM G ad σ (n, val, cl, so, de, le, wo)) : ∀ l, gI l G fZ ad 400 y_Mo_nodes (.code y_Mo_nodes c_Mo_nodes 1 (some (.int))) rm_Mo_nodes [.ref (ad 358)] σ (mPo G ad σ (qA (n, val, cl, so, de, le, wo) ((((cTr so (mC n cl) (mK n val) (mLf n val so) le de wo (2 ^ n - 1)).1 : Nat) : Int)))) := fun l => by
  obtain ⟨⟨hD, ⟨hl1, hl2⟩, hde, hwo⟩, S, Q, hM, hQ, hbt⟩ := h
  refine gI_mono (m_Mo_nodes hj hM hD hQ hl2 hl1 hde hwo hbt  l) (fun z σ' hp => ?_)
  obtain ⟨Sv, Qv, i1, i2, i3, i4, i5, i6⟩ := hp
  exact ⟨_, ⟨rfl, i6⟩, ⟨⟨hD, ⟨hl1, hl2⟩, hde, hwo⟩, Sv, Qv, i1, i2, Or.inr ⟨i3, i4⟩⟩, i5⟩
theorem s_node {G : xG} {ad : Nat → Nat} (hj : adOk ad 400) {σ : xF} {n : Nat} {val : Nat → Nat → Int} {cl so : Nat → Nat} {de le wo : Nat} (k : Int) (wh : Int) (h_k : ir k) (h_wh : ir wh) (h : lwC G ad σ (n, val, cl, so, de, le, wo)) : ∀ l, gI l G fZ ad 400 y_Bs_node (.code y_Bs_node c_Bs_node 4 (some (.int))) rm_Bs_node [.ref (ad 0), .int (iv (k)), .int (iv (wh))] σ (cPo G ad σ (qA (n, val, cl, so, de, le, wo) (aNode (cTr so (mC n cl) (mK n val) (mLf n val so) le de wo (2 ^ n - 1)).1 (cTr so (mC n cl) (mK n val) (mLf n val so) le de wo (2 ^ n - 1)).2.1 (cTr so (mC n cl) (mK n val) (mLf n val so) le de wo (2 ^ n - 1)).2.2 k wh))) := fun l => by
  obtain ⟨⟨hD, ⟨hl1, hl2⟩, hde, hwo⟩, cg, lo, ak, sz, T, ch, ps, lc, ws, al, be, hI, hcg, hlo⟩ := h
  refine gI_mono (m_Bs_node hj hI (bTab_of hD) hl2 hwo hde hcg (bQ_of hde hD.1 hD.2.2.1 hl1) k wh h_k h_wh l) (fun z σ' hp => ?_)
  obtain ⟨sz2, T2, ch2, ps2, lc2, ws2, al2, be2, i1, i2, i3, i4⟩ := hp
  have hc := blt_can hde hD.1 hD.2.2.1 hl1 i2
  exact ⟨_, ⟨rfl, i4.trans (an_node hc k wh)⟩, ⟨⟨hD, ⟨hl1, hl2⟩, hde, hwo⟩, 0, lo, ak, sz2, T2, ch2, ps2, lc2, ws2, al2, be2, i1, Or.inr ⟨rfl, i2⟩, hlo⟩, i3⟩
theorem r_node {G : xG} {ad : Nat → Nat} (hj : adOk ad 400) {σ : xF} {n : Nat} {val : Nat → Nat → Int} {cl so : Nat → Nat} {de le wo : Nat} (k : Int) (wh : Int) (h_k : ir k) (h_wh : ir wh) (h : lwM G ad σ (n, val, cl, so, de, le, wo)) : ∀ l, gI l G fZ ad 400 y_Mo_node (.code y_Mo_node c_Mo_node 3 (some (.int))) rm_Mo_node [.ref (ad 358), .int (iv (k)), .int (iv (wh))] σ (mPo G ad σ (qA (n, val, cl, so, de, le, wo) (aNode (cTr so (mC n cl) (mK n val) (mLf n val so) le de wo (2 ^ n - 1)).1 (cTr so (mC n cl) (mK n val) (mLf n val so) le de wo (2 ^ n - 1)).2.1 (cTr so (mC n cl) (mK n val) (mLf n val so) le de wo (2 ^ n - 1)).2.2 k wh))) := fun l => by
  obtain ⟨⟨hD, ⟨hl1, hl2⟩, hde, hwo⟩, S, Q, hM, hQ, hbt⟩ := h
  refine gI_mono (m_Mo_node hj hM hD hQ hl2 hl1 hde hwo hbt k wh h_k h_wh l) (fun z σ' hp => ?_)
  obtain ⟨Sv, Qv, i1, i2, i3, i4, i5, i6⟩ := hp
  exact ⟨_, ⟨rfl, i6⟩, ⟨⟨hD, ⟨hl1, hl2⟩, hde, hwo⟩, Sv, Qv, i1, i2, Or.inr ⟨i3, i4⟩⟩, i5⟩
theorem s_count {G : xG} {ad : Nat → Nat} (hj : adOk ad 400) {σ : xF} {n : Nat} {val : Nat → Nat → Int} {cl so : Nat → Nat} {de le wo : Nat} (k : Int) (c : Int) (h_k : ir k) (h_c : ir c) (h : lwC G ad σ (n, val, cl, so, de, le, wo)) : ∀ l, gI l G fZ ad 400 y_Bs_count (.code y_Bs_count c_Bs_count 4 (some (.int))) rm_Bs_count [.ref (ad 0), .int (iv (k)), .int (iv (c))] σ (cPo G ad σ (qA (n, val, cl, so, de, le, wo) (aCount (mC n cl) (cTr so (mC n cl) (mK n val) (mLf n val so) le de wo (2 ^ n - 1)).1 (cTr so (mC n cl) (mK n val) (mLf n val so) le de wo (2 ^ n - 1)).2.1 k c))) := fun l => by
  obtain ⟨⟨hD, ⟨hl1, hl2⟩, hde, hwo⟩, cg, lo, ak, sz, T, ch, ps, lc, ws, al, be, hI, hcg, hlo⟩ := h
  refine gI_mono (m_Bs_count hj hI (bTab_of hD) hl2 hwo hde hcg (bQ_of hde hD.1 hD.2.2.1 hl1) k c h_k h_c l) (fun z σ' hp => ?_)
  obtain ⟨sz2, T2, ch2, ps2, lc2, ws2, al2, be2, i1, i2, i3, i4⟩ := hp
  have hc := blt_can hde hD.1 hD.2.2.1 hl1 i2
  exact ⟨_, ⟨rfl, i4.trans (an_count hc _ k c)⟩, ⟨⟨hD, ⟨hl1, hl2⟩, hde, hwo⟩, 0, lo, ak, sz2, T2, ch2, ps2, lc2, ws2, al2, be2, i1, Or.inr ⟨rfl, i2⟩, hlo⟩, i3⟩
theorem r_count {G : xG} {ad : Nat → Nat} (hj : adOk ad 400) {σ : xF} {n : Nat} {val : Nat → Nat → Int} {cl so : Nat → Nat} {de le wo : Nat} (k : Int) (c : Int) (h_k : ir k) (h_c : ir c) (h : lwM G ad σ (n, val, cl, so, de, le, wo)) : ∀ l, gI l G fZ ad 400 y_Mo_count (.code y_Mo_count c_Mo_count 3 (some (.int))) rm_Mo_count [.ref (ad 358), .int (iv (k)), .int (iv (c))] σ (mPo G ad σ (qA (n, val, cl, so, de, le, wo) (aCount (mC n cl) (cTr so (mC n cl) (mK n val) (mLf n val so) le de wo (2 ^ n - 1)).1 (cTr so (mC n cl) (mK n val) (mLf n val so) le de wo (2 ^ n - 1)).2.1 k c))) := fun l => by
  obtain ⟨⟨hD, ⟨hl1, hl2⟩, hde, hwo⟩, S, Q, hM, hQ, hbt⟩ := h
  refine gI_mono (m_Mo_count hj hM hD hQ hl2 hl1 hde hwo hbt k c h_k h_c l) (fun z σ' hp => ?_)
  obtain ⟨Sv, Qv, i1, i2, i3, i4, i5, i6⟩ := hp
  exact ⟨_, ⟨rfl, i6⟩, ⟨⟨hD, ⟨hl1, hl2⟩, hde, hwo⟩, Sv, Qv, i1, i2, Or.inr ⟨i3, i4⟩⟩, i5⟩
theorem s_gain {G : xG} {ad : Nat → Nat} (hj : adOk ad 400) {σ : xF} {n : Nat} {val : Nat → Nat → Int} {cl so : Nat → Nat} {de le wo : Nat} (k : Int) (p : Int) (h_k : ir k) (h_p : ir p) (h : lwC G ad σ (n, val, cl, so, de, le, wo)) : ∀ l, gI l G fZ ad 400 y_Bs_gain (.code y_Bs_gain c_Bs_gain 4 (some (.int))) rm_Bs_gain [.ref (ad 0), .int (iv (k)), .int (iv (p))] σ (cPo G ad σ (qA (n, val, cl, so, de, le, wo) (aGain (cTr so (mC n cl) (mK n val) (mLf n val so) le de wo (2 ^ n - 1)).1 (cTr so (mC n cl) (mK n val) (mLf n val so) le de wo (2 ^ n - 1)).2.1 (cTr so (mC n cl) (mK n val) (mLf n val so) le de wo (2 ^ n - 1)).2.2 k p))) := fun l => by
  obtain ⟨⟨hD, ⟨hl1, hl2⟩, hde, hwo⟩, cg, lo, ak, sz, T, ch, ps, lc, ws, al, be, hI, hcg, hlo⟩ := h
  refine gI_mono (m_Bs_gain hj hI (bTab_of hD) hl2 hwo hde hcg (bQ_of hde hD.1 hD.2.2.1 hl1) k p h_k h_p l) (fun z σ' hp => ?_)
  obtain ⟨sz2, T2, ch2, ps2, lc2, ws2, al2, be2, i1, i2, i3, i4⟩ := hp
  have hc := blt_can hde hD.1 hD.2.2.1 hl1 i2
  exact ⟨_, ⟨rfl, i4.trans (an_gain hc k p)⟩, ⟨⟨hD, ⟨hl1, hl2⟩, hde, hwo⟩, 0, lo, ak, sz2, T2, ch2, ps2, lc2, ws2, al2, be2, i1, Or.inr ⟨rfl, i2⟩, hlo⟩, i3⟩
theorem r_gain {G : xG} {ad : Nat → Nat} (hj : adOk ad 400) {σ : xF} {n : Nat} {val : Nat → Nat → Int} {cl so : Nat → Nat} {de le wo : Nat} (k : Int) (p : Int) (h_k : ir k) (h_p : ir p) (h : lwM G ad σ (n, val, cl, so, de, le, wo)) : ∀ l, gI l G fZ ad 400 y_Mo_gain (.code y_Mo_gain c_Mo_gain 3 (some (.int))) rm_Mo_gain [.ref (ad 358), .int (iv (k)), .int (iv (p))] σ (mPo G ad σ (qA (n, val, cl, so, de, le, wo) (aGain (cTr so (mC n cl) (mK n val) (mLf n val so) le de wo (2 ^ n - 1)).1 (cTr so (mC n cl) (mK n val) (mLf n val so) le de wo (2 ^ n - 1)).2.1 (cTr so (mC n cl) (mK n val) (mLf n val so) le de wo (2 ^ n - 1)).2.2 k p))) := fun l => by
  obtain ⟨⟨hD, ⟨hl1, hl2⟩, hde, hwo⟩, S, Q, hM, hQ, hbt⟩ := h
  refine gI_mono (m_Mo_gain hj hM hD hQ hl2 hl1 hde hwo hbt k p h_k h_p l) (fun z σ' hp => ?_)
  obtain ⟨Sv, Qv, i1, i2, i3, i4, i5, i6⟩ := hp
  exact ⟨_, ⟨rfl, i6⟩, ⟨⟨hD, ⟨hl1, hl2⟩, hde, hwo⟩, Sv, Qv, i1, i2, Or.inr ⟨i3, i4⟩⟩, i5⟩
theorem s_stages {G : xG} {ad : Nat → Nat} (hj : adOk ad 400) {σ : xF} {n : Nat} {val : Nat → Nat → Int} {cl so : Nat → Nat} {de le wo : Nat} (h : lwC G ad σ (n, val, cl, so, de, le, wo)) : ∀ l, gI l G fZ ad 400 y_Bs_stages (.code y_Bs_stages c_Bs_stages 1 (some (.int))) rm_Bs_stages [.ref (ad 0)] σ (cPo G ad σ (qE (n, val, cl, so, de, le, wo) (cTr so (mC n cl) (mK n val) (mLf n val so) le de wo (2 ^ n - 1)) (fun E => (E : Int)))) := fun l => by
  obtain ⟨⟨hD, ⟨hl1, hl2⟩, hde, hwo⟩, cg, lo, ak, sz, T, ch, ps, lc, ws, al, be, hI, hcg, hlo⟩ := h
  refine gI_mono (m_Bs_stages hj hI (bTab_of hD) hl2 hwo hde hcg   l) (fun z σ' hp => ?_)
  obtain ⟨sz2, T2, ch2, ps2, lc2, ws2, al2, be2, i1, i2, i3, i4⟩ := hp
  have hc := blt_can hde hD.1 hD.2.2.1 hl1 i2
  exact ⟨_, ⟨rfl, ⟨ps2, hc.2.2.1, i4⟩⟩, ⟨⟨hD, ⟨hl1, hl2⟩, hde, hwo⟩, 0, lo, ak, sz2, T2, ch2, ps2, lc2, ws2, al2, be2, i1, Or.inr ⟨rfl, i2⟩, hlo⟩, i3⟩
theorem r_stages {G : xG} {ad : Nat → Nat} (hj : adOk ad 400) {σ : xF} {n : Nat} {val : Nat → Nat → Int} {cl so : Nat → Nat} {de le wo : Nat} (h : lwM G ad σ (n, val, cl, so, de, le, wo)) : ∀ l, gI l G fZ ad 400 y_Mo_stages (.code y_Mo_stages c_Mo_stages 1 (some (.int))) rm_Mo_stages [.ref (ad 358)] σ (mPo G ad σ (qE (n, val, cl, so, de, le, wo) (cTr so (mC n cl) (mK n val) (mLf n val so) le de wo (2 ^ n - 1)) (fun E => (E : Int)))) := fun l => by
  obtain ⟨⟨hD, ⟨hl1, hl2⟩, hde, hwo⟩, S, Q, hM, hQ, hbt⟩ := h
  refine gI_mono (m_Mo_stages hj hM hD hQ hl2 hl1 hde hwo hbt  l) (fun z σ' hp => ?_)
  obtain ⟨Sv, Qv, i1, i2, i3, i4, i5, i6⟩ := hp
  exact ⟨_, ⟨rfl, i6⟩, ⟨⟨hD, ⟨hl1, hl2⟩, hde, hwo⟩, Sv, Qv, i1, i2, Or.inr ⟨i3, i4⟩⟩, i5⟩
theorem s_alpha {G : xG} {ad : Nat → Nat} (hj : adOk ad 400) {σ : xF} {n : Nat} {val : Nat → Nat → Int} {cl so : Nat → Nat} {de le wo : Nat} (st : Int) (p : Int) (h_st : ir st) (h_p : ir p) (h : lwC G ad σ (n, val, cl, so, de, le, wo)) : ∀ l, gI l G fZ ad 400 y_Bs_alpha (.code y_Bs_alpha c_Bs_alpha 3 (some (.int))) rm_Bs_alpha [.ref (ad 0), .int (iv (st)), .int (iv (p))] σ (cPo G ad σ (qE (n, val, cl, so, de, le, wo) (cTr so (mC n cl) (mK n val) (mLf n val so) le de wo (2 ^ n - 1)) (fun E => aAlpha E (cAl (cTr so (mC n cl) (mK n val) (mLf n val so) le de wo (2 ^ n - 1))) (cBe (cTr so (mC n cl) (mK n val) (mLf n val so) le de wo (2 ^ n - 1))) st p))) := fun l => by
  obtain ⟨⟨hD, ⟨hl1, hl2⟩, hde, hwo⟩, cg, lo, ak, sz, T, ch, ps, lc, ws, al, be, hI, hcg, hlo⟩ := h
  refine gI_mono (m_Bs_alpha hj hI (bTab_of hD) hl2 hwo hde hcg (bQ_of hde hD.1 hD.2.2.1 hl1) st p h_st h_p l) (fun z σ' hp => ?_)
  obtain ⟨sz2, T2, ch2, ps2, lc2, ws2, al2, be2, i1, i2, i3, i4⟩ := hp
  have hc := blt_can hde hD.1 hD.2.2.1 hl1 i2
  exact ⟨_, ⟨rfl, ⟨ps2, hc.2.2.1, i4.trans (an_alpha hc st p)⟩⟩, ⟨⟨hD, ⟨hl1, hl2⟩, hde, hwo⟩, 0, lo, ak, sz2, T2, ch2, ps2, lc2, ws2, al2, be2, i1, Or.inr ⟨rfl, i2⟩, hlo⟩, i3⟩
theorem r_alpha {G : xG} {ad : Nat → Nat} (hj : adOk ad 400) {σ : xF} {n : Nat} {val : Nat → Nat → Int} {cl so : Nat → Nat} {de le wo : Nat} (st : Int) (p : Int) (h_st : ir st) (h_p : ir p) (h : lwM G ad σ (n, val, cl, so, de, le, wo)) : ∀ l, gI l G fZ ad 400 y_Mo_alpha (.code y_Mo_alpha c_Mo_alpha 3 (some (.int))) rm_Mo_alpha [.ref (ad 358), .int (iv (st)), .int (iv (p))] σ (mPo G ad σ (qE (n, val, cl, so, de, le, wo) (cTr so (mC n cl) (mK n val) (mLf n val so) le de wo (2 ^ n - 1)) (fun E => aAlpha E (cAl (cTr so (mC n cl) (mK n val) (mLf n val so) le de wo (2 ^ n - 1))) (cBe (cTr so (mC n cl) (mK n val) (mLf n val so) le de wo (2 ^ n - 1))) st p))) := fun l => by
  obtain ⟨⟨hD, ⟨hl1, hl2⟩, hde, hwo⟩, S, Q, hM, hQ, hbt⟩ := h
  refine gI_mono (m_Mo_alpha hj hM hD hQ hl2 hl1 hde hwo hbt st p h_st h_p l) (fun z σ' hp => ?_)
  obtain ⟨Sv, Qv, i1, i2, i3, i4, i5, i6⟩ := hp
  exact ⟨_, ⟨rfl, i6⟩, ⟨⟨hD, ⟨hl1, hl2⟩, hde, hwo⟩, Sv, Qv, i1, i2, Or.inr ⟨i3, i4⟩⟩, i5⟩
theorem s_leaves {G : xG} {ad : Nat → Nat} (hj : adOk ad 400) {σ : xF} {n : Nat} {val : Nat → Nat → Int} {cl so : Nat → Nat} {de le wo : Nat} (st : Int) (h_st : ir st) (h : lwC G ad σ (n, val, cl, so, de, le, wo)) : ∀ l, gI l G fZ ad 400 y_Bs_leaves (.code y_Bs_leaves c_Bs_leaves 2 (some (.int))) rm_Bs_leaves [.ref (ad 0), .int (iv (st))] σ (cPo G ad σ (qE (n, val, cl, so, de, le, wo) (cTr so (mC n cl) (mK n val) (mLf n val so) le de wo (2 ^ n - 1)) (fun E => aStg E (fun j => yU (cTr so (mC n cl) (mK n val) (mLf n val so) le de wo (2 ^ n - 1)).2.2 (cTr so (mC n cl) (mK n val) (mLf n val so) le de wo (2 ^ n - 1)).1 (cTr so (mC n cl) (mK n val) (mLf n val so) le de wo (2 ^ n - 1)).2.1 j 0 10) st))) := fun l => by
  obtain ⟨⟨hD, ⟨hl1, hl2⟩, hde, hwo⟩, cg, lo, ak, sz, T, ch, ps, lc, ws, al, be, hI, hcg, hlo⟩ := h
  refine gI_mono (m_Bs_leaves hj hI (bTab_of hD) hl2 hwo hde hcg (bQ_of hde hD.1 hD.2.2.1 hl1) st h_st l) (fun z σ' hp => ?_)
  obtain ⟨sz2, T2, ch2, ps2, lc2, ws2, al2, be2, i1, i2, i3, i4⟩ := hp
  have hc := blt_can hde hD.1 hD.2.2.1 hl1 i2
  exact ⟨_, ⟨rfl, ⟨ps2, hc.2.2.1, i4.trans (an_lc hc st)⟩⟩, ⟨⟨hD, ⟨hl1, hl2⟩, hde, hwo⟩, 0, lo, ak, sz2, T2, ch2, ps2, lc2, ws2, al2, be2, i1, Or.inr ⟨rfl, i2⟩, hlo⟩, i3⟩
theorem r_leaves {G : xG} {ad : Nat → Nat} (hj : adOk ad 400) {σ : xF} {n : Nat} {val : Nat → Nat → Int} {cl so : Nat → Nat} {de le wo : Nat} (st : Int) (h_st : ir st) (h : lwM G ad σ (n, val, cl, so, de, le, wo)) : ∀ l, gI l G fZ ad 400 y_Mo_leaves (.code y_Mo_leaves c_Mo_leaves 2 (some (.int))) rm_Mo_leaves [.ref (ad 358), .int (iv (st))] σ (mPo G ad σ (qE (n, val, cl, so, de, le, wo) (cTr so (mC n cl) (mK n val) (mLf n val so) le de wo (2 ^ n - 1)) (fun E => aStg E (fun j => yU (cTr so (mC n cl) (mK n val) (mLf n val so) le de wo (2 ^ n - 1)).2.2 (cTr so (mC n cl) (mK n val) (mLf n val so) le de wo (2 ^ n - 1)).1 (cTr so (mC n cl) (mK n val) (mLf n val so) le de wo (2 ^ n - 1)).2.1 j 0 10) st))) := fun l => by
  obtain ⟨⟨hD, ⟨hl1, hl2⟩, hde, hwo⟩, S, Q, hM, hQ, hbt⟩ := h
  refine gI_mono (m_Mo_leaves hj hM hD hQ hl2 hl1 hde hwo hbt st h_st l) (fun z σ' hp => ?_)
  obtain ⟨Sv, Qv, i1, i2, i3, i4, i5, i6⟩ := hp
  exact ⟨_, ⟨rfl, i6⟩, ⟨⟨hD, ⟨hl1, hl2⟩, hde, hwo⟩, Sv, Qv, i1, i2, Or.inr ⟨i3, i4⟩⟩, i5⟩
theorem s_wrong {G : xG} {ad : Nat → Nat} (hj : adOk ad 400) {σ : xF} {n : Nat} {val : Nat → Nat → Int} {cl so : Nat → Nat} {de le wo : Nat} (st : Int) (h_st : ir st) (h : lwC G ad σ (n, val, cl, so, de, le, wo)) : ∀ l, gI l G fZ ad 400 y_Bs_wrong (.code y_Bs_wrong c_Bs_wrong 2 (some (.int))) rm_Bs_wrong [.ref (ad 0), .int (iv (st))] σ (cPo G ad σ (qE (n, val, cl, so, de, le, wo) (cTr so (mC n cl) (mK n val) (mLf n val so) le de wo (2 ^ n - 1)) (fun E => aStg E (fun j => yU (cTr so (mC n cl) (mK n val) (mLf n val so) le de wo (2 ^ n - 1)).2.2 (cTr so (mC n cl) (mK n val) (mLf n val so) le de wo (2 ^ n - 1)).1 (cTr so (mC n cl) (mK n val) (mLf n val so) le de wo (2 ^ n - 1)).2.1 j 0 11) st))) := fun l => by
  obtain ⟨⟨hD, ⟨hl1, hl2⟩, hde, hwo⟩, cg, lo, ak, sz, T, ch, ps, lc, ws, al, be, hI, hcg, hlo⟩ := h
  refine gI_mono (m_Bs_wrong hj hI (bTab_of hD) hl2 hwo hde hcg (bQ_of hde hD.1 hD.2.2.1 hl1) st h_st l) (fun z σ' hp => ?_)
  obtain ⟨sz2, T2, ch2, ps2, lc2, ws2, al2, be2, i1, i2, i3, i4⟩ := hp
  have hc := blt_can hde hD.1 hD.2.2.1 hl1 i2
  exact ⟨_, ⟨rfl, ⟨ps2, hc.2.2.1, i4.trans (an_ws hc st)⟩⟩, ⟨⟨hD, ⟨hl1, hl2⟩, hde, hwo⟩, 0, lo, ak, sz2, T2, ch2, ps2, lc2, ws2, al2, be2, i1, Or.inr ⟨rfl, i2⟩, hlo⟩, i3⟩
theorem r_wrong {G : xG} {ad : Nat → Nat} (hj : adOk ad 400) {σ : xF} {n : Nat} {val : Nat → Nat → Int} {cl so : Nat → Nat} {de le wo : Nat} (st : Int) (h_st : ir st) (h : lwM G ad σ (n, val, cl, so, de, le, wo)) : ∀ l, gI l G fZ ad 400 y_Mo_wrong (.code y_Mo_wrong c_Mo_wrong 2 (some (.int))) rm_Mo_wrong [.ref (ad 358), .int (iv (st))] σ (mPo G ad σ (qE (n, val, cl, so, de, le, wo) (cTr so (mC n cl) (mK n val) (mLf n val so) le de wo (2 ^ n - 1)) (fun E => aStg E (fun j => yU (cTr so (mC n cl) (mK n val) (mLf n val so) le de wo (2 ^ n - 1)).2.2 (cTr so (mC n cl) (mK n val) (mLf n val so) le de wo (2 ^ n - 1)).1 (cTr so (mC n cl) (mK n val) (mLf n val so) le de wo (2 ^ n - 1)).2.1 j 0 11) st))) := fun l => by
  obtain ⟨⟨hD, ⟨hl1, hl2⟩, hde, hwo⟩, S, Q, hM, hQ, hbt⟩ := h
  refine gI_mono (m_Mo_wrong hj hM hD hQ hl2 hl1 hde hwo hbt st h_st l) (fun z σ' hp => ?_)
  obtain ⟨Sv, Qv, i1, i2, i3, i4, i5, i6⟩ := hp
  exact ⟨_, ⟨rfl, i6⟩, ⟨⟨hD, ⟨hl1, hl2⟩, hde, hwo⟩, Sv, Qv, i1, i2, Or.inr ⟨i3, i4⟩⟩, i5⟩
theorem s_state {G : xG} {ad : Nat → Nat} (hj : adOk ad 400) {σ : xF} {n : Nat} {val : Nat → Nat → Int} {cl so : Nat → Nat} {de le wo : Nat} (st : Int) (x : Int) (h_st : ir st) (h_x : ir x) (h : lwC G ad σ (n, val, cl, so, de, le, wo)) : ∀ l, gI l G fZ ad 400 y_Bs_state (.code y_Bs_state c_Bs_state 4 (some (.int))) rm_Bs_state [.ref (ad 0), .int (iv (st)), .int (iv (x))] σ (cPo G ad σ (qE (n, val, cl, so, de, le, wo) (cTr so (mC n cl) (mK n val) (mLf n val so) le de wo (2 ^ n - 1)) (fun E => aStateY (cTr so (mC n cl) (mK n val) (mLf n val so) le de wo (2 ^ n - 1)).1 (cTr so (mC n cl) (mK n val) (mLf n val so) le de wo (2 ^ n - 1)).2.1 (cTr so (mC n cl) (mK n val) (mLf n val so) le de wo (2 ^ n - 1)).2.2 E st x))) := fun l => by
  obtain ⟨⟨hD, ⟨hl1, hl2⟩, hde, hwo⟩, cg, lo, ak, sz, T, ch, ps, lc, ws, al, be, hI, hcg, hlo⟩ := h
  refine gI_mono (m_Bs_state hj hI (bTab_of hD) hl2 hwo hde hcg (bQ_of hde hD.1 hD.2.2.1 hl1) st x h_st h_x l) (fun z σ' hp => ?_)
  obtain ⟨sz2, T2, ch2, ps2, lc2, ws2, al2, be2, i1, i2, i3, i4⟩ := hp
  have hc := blt_can hde hD.1 hD.2.2.1 hl1 i2
  exact ⟨_, ⟨rfl, ⟨ps2, hc.2.2.1, i4.trans (an_state hc st x)⟩⟩, ⟨⟨hD, ⟨hl1, hl2⟩, hde, hwo⟩, 0, lo, ak, sz2, T2, ch2, ps2, lc2, ws2, al2, be2, i1, Or.inr ⟨rfl, i2⟩, hlo⟩, i3⟩
theorem r_state {G : xG} {ad : Nat → Nat} (hj : adOk ad 400) {σ : xF} {n : Nat} {val : Nat → Nat → Int} {cl so : Nat → Nat} {de le wo : Nat} (st : Int) (x : Int) (h_st : ir st) (h_x : ir x) (h : lwM G ad σ (n, val, cl, so, de, le, wo)) : ∀ l, gI l G fZ ad 400 y_Mo_state (.code y_Mo_state c_Mo_state 3 (some (.int))) rm_Mo_state [.ref (ad 358), .int (iv (st)), .int (iv (x))] σ (mPo G ad σ (qE (n, val, cl, so, de, le, wo) (cTr so (mC n cl) (mK n val) (mLf n val so) le de wo (2 ^ n - 1)) (fun E => aStateY (cTr so (mC n cl) (mK n val) (mLf n val so) le de wo (2 ^ n - 1)).1 (cTr so (mC n cl) (mK n val) (mLf n val so) le de wo (2 ^ n - 1)).2.1 (cTr so (mC n cl) (mK n val) (mLf n val so) le de wo (2 ^ n - 1)).2.2 E st x))) := fun l => by
  obtain ⟨⟨hD, ⟨hl1, hl2⟩, hde, hwo⟩, S, Q, hM, hQ, hbt⟩ := h
  refine gI_mono (m_Mo_state hj hM hD hQ hl2 hl1 hde hwo hbt st x h_st h_x l) (fun z σ' hp => ?_)
  obtain ⟨Sv, Qv, i1, i2, i3, i4, i5, i6⟩ := hp
  exact ⟨_, ⟨rfl, i6⟩, ⟨⟨hD, ⟨hl1, hl2⟩, hde, hwo⟩, Sv, Qv, i1, i2, Or.inr ⟨i3, i4⟩⟩, i5⟩
theorem s_leaf {G : xG} {ad : Nat → Nat} (hj : adOk ad 400) {σ : xF} {n : Nat} {val : Nat → Nat → Int} {cl so : Nat → Nat} {de le wo : Nat} (a : Int) (b : Int) (c : Int) (d : Int) (h_a : ir a) (h_b : ir b) (h_c : ir c) (h_d : ir d) (h : lwC G ad σ (n, val, cl, so, de, le, wo)) : ∀ l, gI l G fZ ad 400 y_Bs_leaf (.code y_Bs_leaf c_Bs_leaf 5 (some (.int))) rm_Bs_leaf [.ref (ad 0), .int (iv (a)), .int (iv (b)), .int (iv (c)), .int (iv (d))] σ (cPo G ad σ (qA (n, val, cl, so, de, le, wo) (if tks so (a4 a b c d) = true then ((kWh 0 so (a4 a b c d) (cTr so (mC n cl) (mK n val) (mLf n val so) le de wo (2 ^ n - 1)).2.1 (cTr so (mC n cl) (mK n val) (mLf n val so) le de wo (2 ^ n - 1)).2.2 5 0 : Nat) : Int) else -2))) := fun l => by
  obtain ⟨⟨hD, ⟨hl1, hl2⟩, hde, hwo⟩, cg, lo, ak, sz, T, ch, ps, lc, ws, al, be, hI, hcg, hlo⟩ := h
  refine gI_mono (m_Bs_leaf hj hI (bTab_of hD) hl2 hwo hde hcg a b c d h_a h_b h_c h_d l) (fun z σ' hp => ?_)
  rcases hp with ⟨g, e, i1, i3⟩ | ⟨g, sz2, T2, ch2, ps2, lc2, ws2, al2, be2, i1, i2, i3, i4⟩
  · exact ⟨_, ⟨rfl, e.trans (if_neg g).symm⟩, ⟨⟨hD, ⟨hl1, hl2⟩, hde, hwo⟩, cg, lo, _, sz, T, ch, ps, lc, ws, al, be, i1, hcg, hlo⟩, i3⟩
  · have hc := blt_can hde hD.1 hD.2.2.1 hl1 i2
    exact ⟨_, ⟨rfl, (i4.trans (congrArg (fun x : Nat => (x : Int)) (an_wh hc (cTr_g hde hD.1 (Nat.sub_lt (Nat.two_pow_pos n) Nat.one_pos)) so (a4 a b c d)))).trans (if_pos g).symm⟩, ⟨⟨hD, ⟨hl1, hl2⟩, hde, hwo⟩, 0, lo, _, sz2, T2, ch2, ps2, lc2, ws2, al2, be2, i1, Or.inr ⟨rfl, i2⟩, hlo⟩, i3⟩
theorem r_leaf {G : xG} {ad : Nat → Nat} (hj : adOk ad 400) {σ : xF} {n : Nat} {val : Nat → Nat → Int} {cl so : Nat → Nat} {de le wo : Nat} (a : Int) (b : Int) (c : Int) (d : Int) (h_a : ir a) (h_b : ir b) (h_c : ir c) (h_d : ir d) (h : lwM G ad σ (n, val, cl, so, de, le, wo)) : ∀ l, gI l G fZ ad 400 y_Mo_leaf (.code y_Mo_leaf c_Mo_leaf 5 (some (.int))) rm_Mo_leaf [.ref (ad 358), .int (iv (a)), .int (iv (b)), .int (iv (c)), .int (iv (d))] σ (mPo G ad σ (qA (n, val, cl, so, de, le, wo) (if tks so (a4 a b c d) = true then ((kWh 0 so (a4 a b c d) (cTr so (mC n cl) (mK n val) (mLf n val so) le de wo (2 ^ n - 1)).2.1 (cTr so (mC n cl) (mK n val) (mLf n val so) le de wo (2 ^ n - 1)).2.2 5 0 : Nat) : Int) else -2))) := fun l => by
  obtain ⟨⟨hD, ⟨hl1, hl2⟩, hde, hwo⟩, S, Q, hM, hQ, hbt⟩ := h
  refine gI_mono (m_Mo_leaf hj hM hD hQ hl2 hl1 hde hwo hbt a b c d h_a h_b h_c h_d l) (fun z σ' hp => ?_)
  rcases hp with ⟨g, e, i1⟩ | ⟨g, Sv, Qv, i1, i2, i3, i4, i5, i6⟩
  · exact ⟨_, ⟨rfl, e.trans (if_neg g).symm⟩, ⟨⟨hD, ⟨hl1, hl2⟩, hde, hwo⟩, S, Q, i1 ▸ hM, i1 ▸ hQ, hbt⟩, fun i _ => by rw [i1]⟩
  · exact ⟨_, ⟨rfl, i6.trans (if_pos g).symm⟩, ⟨⟨hD, ⟨hl1, hl2⟩, hde, hwo⟩, Sv, Qv, i1, i2, Or.inr ⟨i3, i4⟩⟩, i5⟩
theorem s_leafOf {G : xG} {ad : Nat → Nat} (hj : adOk ad 400) {σ : xF} {n : Nat} {val : Nat → Nat → Int} {cl so : Nat → Nat} {de le wo : Nat} (r : Int) (h_r : ir r) (h : lwC G ad σ (n, val, cl, so, de, le, wo)) : ∀ l, gI l G fZ ad 400 y_Bs_leafOf (.code y_Bs_leafOf c_Bs_leafOf 2 (some (.int))) rm_Bs_leafOf [.ref (ad 0), .int (iv (r))] σ (cPo G ad σ (qA (n, val, cl, so, de, le, wo) (if 0 ≤ r ∧ r < (n : Int) then ((kWh 0 so (val r.toNat) (cTr so (mC n cl) (mK n val) (mLf n val so) le de wo (2 ^ n - 1)).2.1 (cTr so (mC n cl) (mK n val) (mLf n val so) le de wo (2 ^ n - 1)).2.2 5 0 : Nat) : Int) else -1))) := fun l => by
  obtain ⟨⟨hD, ⟨hl1, hl2⟩, hde, hwo⟩, cg, lo, ak, sz, T, ch, ps, lc, ws, al, be, hI, hcg, hlo⟩ := h
  refine gI_mono (m_Bs_leafOf hj hI (bTab_of hD) hl2 hwo hde hcg hD.2.1 r h_r l) (fun z σ' hp => ?_)
  rcases hp with ⟨g, e, i1⟩ | ⟨g, sz2, T2, ch2, ps2, lc2, ws2, al2, be2, i1, i2, i3, i4⟩
  · exact ⟨_, ⟨rfl, e.trans (if_neg g).symm⟩, ⟨⟨hD, ⟨hl1, hl2⟩, hde, hwo⟩, cg, lo, _, sz, T, ch, ps, lc, ws, al, be, i1 ▸ hI, hcg, hlo⟩, fun i _ => by rw [i1]⟩
  · have hc := blt_can hde hD.1 hD.2.2.1 hl1 i2
    exact ⟨_, ⟨rfl, (i4.trans (congrArg (fun x : Nat => (x : Int)) (an_wh hc (cTr_g hde hD.1 (Nat.sub_lt (Nat.two_pow_pos n) Nat.one_pos)) so (val r.toNat)))).trans (if_pos g).symm⟩, ⟨⟨hD, ⟨hl1, hl2⟩, hde, hwo⟩, 0, lo, _, sz2, T2, ch2, ps2, lc2, ws2, al2, be2, i1, Or.inr ⟨rfl, i2⟩, hlo⟩, i3⟩
theorem r_leafOf {G : xG} {ad : Nat → Nat} (hj : adOk ad 400) {σ : xF} {n : Nat} {val : Nat → Nat → Int} {cl so : Nat → Nat} {de le wo : Nat} (r : Int) (h_r : ir r) (h : lwM G ad σ (n, val, cl, so, de, le, wo)) : ∀ l, gI l G fZ ad 400 y_Mo_leafOf (.code y_Mo_leafOf c_Mo_leafOf 2 (some (.int))) rm_Mo_leafOf [.ref (ad 358), .int (iv (r))] σ (mPo G ad σ (qA (n, val, cl, so, de, le, wo) (if 0 ≤ r ∧ r < (n : Int) then ((kWh 0 so (val r.toNat) (cTr so (mC n cl) (mK n val) (mLf n val so) le de wo (2 ^ n - 1)).2.1 (cTr so (mC n cl) (mK n val) (mLf n val so) le de wo (2 ^ n - 1)).2.2 5 0 : Nat) : Int) else -1))) := fun l => by
  obtain ⟨⟨hD, ⟨hl1, hl2⟩, hde, hwo⟩, S, Q, hM, hQ, hbt⟩ := h
  refine gI_mono (m_Mo_leafOf hj hM hD hQ hl2 hl1 hde hwo hbt r h_r l) (fun z σ' hp => ?_)
  rcases hp with ⟨g, e, i1⟩ | ⟨g, Sv, Qv, i1, i2, i3, i4, i5, i6⟩
  · exact ⟨_, ⟨rfl, e.trans (if_neg g).symm⟩, ⟨⟨hD, ⟨hl1, hl2⟩, hde, hwo⟩, S, Q, i1 ▸ hM, i1 ▸ hQ, hbt⟩, fun i _ => by rw [i1]⟩
  · exact ⟨_, ⟨rfl, i6.trans (if_pos g).symm⟩, ⟨⟨hD, ⟨hl1, hl2⟩, hde, hwo⟩, Sv, Qv, i1, i2, Or.inr ⟨i3, i4⟩⟩, i5⟩
theorem s_cuts {G : xG} {ad : Nat → Nat} (hj : adOk ad 400) {σ : xF} {n : Nat} {val : Nat → Nat → Int} {cl so : Nat → Nat} {de le wo : Nat} (h : lwC G ad σ (n, val, cl, so, de, le, wo)) : ∀ l, gI l G fZ ad 400 y_Bs_cuts (.code y_Bs_cuts c_Bs_cuts 1 (some (.int))) rm_Bs_cuts [.ref (ad 0)] σ (cPo G ad σ (qA (n, val, cl, so, de, le, wo) ((((kBest so (mC n cl) (mK n val) (mLf n val so) le (2 ^ n - 1)).1 : Nat) : Int)))) := fun l => by
  obtain ⟨⟨hD, ⟨hl1, hl2⟩, hde, hwo⟩, cg, lo, ak, sz, T, ch, ps, lc, ws, al, be, hI, hcg, hlo⟩ := h
  have hI2 := hI
  obtain ⟨j0, jT, jL, jS, ⟨B0, jO⟩, jR⟩ := hI2
  refine gI_mono (m_Bs_cuts hj jT (bTab_of hD) jS jL hl2 cg lo j0 B0 jO l) (fun z σ' hp => ?_)
  obtain ⟨B, hB, hz, hk⟩ := hp
  exact ⟨_, ⟨rfl, hz.trans (by rw [(kBest_e hB).1])⟩, ⟨⟨hD, ⟨hl1, hl2⟩, hde, hwo⟩, cg, lo, ak, sz, T, ch, ps, lc, ws, al, be, bsP_sur hI hk.1 (lkI_O hk), hcg, hlo⟩, fun i hi => hk.1 i (by omega) (by omega) (by omega) (by omega)⟩
theorem r_cuts {G : xG} {ad : Nat → Nat} (hj : adOk ad 400) {σ : xF} {n : Nat} {val : Nat → Nat → Int} {cl so : Nat → Nat} {de le wo : Nat} (h : lwM G ad σ (n, val, cl, so, de, le, wo)) : ∀ l, gI l G fZ ad 400 y_Mo_cuts (.code y_Mo_cuts c_Mo_cuts 5 (some (.int))) rm_Mo_cuts [.ref (ad 358)] σ (mPo G ad σ (qA (n, val, cl, so, de, le, wo) ((((kBest so (mC n cl) (mK n val) (mLf n val so) le (2 ^ n - 1)).1 : Nat) : Int)))) := fun l => by
  obtain ⟨⟨hD, ⟨hl1, hl2⟩, hde, hwo⟩, S, Q, hM, hQ, hbt⟩ := h
  refine gI_mono (m_Mo_cuts hj hM hD hl2 l) (fun z σ' hp => ?_)
  obtain ⟨Sv, ⟨i1, i2, i3⟩, i6⟩ := hp
  exact ⟨_, ⟨rfl, i6⟩, ⟨⟨hD, ⟨hl1, hl2⟩, hde, hwo⟩, Sv, Q, i1, hQ.oth (fun i a b => i2 i (by omega)), moB_S i3 hbt⟩, fun i hi => i2 i (by omega)⟩
theorem s_cutGain {G : xG} {ad : Nat → Nat} (hj : adOk ad 400) {σ : xF} {n : Nat} {val : Nat → Nat → Int} {cl so : Nat → Nat} {de le wo : Nat} (c : Int) (num : Int) (side : Int) (p : Int) (h_c : ir c) (h_num : ir num) (h_side : ir side) (h_p : ir p) (h : lwC G ad σ (n, val, cl, so, de, le, wo)) : ∀ l, gI l G fZ ad 400 y_Bs_cutGain (.code y_Bs_cutGain c_Bs_cutGain 6 (some (.int))) rm_Bs_cutGain [.ref (ad 0), .int (iv (c)), .int (iv (num)), .int (iv (side)), .int (iv (p))] σ (cPo G ad σ (qA (n, val, cl, so, de, le, wo) (aCutGain so (mC n cl) (mK n val) (mLf n val so) le n c num side p))) := fun l => by
  obtain ⟨⟨hD, ⟨hl1, hl2⟩, hde, hwo⟩, cg, lo, ak, sz, T, ch, ps, lc, ws, al, be, hI, hcg, hlo⟩ := h
  refine gI_mono (m_Bs_cutGain hj hI (bTab_of hD) hl2 hwo hde (fun c num side _ _ _ hm => kGa hl1 hm) c num side p h_c h_num h_side h_p l) (fun z σ' hp => ?_)
  obtain ⟨hz, i1, i3⟩ := hp
  exact ⟨_, ⟨rfl, hz⟩, ⟨⟨hD, ⟨hl1, hl2⟩, hde, hwo⟩, cg, lo, ak, sz, T, ch, ps, lc, ws, al, be, i1, hcg, hlo⟩, i3⟩
theorem r_cutGain {G : xG} {ad : Nat → Nat} (hj : adOk ad 400) {σ : xF} {n : Nat} {val : Nat → Nat → Int} {cl so : Nat → Nat} {de le wo : Nat} (c : Int) (num : Int) (side : Int) (p : Int) (h_c : ir c) (h_num : ir num) (h_side : ir side) (h_p : ir p) (h : lwM G ad σ (n, val, cl, so, de, le, wo)) : ∀ l, gI l G fZ ad 400 y_Mo_cutGain (.code y_Mo_cutGain c_Mo_cutGain 5 (some (.int))) rm_Mo_cutGain [.ref (ad 358), .int (iv (c)), .int (iv (num)), .int (iv (side)), .int (iv (p))] σ (mPo G ad σ (qA (n, val, cl, so, de, le, wo) (aCutGain so (mC n cl) (mK n val) (mLf n val so) le n c num side p))) := fun l => by
  obtain ⟨⟨hD, ⟨hl1, hl2⟩, hde, hwo⟩, S, Q, hM, hQ, hbt⟩ := h
  refine gI_mono (m_Mo_cutGain hj hM hD hl2 (fun c num side _ _ _ hm => kGa hl1 hm) c num side p h_c h_num h_side h_p l) (fun z σ' hp => ?_)
  obtain ⟨i6, Sv, i1, i2, i3⟩ := hp
  exact ⟨_, ⟨rfl, i6⟩, ⟨⟨hD, ⟨hl1, hl2⟩, hde, hwo⟩, Sv, Q, i1, hQ.oth (fun i a b => i2 i (by omega)), moB_S i3 hbt⟩, fun i hi => i2 i (by omega)⟩
theorem s_leftOut {G : xG} {ad : Nat → Nat} (hj : adOk ad 400) {σ : xF} {n : Nat} {val : Nat → Nat → Int} {cl so : Nat → Nat} {de le wo : Nat} (h : lwC G ad σ (n, val, cl, so, de, le, wo)) : ∀ l, gI l G fZ ad 400 y_Bs_leftOut (.code y_Bs_leftOut c_Bs_leftOut 2 (some (.int))) rm_Bs_leftOut [.ref (ad 0)] σ (cPo G ad σ (qA (n, val, cl, so, de, le, wo) (kOut val cl so (mC n cl) (mK n val) (mLf n val so) le de wo n n))) := fun l => by
  obtain ⟨⟨hD, ⟨hl1, hl2⟩, hde, hwo⟩, cg, lo, ak, sz, T, ch, ps, lc, ws, al, be, hI, hcg, hlo⟩ := h
  have hlr : ir lo := by
    rcases hlo with e | e
    · rw [e]; unfold ir; decide
    · rw [e]; have q := kOut_le val cl so (mC n cl) (mK n val) (mLf n val so) le de wo n n; have q2 := hD.1; unfold ir; omega
  refine gI_mono (m_Bs_leftOut hj hI (bTab_of hD) hl2 hwo hde hD.2.1 (fun r T1 ch1 _ h1 h2 => hLr_of hde hD.1 hD.2.2.1 hl1 r T1 ch1 h1 h2) hlo hlr l) (fun z σ' hp => ?_)
  obtain ⟨hz, i1, i3⟩ := hp
  exact ⟨_, ⟨rfl, hz⟩, ⟨⟨hD, ⟨hl1, hl2⟩, hde, hwo⟩, cg, _, ak, sz, T, ch, ps, lc, ws, al, be, i1, hcg, Or.inr rfl⟩, i3⟩
theorem r_leftOut {G : xG} {ad : Nat → Nat} (hj : adOk ad 400) {σ : xF} {n : Nat} {val : Nat → Nat → Int} {cl so : Nat → Nat} {de le wo : Nat} (h : lwM G ad σ (n, val, cl, so, de, le, wo)) : ∀ l, gI l G fZ ad 400 y_Mo_leftOut (.code y_Mo_leftOut c_Mo_leftOut 3 (some (.int))) rm_Mo_leftOut [.ref (ad 358)] σ (mPo G ad σ (qA (n, val, cl, so, de, le, wo) (kOut val cl so (mC n cl) (mK n val) (mLf n val so) le de wo n n))) := fun l => by
  obtain ⟨⟨hD, ⟨hl1, hl2⟩, hde, hwo⟩, S, Q, hM, hQ, hbt⟩ := h
  refine gI_mono (m_Mo_leftOut hj hM hD hQ hl2 hl1 hde hwo l) (fun z σ' hp => ?_)
  obtain ⟨Sv, Qv, i1, i2, i3, i5, i6⟩ := hp
  exact ⟨_, ⟨rfl, i6⟩, ⟨⟨hD, ⟨hl1, hl2⟩, hde, hwo⟩, Sv, Qv, i1, i2, Or.inl i3⟩, i5⟩
theorem s_settings {G : xG} {ad : Nat → Nat} (hj : adOk ad 400) {σ : xF} {n : Nat} {val : Nat → Nat → Int} {cl so : Nat → Nat} {de le wo : Nat} (d : Int) (e : Int) (w : Int) (h_d : ir d) (h_e : ir e) (h_w : ir w) (h : lwC G ad σ (n, val, cl, so, de, le, wo)) : ∀ l, gI l G fZ ad 400 y_Bs_settings (.code y_Bs_settings c_Bs_settings 4 (some (.int))) rm_Bs_settings [.ref (ad 0), .int (iv (d)), .int (iv (e)), .int (iv (w))] σ (cPo G ad σ (qA (if (0 ≤ d ∧ d ≤ 5 ∧ 1 ≤ e ∧ e ≤ 10 ∧ 0 ≤ w ∧ w ≤ 1000) then (n, val, cl, so, d.toNat, e.toNat, w.toNat) else (n, val, cl, so, de, le, wo)) (if (0 ≤ d ∧ d ≤ 5 ∧ 1 ≤ e ∧ e ≤ 10 ∧ 0 ≤ w ∧ w ≤ 1000) then 1 else -2))) := fun l => by
  obtain ⟨⟨hD, ⟨hl1, hl2⟩, hde, hwo⟩, cg, lo, ak, sz, T, ch, ps, lc, ws, al, be, hI, hcg, hlo⟩ := h
  have hI2 := hI
  obtain ⟨j0, jT, jL, jS, jO, ⟨jg, jgi⟩, jR⟩ := hI2
  refine gI_mono (m_Bs_settings hj cg lo j0 de le wo jL d e w h_d h_e h_w l) (fun z σ' hp => ?_)
  rcases hp with ⟨g, hz, i1⟩ | ⟨g, hz, i1⟩
  · have fr : ∀ i, i ≠ 0 → i ≠ 2 → σ' i = σ i := fun i a b => by rw [i1, va_up_ne _ _ a, va_up_ne _ _ b]
    have e2 : pLim σ' d.toNat e.toNat w.toNat := by
      unfold pLim
      rw [i1, va_up_ne _ _ (by decide), va_up_self, Int.toNat_of_nonneg (by omega), Int.toNat_of_nonneg (by omega), Int.toNat_of_nonneg (by omega)]
    refine ⟨(n, val, cl, so, d.toNat, e.toNat, w.toNat), ⟨(if_pos g).symm, hz.trans (if_pos g).symm⟩, ⟨⟨hD, ⟨by omega, by omega⟩, by omega, by omega⟩, 1, -1, ak, sz, T, ch, ps, lc, ws, al, be, bsP_new hI (jT.up (fun i hi => fr i (by omega) (by omega))) (by rw [i1, va_up_self]) e2 ((fr 11 (by decide) (by decide)).trans jg) jgi (fun i a b _ _ _ _ => fr i a b), Or.inl rfl, Or.inl rfl⟩, fun i hi => fr i (by omega) (by omega)⟩
  · exact ⟨(n, val, cl, so, de, le, wo), ⟨(if_neg g).symm, hz.trans (if_neg g).symm⟩, ⟨⟨hD, ⟨hl1, hl2⟩, hde, hwo⟩, cg, lo, ak, sz, T, ch, ps, lc, ws, al, be, i1 ▸ hI, hcg, hlo⟩, fun i _ => by rw [i1]⟩
theorem r_settings {G : xG} {ad : Nat → Nat} (hj : adOk ad 400) {σ : xF} {n : Nat} {val : Nat → Nat → Int} {cl so : Nat → Nat} {de le wo : Nat} (d : Int) (e : Int) (w : Int) (h_d : ir d) (h_e : ir e) (h_w : ir w) (h : lwM G ad σ (n, val, cl, so, de, le, wo)) : ∀ l, gI l G fZ ad 400 y_Mo_settings (.code y_Mo_settings c_Mo_settings 4 (some (.int))) rm_Mo_settings [.ref (ad 358), .int (iv (d)), .int (iv (e)), .int (iv (w))] σ (mPo G ad σ (qA (if (0 ≤ d ∧ d ≤ 5 ∧ 1 ≤ e ∧ e ≤ 10 ∧ 0 ≤ w ∧ w ≤ 1000) then (n, val, cl, so, d.toNat, e.toNat, w.toNat) else (n, val, cl, so, de, le, wo)) (if (0 ≤ d ∧ d ≤ 5 ∧ 1 ≤ e ∧ e ≤ 10 ∧ 0 ≤ w ∧ w ≤ 1000) then 1 else -2))) := fun l => by
  obtain ⟨⟨hD, ⟨hl1, hl2⟩, hde, hwo⟩, S, Q, hM, hQ, hbt⟩ := h
  refine gI_mono (m_Mo_settings hj hM hD d e w h_d h_e h_w l) (fun z σ' hp => ?_)
  rcases hp with ⟨g, hz, i1, i2⟩ | ⟨g, hz, i1⟩
  · exact ⟨(n, val, cl, so, d.toNat, e.toNat, w.toNat), ⟨(if_pos g).symm, hz.trans (if_pos g).symm⟩, ⟨⟨hD, ⟨by omega, by omega⟩, by omega, by omega⟩, _, Q, i1, hQ.oth (fun i a b => i2 i (by omega)), Or.inl (va_up_self _ _ _)⟩, fun i hi => i2 i (by omega)⟩
  · exact ⟨(n, val, cl, so, de, le, wo), ⟨(if_neg g).symm, hz.trans (if_neg g).symm⟩, ⟨⟨hD, ⟨hl1, hl2⟩, hde, hwo⟩, S, Q, i1 ▸ hM, i1 ▸ hQ, hbt⟩, fun i _ => by rw [i1]⟩
theorem s_clear {G : xG} {ad : Nat → Nat} (hj : adOk ad 400) {σ : xF} {n : Nat} {val : Nat → Nat → Int} {cl so : Nat → Nat} {de le wo : Nat} (h : lwC G ad σ (n, val, cl, so, de, le, wo)) : ∀ l, gI l G fZ ad 400 y_Bs_clear (.code y_Bs_clear c_Bs_clear 1 (some (.int))) rm_Bs_clear [.ref (ad 0)] σ (cPo G ad σ (qA (0, val, cl, so, de, le, wo) ((n : Nat) : Int))) := fun l => by
  obtain ⟨⟨hD, ⟨hl1, hl2⟩, hde, hwo⟩, cg, lo, ak, sz, T, ch, ps, lc, ws, al, be, hI, hcg, hlo⟩ := h
  have hI2 := hI
  obtain ⟨j0, jT, jL, jS, jO, ⟨jg, jgi⟩, jR⟩ := hI2
  refine gI_mono (m_Bs_clear hj jT (bTab_of hD) cg lo j0 l) (fun z σ' hp => ?_)
  obtain ⟨t, e0, fr, hz⟩ := hp
  rw [mC_nil hD.2.2.1, mK_nil, mLf_nil] at t
  exact ⟨_, ⟨rfl, hz⟩, ⟨⟨dTab_nil hD, ⟨hl1, hl2⟩, hde, hwo⟩, 1, -1, ak, sz, T, ch, ps, lc, ws, al, be, bsP_new hI t e0 ((fr 2 (by decide) (by decide) (by decide) (by decide) (by decide)).trans jL) ((fr 11 (by decide) (by decide) (by decide) (by decide) (by decide)).trans jg) jgi (fun i a _ _ b c f => fr i a b (by omega) (by omega) (by omega)), Or.inl rfl, Or.inl rfl⟩, fun i hi => fr i (by omega) (by omega) (by omega) (by omega) (by omega)⟩
theorem r_clear {G : xG} {ad : Nat → Nat} (hj : adOk ad 400) {σ : xF} {n : Nat} {val : Nat → Nat → Int} {cl so : Nat → Nat} {de le wo : Nat} (h : lwM G ad σ (n, val, cl, so, de, le, wo)) : ∀ l, gI l G fZ ad 400 y_Mo_clear (.code y_Mo_clear c_Mo_clear 2 (some (.int))) rm_Mo_clear [.ref (ad 358)] σ (mPo G ad σ (qA (0, val, cl, so, de, le, wo) ((n : Nat) : Int))) := fun l => by
  obtain ⟨⟨hD, ⟨hl1, hl2⟩, hde, hwo⟩, S, Q, hM, hQ, hbt⟩ := h
  refine gI_mono (m_Mo_clear hj hM hD l) (fun z σ' hp => ?_)
  obtain ⟨i1, i2, hz⟩ := hp
  exact ⟨_, ⟨rfl, hz⟩, ⟨⟨dTab_nil hD, ⟨hl1, hl2⟩, hde, hwo⟩, _, Q, i1, hQ.oth (fun i a b => i2 i (by omega)), Or.inl (va_up_self _ _ _)⟩, fun i hi => i2 i (by omega)⟩
theorem s_column {G : xG} {ad : Nat → Nat} (hj : adOk ad 400) {σ : xF} {n : Nat} {val : Nat → Nat → Int} {cl so : Nat → Nat} {de le wo : Nat} (c : Int) (s : Int) (h_c : ir c) (h_s : ir s) (h : lwC G ad σ (n, val, cl, so, de, le, wo)) : ∀ l, gI l G fZ ad 400 y_Bs_column (.code y_Bs_column c_Bs_column 3 (some (.int))) rm_Bs_column [.ref (ad 0), .int (iv (c)), .int (iv (s))] σ (cPo G ad σ (qA (if (0 ≤ c ∧ c < 4) then (if (s = 0 ∨ s = 1) then (if 0 < n then (n, val, cl, so, de, le, wo) else (0, val, cl, va_up so c.toNat s.toNat, de, le, wo)) else (n, val, cl, so, de, le, wo)) else (n, val, cl, so, de, le, wo)) (if (0 ≤ c ∧ c < 4) then (if (s = 0 ∨ s = 1) then (if 0 < n then -3 else ((so c.toNat : Nat) : Int)) else -2) else -1))) := fun l => by
  obtain ⟨⟨hD, ⟨hl1, hl2⟩, hde, hwo⟩, cg, lo, ak, sz, T, ch, ps, lc, ws, al, be, hI, hcg, hlo⟩ := h
  have hI2 := hI
  obtain ⟨j0, jT, jL, jS, jO, ⟨jg, jgi⟩, jR⟩ := hI2
  refine gI_mono (m_Bs_column hj jT (bTab_of hD) cg lo j0 c s h_c h_s l) (fun z σ' hp => ?_)
  rcases hp with ⟨g1, hz, i1⟩ | ⟨g1, g2, hz, i1⟩ | ⟨g1, g2, g3, hz, i1⟩ | ⟨g1, g2, g3, t, e0, fr, hz⟩
  · exact ⟨(n, val, cl, so, de, le, wo), ⟨(if_neg g1).symm, hz.trans (if_neg g1).symm⟩, ⟨⟨hD, ⟨hl1, hl2⟩, hde, hwo⟩, cg, lo, ak, sz, T, ch, ps, lc, ws, al, be, i1 ▸ hI, hcg, hlo⟩, fun i _ => by rw [i1]⟩
  · exact ⟨(n, val, cl, so, de, le, wo), ⟨by rw [if_pos g1, if_neg g2], hz.trans (by rw [if_pos g1, if_neg g2])⟩, ⟨⟨hD, ⟨hl1, hl2⟩, hde, hwo⟩, cg, lo, ak, sz, T, ch, ps, lc, ws, al, be, i1 ▸ hI, hcg, hlo⟩, fun i _ => by rw [i1]⟩
  · exact ⟨(n, val, cl, so, de, le, wo), ⟨by rw [if_pos g1, if_pos g2, if_pos g3], hz.trans (by rw [if_pos g1, if_pos g2, if_pos g3])⟩, ⟨⟨hD, ⟨hl1, hl2⟩, hde, hwo⟩, cg, lo, ak, sz, T, ch, ps, lc, ws, al, be, i1 ▸ hI, hcg, hlo⟩, fun i _ => by rw [i1]⟩
  · subst g3
    have g4 : ¬ 0 < 0 := Nat.lt_irrefl 0
    exact ⟨(0, val, cl, va_up so c.toNat s.toNat, de, le, wo), ⟨by rw [if_pos g1, if_pos g2, if_neg g4], hz.trans (by rw [if_pos g1, if_pos g2, if_neg g4])⟩, ⟨⟨dTab_so hD c.toNat (by omega), ⟨hl1, hl2⟩, hde, hwo⟩, 1, -1, ak, sz, T, ch, ps, lc, ws, al, be, bsP_new hI t e0 ((fr 2 (by decide) (by decide)).trans jL) ((fr 11 (by decide) (by decide)).trans jg) jgi (fun i a _ _ b e f => fr i a (by omega)), Or.inl rfl, Or.inl rfl⟩, fun i hi => fr i (by omega) (by omega)⟩
theorem r_column {G : xG} {ad : Nat → Nat} (hj : adOk ad 400) {σ : xF} {n : Nat} {val : Nat → Nat → Int} {cl so : Nat → Nat} {de le wo : Nat} (c : Int) (s : Int) (h_c : ir c) (h_s : ir s) (h : lwM G ad σ (n, val, cl, so, de, le, wo)) : ∀ l, gI l G fZ ad 400 y_Mo_column (.code y_Mo_column c_Mo_column 4 (some (.int))) rm_Mo_column [.ref (ad 358), .int (iv (c)), .int (iv (s))] σ (mPo G ad σ (qA (if (0 ≤ c ∧ c < 4) then (if (s = 0 ∨ s = 1) then (if 0 < n then (n, val, cl, so, de, le, wo) else (0, val, cl, va_up so c.toNat s.toNat, de, le, wo)) else (n, val, cl, so, de, le, wo)) else (n, val, cl, so, de, le, wo)) (if (0 ≤ c ∧ c < 4) then (if (s = 0 ∨ s = 1) then (if 0 < n then -3 else ((so c.toNat : Nat) : Int)) else -2) else -1))) := fun l => by
  obtain ⟨⟨hD, ⟨hl1, hl2⟩, hde, hwo⟩, S, Q, hM, hQ, hbt⟩ := h
  refine gI_mono (m_Mo_column hj hM hD c s h_c h_s l) (fun z σ' hp => ?_)
  rcases hp with ⟨g1, hz, i1⟩ | ⟨g1, g2, hz, i1⟩ | ⟨g1, g2, g3, hz, i1⟩ | ⟨g1, g2, g3, i1, fr, hz⟩
  · exact ⟨(n, val, cl, so, de, le, wo), ⟨(if_neg g1).symm, hz.trans (if_neg g1).symm⟩, ⟨⟨hD, ⟨hl1, hl2⟩, hde, hwo⟩, S, Q, i1 ▸ hM, i1 ▸ hQ, hbt⟩, fun i _ => by rw [i1]⟩
  · exact ⟨(n, val, cl, so, de, le, wo), ⟨by rw [if_pos g1, if_neg g2], hz.trans (by rw [if_pos g1, if_neg g2])⟩, ⟨⟨hD, ⟨hl1, hl2⟩, hde, hwo⟩, S, Q, i1 ▸ hM, i1 ▸ hQ, hbt⟩, fun i _ => by rw [i1]⟩
  · exact ⟨(n, val, cl, so, de, le, wo), ⟨by rw [if_pos g1, if_pos g2, if_pos g3], hz.trans (by rw [if_pos g1, if_pos g2, if_pos g3])⟩, ⟨⟨hD, ⟨hl1, hl2⟩, hde, hwo⟩, S, Q, i1 ▸ hM, i1 ▸ hQ, hbt⟩, fun i _ => by rw [i1]⟩
  · subst g3
    have g4 : ¬ 0 < 0 := Nat.lt_irrefl 0
    exact ⟨(0, val, cl, va_up so c.toNat s.toNat, de, le, wo), ⟨by rw [if_pos g1, if_pos g2, if_neg g4], hz.trans (by rw [if_pos g1, if_pos g2, if_neg g4])⟩, ⟨⟨dTab_so hD c.toNat (by omega), ⟨hl1, hl2⟩, hde, hwo⟩, S, Q, i1, hQ.oth (fun i a b => fr i (by omega)), hbt.imp id (fun q => ⟨q.1, moB_so q.2⟩)⟩, fun i hi => fr i (by omega)⟩
theorem s_row {G : xG} {ad : Nat → Nat} (hj : adOk ad 400) {σ : xF} {n : Nat} {val : Nat → Nat → Int} {cl so : Nat → Nat} {de le wo : Nat} (a : Int) (b : Int) (c : Int) (d : Int) (k : Int) (h_a : ir a) (h_b : ir b) (h_c : ir c) (h_d : ir d) (h_k : ir k) (h : lwC G ad σ (n, val, cl, so, de, le, wo)) : ∀ l, gI l G fZ ad 400 y_Bs_row (.code y_Bs_row c_Bs_row 6 (some (.int))) rm_Bs_row [.ref (ad 0), .int (iv (a)), .int (iv (b)), .int (iv (c)), .int (iv (d)), .int (iv (k))] σ (cPo G ad σ (qA (if (tks so (a4 a b c d) = true ∧ 0 ≤ k ∧ k < 3) then (if n < 24 then (n + 1, va_up val n (adV (a4 a b c d) (val n) 4), va_up cl n k.toNat, so, de, le, wo) else (n, val, cl, so, de, le, wo)) else (n, val, cl, so, de, le, wo)) (if (tks so (a4 a b c d) = true ∧ 0 ≤ k ∧ k < 3) then (if n < 24 then ((n : Nat) : Int) else -4) else -2))) := fun l => by
  obtain ⟨⟨hD, ⟨hl1, hl2⟩, hde, hwo⟩, cg, lo, ak, sz, T, ch, ps, lc, ws, al, be, hI, hcg, hlo⟩ := h
  have hI2 := hI
  obtain ⟨j0, jT, jL, jS, jO, ⟨jg, jgi⟩, jR⟩ := hI2
  refine gI_mono (m_Bs_row hj jT (bTab_of hD) cg lo j0 ak jg jgi a b c d k h_a h_b h_c h_d h_k l) (fun z σ' hp => ?_)
  rw [tks_a4] at hp
  have jir : ∀ q, ir (as4 ak a b c d q) := fun q => as4_ir jgi h_a h_b h_c h_d q
  rcases hp with ⟨g1, hz, i1⟩ | ⟨g1, g2, hz, i1⟩ | ⟨g1, g2, t, e0, e11, fr, hz⟩
  · exact ⟨(n, val, cl, so, de, le, wo), ⟨(if_neg g1).symm, hz.trans (if_neg g1).symm⟩, ⟨⟨hD, ⟨hl1, hl2⟩, hde, hwo⟩, cg, lo, _, sz, T, ch, ps, lc, ws, al, be, bsP_ask hI i1 jir, hcg, hlo⟩, fun i hi => by rw [i1, va_up_ne _ _ (by omega)]⟩
  · have g3 : ¬ n < 24 := Nat.not_lt.mpr g2
    exact ⟨(n, val, cl, so, de, le, wo), ⟨by rw [if_pos g1, if_neg g3], hz.trans (by rw [if_pos g1, if_neg g3])⟩, ⟨⟨hD, ⟨hl1, hl2⟩, hde, hwo⟩, cg, lo, _, sz, T, ch, ps, lc, ws, al, be, bsP_ask hI i1 jir, hcg, hlo⟩, fun i hi => by rw [i1, va_up_ne _ _ (by omega)]⟩
  · have ta : tks so (as4 ak a b c d) = true := g1.1
    rw [mC_add, mK_add n val ta, mLf_add n val ta, adV_e] at t
    exact ⟨(n + 1, va_up val n (adV (a4 a b c d) (val n) 4), va_up cl n k.toNat, so, de, le, wo), ⟨by rw [if_pos g1, if_pos g2], hz.trans (by rw [if_pos g1, if_pos g2])⟩, ⟨⟨dTab_add hD g2 g1.1 (by omega), ⟨hl1, hl2⟩, hde, hwo⟩, 1, -1, _, sz, T, ch, ps, lc, ws, al, be, bsP_new hI t e0 ((fr 2 (by decide) (by decide) (by decide) (by decide) (by decide)).trans jL) e11 jir (fun i q1 _ q2 q3 q4 q5 => fr i q1 q2 q3 q4 q5), Or.inl rfl, Or.inl rfl⟩, fun i hi => fr i (by omega) (by omega) (by omega) (by omega) (by omega)⟩
theorem r_row {G : xG} {ad : Nat → Nat} (hj : adOk ad 400) {σ : xF} {n : Nat} {val : Nat → Nat → Int} {cl so : Nat → Nat} {de le wo : Nat} (a : Int) (b : Int) (c : Int) (d : Int) (k : Int) (h_a : ir a) (h_b : ir b) (h_c : ir c) (h_d : ir d) (h_k : ir k) (h : lwM G ad σ (n, val, cl, so, de, le, wo)) : ∀ l, gI l G fZ ad 400 y_Mo_row (.code y_Mo_row c_Mo_row 6 (some (.int))) rm_Mo_row [.ref (ad 358), .int (iv (a)), .int (iv (b)), .int (iv (c)), .int (iv (d)), .int (iv (k))] σ (mPo G ad σ (qA (if (tks so (a4 a b c d) = true ∧ 0 ≤ k ∧ k < 3) then (if n < 24 then (n + 1, va_up val n (adV (a4 a b c d) (val n) 4), va_up cl n k.toNat, so, de, le, wo) else (n, val, cl, so, de, le, wo)) else (n, val, cl, so, de, le, wo)) (if (tks so (a4 a b c d) = true ∧ 0 ≤ k ∧ k < 3) then (if n < 24 then ((n : Nat) : Int) else -4) else -2))) := fun l => by
  obtain ⟨⟨hD, ⟨hl1, hl2⟩, hde, hwo⟩, S, Q, hM, hQ, hbt⟩ := h
  refine gI_mono (m_Mo_row hj hM hD a b c d k h_a h_b h_c h_d h_k l) (fun z σ' hp => ?_)
  rcases hp with ⟨g1, hz, i1⟩ | ⟨g1, g2, hz, i1⟩ | ⟨g1, g2, i1, fr, hz⟩
  · exact ⟨(n, val, cl, so, de, le, wo), ⟨(if_neg g1).symm, hz.trans (if_neg g1).symm⟩, ⟨⟨hD, ⟨hl1, hl2⟩, hde, hwo⟩, S, Q, i1 ▸ hM, i1 ▸ hQ, hbt⟩, fun i _ => by rw [i1]⟩
  · have g3 : ¬ n < 24 := Nat.not_lt.mpr g2
    exact ⟨(n, val, cl, so, de, le, wo), ⟨by rw [if_pos g1, if_neg g3], hz.trans (by rw [if_pos g1, if_neg g3])⟩, ⟨⟨hD, ⟨hl1, hl2⟩, hde, hwo⟩, S, Q, i1 ▸ hM, i1 ▸ hQ, hbt⟩, fun i _ => by rw [i1]⟩
  · exact ⟨(n + 1, va_up val n (adV (a4 a b c d) (val n) 4), va_up cl n k.toNat, so, de, le, wo), ⟨by rw [if_pos g1, if_pos g2], hz.trans (by rw [if_pos g1, if_pos g2])⟩, ⟨⟨dTab_add hD g2 g1.1 (by omega), ⟨hl1, hl2⟩, hde, hwo⟩, _, Q, i1, hQ.oth (fun i a b => fr i (by omega) (by omega) (by omega)), Or.inl (va_up_self _ _ _)⟩, fun i hi => fr i (by omega) (by omega) (by omega)⟩
