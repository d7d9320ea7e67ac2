/-! THE CLASS'S STAGES, one by one -/
section RUN
variable {ch : Nat → Option Nat} {sz : Nat} {T0 : Nat → Nat → Int} {lc0 ws0 al0 be0 : Nat → Int}
theorem kStg_run (ht : trO sz T0 ch) : ∀ k, k < 24 → (∀ j : Nat, j < k → stR (yT ch sz T0 j 0) (j : Int) = 0) → ∃ Z : zS, Z = kStg ch sz ((1 : Int), 0, kBg ch sz T0, lc0, ws0, al0, be0) k ∧ Z.1 = 1 ∧ Z.2.1 = k ∧ Z.2.2.1 = yT ch sz T0 k ∧ (∀ j, j < k → Z.2.2.2.1 j = yU ch sz T0 j 0 10 ∧ Z.2.2.2.2.1 j = yU ch sz T0 j 0 11) ∧ (Z.2.2.2.2.2.1 0 = al0 0 ∧ Z.2.2.2.2.2.2 0 = be0 0) ∧ ∀ j, j < k → Z.2.2.2.2.2.1 (j + 1) = (yA ch sz T0 j).1 ∧ Z.2.2.2.2.2.2 (j + 1) = (yA ch sz T0 j).2
  | 0, _, _ => ⟨_, rfl, rfl, rfl, rfl, fun j h => absurd h (Nat.not_lt_zero j), ⟨rfl, rfl⟩, fun j h => absurd h (Nat.not_lt_zero j)⟩
  | k + 1, hk, h => by
    obtain ⟨Z, hZ, z1, z2, z3, z4, z5, z6⟩ := kStg_run ht k (by omega) (fun j hj => h j (by omega))
    obtain ⟨p, ps, T, lc, ws, al, be⟩ := Z
    dsimp only at z1 z2 z3 z4 z5 z6
    subst z1 z2 z3
    have h0 := h ps (by omega)
    obtain ⟨r9, r8⟩ := stR_0 h0
    obtain ⟨U, hU⟩ : ∃ U, U = yU ch sz T0 ps := ⟨_, rfl⟩
    have e8 : U 0 8 = yT ch sz T0 ps 0 8 := by rw [hU]; exact kSum_hi _ _ _ _ _ _ (by decide) _
    have e9 : U 0 9 = yT ch sz T0 ps 0 9 := by rw [hU]; exact kSum_hi _ _ _ _ _ _ (by decide) _
    have hA : (kAl U (ps : Int) sz (1, al (ps + 1), be (ps + 1))).2 = yA ch sz T0 ps := by
      have e := (kAl_e (T := U) (s := (ps : Int)) (al (ps + 1)) (be (ps + 1)) 0 1 sz).2
      rcases e with e | e
      · exfalso
        rcases kAl_m (T := U) (s := (ps : Int)) (A0 := (1, al (ps + 1), be (ps + 1))) rfl sz with ⟨-, -, q⟩ | ⟨q, -⟩
        · exact q 0 (by have := ht.1.1; omega) (by rw [e8, e9]; exact ⟨r9, r8⟩)
        · omega
      · rw [e, hU]; rfl
    have hp : zPar ps (yT ch sz T0 ps) = 1 := by
      unfold zPar
      exact (pI_t ⟨r9, r8⟩).symm
    have hU2 : kSum ch (ps : Int) sz sz (yT ch sz T0 ps) = U := by rw [hU]; rfl
    have hT : yT ch sz T0 (ps + 1) = kCb ch (ps : Int) (yA ch sz T0 ps).1 (yA ch sz T0 ps).2 sz U := by rw [hU]; rfl
    have hstep : zStep ch sz ps ((1 : Int), ps, yT ch sz T0 ps, lc, ws, al, be) = ((1 : Int), ps + 1, yT ch sz T0 (ps + 1), va_up lc ps (U 0 10), va_up ws ps (U 0 11), va_up al (ps + 1) (yA ch sz T0 ps).1, va_up be (ps + 1) (yA ch sz T0 ps).2) := by
      unfold zStep
      dsimp only
      rw [hp, if_pos ⟨rfl, hk⟩, hU2, hA, hT]
    refine ⟨_, rfl, ?_⟩
    have e : kStg ch sz ((1 : Int), 0, kBg ch sz T0, lc0, ws0, al0, be0) (ps + 1) = ((1 : Int), ps + 1, yT ch sz T0 (ps + 1), va_up lc ps (U 0 10), va_up ws ps (U 0 11), va_up al (ps + 1) (yA ch sz T0 ps).1, va_up be (ps + 1) (yA ch sz T0 ps).2) := by
      show (if (kStg ch sz ((1 : Int), 0, kBg ch sz T0, lc0, ws0, al0, be0) ps).1 = 0 then kStg ch sz ((1 : Int), 0, kBg ch sz T0, lc0, ws0, al0, be0) ps else zStep ch sz ps (kStg ch sz ((1 : Int), 0, kBg ch sz T0, lc0, ws0, al0, be0) ps)) = _
      rw [← hZ, if_neg (by show ¬ (1 : Int) = 0; decide), hstep]
    rw [e]
    refine ⟨rfl, rfl, rfl, fun j hj => ?_, ⟨?_, ?_⟩, fun j hj => ?_⟩
    · show va_up lc ps (U 0 10) j = _ ∧ va_up ws ps (U 0 11) j = _
      by_cases q : j = ps
      · subst q; rw [va_up_self, va_up_self, hU]; exact ⟨rfl, rfl⟩
      · rw [va_up_ne _ _ q, va_up_ne _ _ q]; exact z4 j (by omega)
    · show va_up al (ps + 1) (yA ch sz T0 ps).1 0 = _
      rw [va_up_ne _ _ (by omega)]; exact z5.1
    · show va_up be (ps + 1) (yA ch sz T0 ps).2 0 = _
      rw [va_up_ne _ _ (by omega)]; exact z5.2
    · show va_up al (ps + 1) _ (j + 1) = _ ∧ va_up be (ps + 1) _ (j + 1) = _
      by_cases q : j = ps
      · subst q; rw [va_up_self, va_up_self]; exact ⟨rfl, rfl⟩
      · rw [va_up_ne _ _ (by omega), va_up_ne _ _ (by omega)]; exact z6 j (by omega)
theorem kStg_end (ht : trO sz T0 ch) {E : Nat} (hE : isE sz T0 ch E) : ∃ Z : zS, Z = kStg ch sz ((1 : Int), 0, kBg ch sz T0, lc0, ws0, al0, be0) 24 ∧ Z.2.1 = E ∧ Z.2.2.1 = yU ch sz T0 (E - 1) ∧ (∀ j, j < E → Z.2.2.2.1 j = yU ch sz T0 j 0 10 ∧ Z.2.2.2.2.1 j = yU ch sz T0 j 0 11) ∧ (Z.2.2.2.2.2.1 0 = al0 0 ∧ Z.2.2.2.2.2.2 0 = be0 0) ∧ ∀ j, j + 1 < E → Z.2.2.2.2.2.1 (j + 1) = (yA ch sz T0 j).1 ∧ Z.2.2.2.2.2.2 (j + 1) = (yA ch sz T0 j).2 := by
  obtain ⟨hE1, hE2, hE3, hE4⟩ := hE
  obtain ⟨Z, hZ, z1, z2, z3, z4, z5, z6⟩ := kStg_run (lc0 := lc0) (ws0 := ws0) (al0 := al0) (be0 := be0) ht (E - 1) (by omega) (fun j hj => hE3 j (by omega))
  obtain ⟨p, ps, T, lc, ws, al, be⟩ := Z
  dsimp only at z1 z2 z3 z4 z5 z6
  subst z1 z3
  obtain ⟨k, hk⟩ : ∃ k, E = k + 1 := ⟨E - 1, by omega⟩
  subst hk
  have z2' : ps = k := z2
  clear z2
  subst z2'
  have hps : ps + 1 - 1 = ps := rfl
  rw [hps] at hE4 hZ z4 z6 ⊢
  have hp : zPar ps (yT ch sz T0 ps) = 0 := by
    unfold zPar
    exact (pI_f (fun q => hE4 (stR_of q))).symm
  have e : kStg ch sz ((1 : Int), 0, kBg ch sz T0, lc0, ws0, al0, be0) (ps + 1) = ((0 : Int), ps + 1, yU ch sz T0 ps, va_up lc ps (yU ch sz T0 ps 0 10), va_up ws ps (yU ch sz T0 ps 0 11), al, be) := by
    show (if (kStg ch sz ((1 : Int), 0, kBg ch sz T0, lc0, ws0, al0, be0) ps).1 = 0 then kStg ch sz ((1 : Int), 0, kBg ch sz T0, lc0, ws0, al0, be0) ps else zStep ch sz ps (kStg ch sz ((1 : Int), 0, kBg ch sz T0, lc0, ws0, al0, be0) ps)) = _
    rw [← hZ, if_neg (by show ¬ (1 : Int) = 0; decide)]
    unfold zStep
    dsimp only
    rw [hp, if_neg (fun q => by have := q.1; omega)]
    rfl
  have e24 : kStg ch sz ((1 : Int), 0, kBg ch sz T0, lc0, ws0, al0, be0) 24 = ((0 : Int), ps + 1, yU ch sz T0 ps, va_up lc ps (yU ch sz T0 ps 0 10), va_up ws ps (yU ch sz T0 ps 0 11), al, be) := by
    have := kStg_stop (ch := ch) (sz := sz) (Z0 := ((1 : Int), 0, kBg ch sz T0, lc0, ws0, al0, be0)) (k := ps + 1) (by rw [e]) (24 - (ps + 1))
    rw [show ps + 1 + (24 - (ps + 1)) = 24 by omega, e] at this
    exact this
  refine ⟨_, rfl, ?_⟩
  rw [e24]
  refine ⟨rfl, rfl, fun j hj => ?_, z5, fun j hj => z6 j (by omega)⟩
  show va_up lc ps (yU ch sz T0 ps 0 10) j = _ ∧ va_up ws ps (yU ch sz T0 ps 0 11) j = _
  by_cases q : j = ps
  · subst q; rw [va_up_self, va_up_self]; exact ⟨rfl, rfl⟩
  · rw [va_up_ne _ _ q, va_up_ne _ _ q]; exact z4 j (by omega)
end RUN
/-! two trees that are alike have the same stages -/
def rE (F F2 : Nat → Int) : Prop := F 5 = F2 5 ∧ F 8 = F2 8 ∧ F 9 = F2 9 ∧ F 10 = F2 10 ∧ F 11 = F2 11
theorem rE_cb1 {F F2 : Nat → Int} (h : rE F F2) (s a b : Int) : rE (cb1 s a b F) (cb1 s a b F2) := by
  obtain ⟨h5, h8, h9, h10, h11⟩ := h
  unfold cb1
  rw [h5, h8, h9, h10, h11]
  split
  · unfold rE
    rw [va_up_ne _ _ (by decide), va_up_ne _ _ (by decide), va_up_self, va_up_self, va_up_ne _ _ (by decide), va_up_ne _ _ (by decide), va_up_ne _ _ (by decide), va_up_ne _ _ (by decide), va_up_ne _ _ (by decide), va_up_ne _ _ (by decide)]
    exact ⟨h5, rfl, h9, h10, h11⟩
  · exact ⟨h5, h8, h9, h10, h11⟩
theorem rE_min {F F2 : Nat → Int} (h : rE F F2) (s : Int) : rE (fMin F s) (fMin F2 s) := by
  obtain ⟨h5, h8, h9, h10, h11⟩ := h
  unfold rE
  rw [fMin_o _ _ (by decide), fMin_o _ _ (by decide), fMin_o _ _ (by decide), fMin_o _ _ (by decide), fMin_9, fMin_9, fMin_o _ _ (by decide), fMin_o _ _ (by decide), fMin_o _ _ (by decide), fMin_o _ _ (by decide), h9]
  exact ⟨h5, h8, rfl, h10, h11⟩
theorem rE_st {F F2 : Nat → Int} (h : rE F F2) (s : Int) : stR F s = stR F2 s := by
  unfold stR
  rw [h.2.1, h.2.2.1]
section TWO
variable {ch ch2 : Nat → Option Nat} {sz : Nat} {s a b : Int}
theorem kCb_c (hd : ∀ x q, x < sz → ch x = some q → ∃ m, q = 76 + 141 * 0 + 3 * m ∧ x < m ∧ m + 1 < sz) (hch : ∀ x, x < sz → ch x = ch2 x) {U U2 : Nat → Nat → Int} (h : ∀ x, x < sz → rE (U x) (U2 x)) : ∀ n, n ≤ sz → ∀ x, x < sz → rE (kCb ch s a b n U x) (kCb ch2 s a b n U2 x)
  | 0, _, x, hx => h x hx
  | n + 1, hn, x, hx => by
    have ih := kCb_c hd hch h n (by omega)
    show rE (kCb2 ch s n (kCb1 s a b n (kCb ch s a b n U)) x) (kCb2 ch2 s n (kCb1 s a b n (kCb ch2 s a b n U2)) x)
    have i1 : ∀ x, x < sz → rE (kCb1 s a b n (kCb ch s a b n U) x) (kCb1 s a b n (kCb ch2 s a b n U2) x) := fun x hx => by
      by_cases e : x = n
      · subst e; rw [kCb1_x, kCb1_x]; exact rE_cb1 (ih x hx) s a b
      · rw [kCb1_o _ e, kCb1_o _ e]; exact ih x hx
    generalize kCb1 s a b n (kCb ch s a b n U) = V at i1 ⊢
    generalize kCb1 s a b n (kCb ch2 s a b n U2) = V2 at i1 ⊢
    have est := rE_st (i1 n (by omega)) (s + 1)
    by_cases q0 : stR (V n) (s + 1) = 0
    · rw [kCb2_0 q0, kCb2_0 (by rw [← est]; exact q0)]; exact i1 x hx
    · cases hc : ch n with
      | none =>
        have hc2 : ch2 n = none := by rw [← hch n (by omega)]; exact hc
        rw [kCb2_x n V (fun m hm => by rw [hc] at hm; cases hm) (fun q hq => by rw [hc] at hq; cases hq), kCb2_x n V2 (fun m hm => by rw [hc2] at hm; cases hm) (fun q hq => by rw [hc2] at hq; cases hq)]
        exact i1 x hx
      | some q =>
        obtain ⟨m, rfl, -, hm⟩ := hd n q (by omega) hc
        have hc2 : ch2 n = some (76 + 141 * 0 + 3 * m) := by rw [← hch n (by omega)]; exact hc
        obtain ⟨k1, k2⟩ := kCb2_k q0 hc
        obtain ⟨l1, l2⟩ := kCb2_k (by rw [← est]; exact q0) hc2
        by_cases e1 : x = m
        · subst e1; rw [k1, l1]; exact rE_min (i1 x hx) _
        · by_cases e2 : x = m + 1
          · subst e2; rw [k2, l2]; exact rE_min (i1 (m + 1) hx) _
          · rw [kCb2_x n V (fun m2 hm => by rw [hc] at hm; have : m2 = m := (by have := Option.some.inj hm; omega); subst this; exact ⟨e1, e2⟩) (fun q hq => ⟨m, by rw [hc] at hq; exact (Option.some.inj hq).symm⟩), kCb2_x n V2 (fun m2 hm => by rw [hc2] at hm; have : m2 = m := (by have := Option.some.inj hm; omega); subst this; exact ⟨e1, e2⟩) (fun q hq => ⟨m, by rw [hc2] at hq; exact (Option.some.inj hq).symm⟩)]
            exact i1 x hx
theorem kAl_c {U U2 : Nat → Nat → Int} : ∀ n, (∀ x, x < n → rE (U x) (U2 x)) → ∀ A0, kAl U s n A0 = kAl U2 s n A0
  | 0, _, _ => rfl
  | n + 1, h, A0 => by
    show kAlS U s n (kAl U s n A0) = kAlS U2 s n (kAl U2 s n A0)
    rw [kAl_c n (fun x hx => h x (by omega)) A0]
    obtain ⟨h5, h8, h9, h10, h11⟩ := h n (by omega)
    unfold kAlS
    rw [h5, h8, h9, h10, h11]
theorem kSum_c (hd : ∀ x q, x < sz → ch x = some q → ∃ m, q = 76 + 141 * 0 + 3 * m ∧ x < m ∧ m + 1 < sz) (hch : ∀ x, x < sz → ch x = ch2 x) {T T2 : Nat → Nat → Int} (h : ∀ x, x < sz → T x 5 = T2 x 5 ∧ T x 8 = T2 x 8 ∧ T x 9 = T2 x 9) : ∀ j x, sz - 1 - x ≤ j → x < sz → rE (kSum ch s sz sz T x) (kSum ch2 s sz sz T2 x)
  | j, x, hj, hx => by
    obtain ⟨h5, h8, h9⟩ := h x hx
    have a5 : kSum ch s sz sz T x 5 = kSum ch2 s sz sz T2 x 5 := by rw [kSum_hi _ _ _ _ _ _ (by decide), kSum_hi _ _ _ _ _ _ (by decide)]; exact h5
    have a8 : kSum ch s sz sz T x 8 = kSum ch2 s sz sz T2 x 8 := by rw [kSum_hi _ _ _ _ _ _ (by decide), kSum_hi _ _ _ _ _ _ (by decide)]; exact h8
    have a9 : kSum ch s sz sz T x 9 = kSum ch2 s sz sz T2 x 9 := by rw [kSum_hi _ _ _ _ _ _ (by decide), kSum_hi _ _ _ _ _ _ (by decide)]; exact h9
    by_cases g8 : T x 8 ≤ s
    · have g9 : T2 x 8 ≤ s := by rw [← h8]; exact g8
      exact ⟨a5, a8, a9, by rw [(kSum_l hx g8).1, (kSum_l hx g9).1], by rw [(kSum_l hx g8).2, (kSum_l hx g9).2]; exact h5⟩
    · have g9 : ¬ T2 x 8 ≤ s := by rw [← h8]; exact g8
      cases hc : ch x with
      | none =>
        have hc2 : ch2 x = none := by rw [← hch x hx]; exact hc
        exact ⟨a5, a8, a9, by rw [(kSum_n hx hc).1, (kSum_n hx hc2).1], by rw [(kSum_n hx hc).2, (kSum_n hx hc2).2]; exact h5⟩
      | some q =>
        obtain ⟨m, rfl, m2, m3⟩ := hd x q hx hc
        have hc2 : ch2 x = some (76 + 141 * 0 + 3 * m) := by rw [← hch x hx]; exact hc
        match j, hj with
        | 0, hj => omega
        | j + 1, hj =>
          obtain ⟨-, -, -, b10, b11⟩ := kSum_c hd hch h j m (by omega) (by omega)
          obtain ⟨-, -, -, c10, c11⟩ := kSum_c hd hch h j (m + 1) (by omega) m3
          exact ⟨a5, a8, a9, by rw [(kSum_p hx hc m2 m3 g8).1, (kSum_p hx hc2 m2 m3 g9).1, b10, c10], by rw [(kSum_p hx hc m2 m3 g8).2, (kSum_p hx hc2 m2 m3 g9).2, b11, c11]⟩
theorem yT_c (hd : ∀ x q, x < sz → ch x = some q → ∃ m, q = 76 + 141 * 0 + 3 * m ∧ x < m ∧ m + 1 < sz) (hch : ∀ x, x < sz → ch x = ch2 x) {T T2 : Nat → Nat → Int} (h : ∀ x, x < sz → T x 5 = T2 x 5) : ∀ k x, x < sz → yT ch sz T k x 5 = yT ch2 sz T2 k x 5 ∧ yT ch sz T k x 8 = yT ch2 sz T2 k x 8 ∧ yT ch sz T k x 9 = yT ch2 sz T2 k x 9
  | 0, x, hx => by
    show kBg ch sz T x 5 = kBg ch2 sz T2 x 5 ∧ kBg ch sz T x 8 = kBg ch2 sz T2 x 8 ∧ kBg ch sz T x 9 = kBg ch2 sz T2 x 9
    rw [(kBg_at sz hx).1, (kBg_at sz hx).1, (kBg_at sz hx).2, (kBg_at sz hx).2, zEq_bg T ch sz x 5 (by decide) (by decide) (by decide) (by decide), zEq_bg T2 ch2 sz x 5 (by decide) (by decide) (by decide) (by decide), hch x hx]
    exact ⟨h x hx, rfl, rfl⟩
  | k + 1, x, hx => by
    have ih := yT_c hd hch h k
    have hu : ∀ x, x < sz → rE (kSum ch (k : Int) sz sz (yT ch sz T k) x) (kSum ch2 (k : Int) sz sz (yT ch2 sz T2 k) x) := fun x hx => kSum_c hd hch ih (sz - 1 - x) x (Nat.le_refl _) hx
    have ha : kAl (kSum ch (k : Int) sz sz (yT ch sz T k)) (k : Int) sz (1, 0, 1) = kAl (kSum ch2 (k : Int) sz sz (yT ch2 sz T2 k)) (k : Int) sz (1, 0, 1) := kAl_c sz hu _
    have hc := kCb_c (s := (k : Int)) (a := (kAl (kSum ch (k : Int) sz sz (yT ch sz T k)) (k : Int) sz (1, 0, 1)).2.1) (b := (kAl (kSum ch (k : Int) sz sz (yT ch sz T k)) (k : Int) sz (1, 0, 1)).2.2) hd hch hu sz (Nat.le_refl _) x hx
    have e2 : yT ch2 sz T2 (k + 1) = kCb ch2 (k : Int) (kAl (kSum ch (k : Int) sz sz (yT ch sz T k)) (k : Int) sz (1, 0, 1)).2.1 (kAl (kSum ch (k : Int) sz sz (yT ch sz T k)) (k : Int) sz (1, 0, 1)).2.2 sz (kSum ch2 (k : Int) sz sz (yT ch2 sz T2 k)) := by rw [ha]; rfl
    rw [e2]
    exact ⟨hc.1, hc.2.1, hc.2.2.1⟩
theorem yU_c (hd : ∀ x q, x < sz → ch x = some q → ∃ m, q = 76 + 141 * 0 + 3 * m ∧ x < m ∧ m + 1 < sz) (hch : ∀ x, x < sz → ch x = ch2 x) {T T2 : Nat → Nat → Int} (h : ∀ x, x < sz → T x 5 = T2 x 5) (k : Nat) : ∀ x, x < sz → rE (yU ch sz T k x) (yU ch2 sz T2 k x) := fun x hx => kSum_c hd hch (yT_c hd hch h k) (sz - 1 - x) x (Nat.le_refl _) hx
theorem yA_c (hd : ∀ x q, x < sz → ch x = some q → ∃ m, q = 76 + 141 * 0 + 3 * m ∧ x < m ∧ m + 1 < sz) (hch : ∀ x, x < sz → ch x = ch2 x) {T T2 : Nat → Nat → Int} (h : ∀ x, x < sz → T x 5 = T2 x 5) (k : Nat) : yA ch sz T k = yA ch2 sz T2 k := congrArg (fun q => q.2) (kAl_c sz (yU_c hd hch h k) _)
theorem stR_c (hd : ∀ x q, x < sz → ch x = some q → ∃ m, q = 76 + 141 * 0 + 3 * m ∧ x < m ∧ m + 1 < sz) (hch : ∀ x, x < sz → ch x = ch2 x) {T T2 : Nat → Nat → Int} (h : ∀ x, x < sz → T x 5 = T2 x 5) (k : Nat) (j : Int) {x : Nat} (hx : x < sz) : stR (yT ch sz T k x) j = stR (yT ch2 sz T2 k x) j := by
  obtain ⟨-, h8, h9⟩ := yT_c hd hch h k x hx
  unfold stR
  rw [h8, h9]
end TWO
