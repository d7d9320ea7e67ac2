/-! PURE FACTS OF GROWING -/
theorem pop_split (a m : Nat) (h : a &&& m = a) : ∀ k, pop k a + pop k (nd m a) = pop k m
  | 0 => rfl
  | k + 1 => by
    have ih := pop_split a m h k
    rw [pop_bit, pop_bit, pop_bit, nd_bit]
    have hb : a.testBit k = (a.testBit k && m.testBit k) := by
      have : (a &&& m).testBit k = a.testBit k := by rw [h]
      rw [Nat.testBit_and] at this
      exact this.symm
    cases h1 : a.testBit k <;> cases h2 : m.testBit k
    · simp; omega
    · simp; omega
    · rw [h1, h2] at hb; cases hb
    · simp; omega
theorem cnt_split {a m : Nat} (h : a &&& m = a) : cnt a + cnt (nd m a) = cnt m := by
  rw [cnt_eq, cnt_eq, cnt_eq]
  exact pop_split a m h 24
theorem kLeft_sub (rK : Nat → Nat) (rL : Nat → Nat → Nat) (rows c num side : Nat) : kLeft rK rL rows c num side &&& rows = kLeft rK rL rows c num side := by
  apply Nat.eq_of_testBit_eq
  intro i
  rw [Nat.testBit_and]
  unfold kLeft
  split
  · rw [Nat.testBit_or, Nat.testBit_and, nd_bit]
    cases rows.testBit i <;> simp
  · rw [Nat.testBit_and]
    cases rows.testBit i <;> simp
theorem sub_and {a m w : Nat} (h : a &&& m = a) : (a &&& w) &&& (m &&& w) = a &&& w := by
  apply Nat.eq_of_testBit_eq
  intro i
  have hb : (a.testBit i && m.testBit i) = a.testBit i := by rw [← Nat.testBit_and, h]
  rw [Nat.testBit_and, Nat.testBit_and, Nat.testBit_and, ← hb]
  cases a.testBit i <;> cases m.testBit i <;> cases w.testBit i <;> rfl
theorem nd_and2 (m a w : Nat) : nd (m &&& w) (a &&& w) = nd m a &&& w := by
  apply Nat.eq_of_testBit_eq
  intro i
  rw [nd_bit, Nat.testBit_and, Nat.testBit_and, Nat.testBit_and, nd_bit]
  cases a.testBit i <;> cases m.testBit i <;> cases w.testBit i <;> rfl
theorem kCnt_split {rC : Nat → Nat} {a m : Nat} (h : a &&& m = a) (k : Nat) : kCnt rC a k + kCnt rC (nd m a) k = kCnt rC m k := by
  unfold kCnt
  rw [← nd_and2]
  exact cnt_split (sub_and h)
theorem kCnt_cnt (rC : Nat → Nat) (m k : Nat) : kCnt rC m k ≤ cnt m := by
  have h : (m &&& rC k) &&& m = m &&& rC k := by
    apply Nat.eq_of_testBit_eq
    intro i
    rw [Nat.testBit_and, Nat.testBit_and]
    cases m.testBit i <;> simp
  have := cnt_split h
  unfold kCnt
  omega
theorem cnt_0 : cnt 0 = 0 := by rw [cnt_eq]; decide +kernel
/-- each row has one class -/
theorem kCnt_3 {n : Nat} {cl : Nat → Nat} (hn : n ≤ 24) (hcl : ∀ r, cl r < 3) {set : Nat} (hs : set < 2 ^ n) : kCnt (mC n cl) set 0 + kCnt (mC n cl) set 1 + kCnt (mC n cl) set 2 = cnt set := by
  have h0 : cnt set = pop n set := cnt_top hn (fun i hi => Nat.testBit_lt_two_pow (Nat.lt_of_lt_of_le hs (Nat.pow_le_pow_right (by decide) hi)))
  rw [h0, cnt_of hn, cnt_of hn, cnt_of hn]
  have key : ∀ r, r ≤ n → pop r (set &&& mC n cl 0) + pop r (set &&& mC n cl 1) + pop r (set &&& mC n cl 2) = pop r set := fun r => by
    induction r with
    | zero => intro _; rfl
    | succ r ih =>
      intro hr
      have := ih (by omega)
      rw [ofC_bit (by omega), ofC_bit (by omega), ofC_bit (by omega), pop_bit r set]
      have h3 := hcl r
      by_cases hb : set.testBit r = true
      · have h : cl r = 0 ∨ cl r = 1 ∨ cl r = 2 := by omega
        rcases h with h | h | h <;> simp [hb, h] <;> omega
      · simp [hb]; omega
  exact key n (Nat.le_refl n)
theorem kLab_max (rC : Nat → Nat) (set k : Nat) (hk : k < 3) : kCnt rC set k ≤ kCnt rC set (kLab rC set) := by
  rcases Nat.lt_or_ge (kCnt rC set 0) (kCnt rC set 1) with h1 | h1
  · rcases Nat.lt_or_ge (kCnt rC set 1) (kCnt rC set 2) with h2 | h2
    · rw [kLab_12 h1 h2]
      match k, hk with
      | 0, _ => omega
      | 1, _ => omega
      | 2, _ => exact Nat.le_refl _
    · rw [kLab_11 h1 h2]
      match k, hk with
      | 0, _ => omega
      | 1, _ => exact Nat.le_refl _
      | 2, _ => exact h2
  · rcases Nat.lt_or_ge (kCnt rC set 0) (kCnt rC set 2) with h2 | h2
    · rw [kLab_02 h1 h2]
      match k, hk with
      | 0, _ => omega
      | 1, _ => omega
      | 2, _ => exact Nat.le_refl _
    · rw [kLab_00 h1 h2]
      match k, hk with
      | 0, _ => exact Nat.le_refl _
      | 1, _ => exact h1
      | 2, _ => exact h2
/-- WRONG of some rows -/
noncomputable def wrI (rC : Nat → Nat) (set : Nat) : Int := ((cnt set : Nat) : Int) - ((kCnt rC set (kLab rC set) : Nat) : Int)
theorem wrI_0 (rC : Nat → Nat) (set : Nat) : 0 ≤ wrI rC set := by
  have := kCnt_cnt rC set (kLab rC set)
  unfold wrI
  omega
theorem wrI_2 {n : Nat} {cl : Nat → Nat} (hn : n ≤ 24) (hcl : ∀ r, cl r < 3) {set : Nat} (hs : set < 2 ^ n) (h : ¬ wrI (mC n cl) set = 0) : 2 ≤ cnt set := by
  have h3 := kCnt_3 hn hcl hs
  have a0 := kLab_max (mC n cl) set 0 (by decide)
  have a1 := kLab_max (mC n cl) set 1 (by decide)
  have a2 := kLab_max (mC n cl) set 2 (by decide)
  have := kCnt_cnt (mC n cl) set (kLab (mC n cl) set)
  unfold wrI at h
  omega
/-- WRONG of some rows is not below that of their parts -/
theorem wrI_split (rC : Nat → Nat) {a m : Nat} (h : a &&& m = a) : wrI rC a + wrI rC (nd m a) ≤ wrI rC m := by
  have h1 := cnt_split h
  have h2 := kCnt_split (rC := rC) h (kLab rC m)
  have h3 := kLab_max rC a (kLab rC m) (kLab_lt rC m)
  have h4 := kLab_max rC (nd m a) (kLab rC m) (kLab_lt rC m)
  unfold wrI
  omega
def sumN (f : Nat → Nat) : Nat → Nat
  | 0 => 0
  | m + 1 => sumN f m + f m
theorem sumN_congr {f g : Nat → Nat} : ∀ m, (∀ x, x < m → f x = g x) → sumN f m = sumN g m
  | 0, _ => rfl
  | m + 1, h => by
    show sumN f m + f m = sumN g m + g m
    rw [sumN_congr m (fun x hx => h x (by omega)), h m (by omega)]
theorem sumN_up {f g : Nat → Nat} {k : Nat} : ∀ m, k < m → (∀ x, x < m → x ≠ k → f x = g x) → sumN f m + g k = sumN g m + f k
  | 0, h, _ => absurd h (Nat.not_lt_zero k)
  | m + 1, h, e => by
    show sumN f m + f m + g k = sumN g m + g m + f k
    by_cases q : k = m
    · subst q
      rw [sumN_congr k (fun x hx => e x (by omega) (by omega))]
      omega
    · have := sumN_up m (by omega) (fun x hx => e x (by omega))
      rw [e m (by omega) (fun q2 => q q2.symm)]
      omega
theorem sumN_ge (f : Nat → Nat) {k : Nat} : ∀ m, k < m → f k ≤ sumN f m
  | 0, h => absurd h (Nat.not_lt_zero k)
  | m + 1, h => by
    show f k ≤ sumN f m + f m
    by_cases q : k = m
    · subst q; omega
    · have := sumN_ge f (k := k) m (by omega); omega
/-! the best, with why it may be -/
def lkR2 (so rC rK : Nat → Nat) (rL : Nat → Nat → Nat) (le rows : Nat) (B : lkB) : Prop := 0 < B.1 → ∃ c num side : Nat, c < 4 ∧ num ≤ 100 ∧ side ≤ 1 ∧ kCan so rK rL rows c num = true ∧ kMay rK rL le rows c num side = true ∧ B.2 = ((c : Int), (num : Int), (side : Int), kAb rC rK rL rows c num side, (kBe rK rL rows c num side : Int))
theorem lkR2_S {so rC rK : Nat → Nat} {rL : Nat → Nat → Nat} {le rows c num side : Nat} {B : lkB} (hc : c < 4) (hn : num ≤ 100) (hs : side ≤ 1) (hk : kCan so rK rL rows c num = true) (h : lkR2 so rC rK rL le rows B) : lkR2 so rC rK rL le rows (lkS rC rK rL le rows c num side B) := by
  unfold lkS
  by_cases h1 : kMay rK rL le rows c num side = true
  · rw [if_pos h1]
    by_cases h2 : B.1 = 0 ∨ B.2.2.2.2.1 * (kBe rK rL rows c num side : Int) < kAb rC rK rL rows c num side * B.2.2.2.2.2
    · rw [if_pos h2]
      exact fun _ => ⟨c, num, side, hc, hn, hs, hk, h1, rfl⟩
    · rw [if_neg h2]
      exact fun _ => h (by omega)
  · rw [if_neg h1]
    exact h
theorem lkR2_1 {so rC rK : Nat → Nat} {rL : Nat → Nat → Nat} {le rows c : Nat} {B : lkB} (hc : c < 4) (h : lkR2 so rC rK rL le rows B) : ∀ k, k ≤ 101 → lkR2 so rC rK rL le rows (lk1 so rC rK rL le rows c k B)
  | 0, _ => h
  | k + 1, hk => by
    have h1 := lkR2_1 (c := c) hc h k (by omega)
    show lkR2 so rC rK rL le rows (lk2 so rC rK rL le rows c k (lk1 so rC rK rL le rows c k B))
    unfold lk2
    by_cases q : kCan so rK rL rows c k = true
    · rw [if_pos q]
      exact lkR2_S hc (by omega) (by decide) q (lkR2_S hc (by omega) (by decide) q h1)
    · rw [if_neg q]; exact h1
theorem lkR2_0 {so rC rK : Nat → Nat} {rL : Nat → Nat → Nat} {le rows : Nat} {B : lkB} (h : lkR2 so rC rK rL le rows B) : ∀ c, c ≤ 4 → lkR2 so rC rK rL le rows (lk0 so rC rK rL le rows c B)
  | 0, _ => h
  | c + 1, hc => lkR2_1 (by omega) (lkR2_0 h c (by omega)) 101 (by decide)
theorem kBest_r (so rC rK : Nat → Nat) (rL : Nat → Nat → Nat) (le rows : Nat) : lkR2 so rC rK rL le rows (kBest so rC rK rL le rows) := lkR2_0 (fun h => absurd h (Nat.lt_irrefl 0)) 4 (by decide)
noncomputable def lfW (s : gS) (x : Nat) : Nat := if s.2.2 x = none then cnt (s.2.1 x 2).toNat - 1 else 0
/-- a parted node, by its cut -/
def cutN (so rC rK : Nat → Nat) (rL : Nat → Nat → Nat) (le wo t : Nat) (s : gS) (x q : Nat) : Prop := ∃ c num side m : Nat, c < 4 ∧ num ≤ 100 ∧ side ≤ 1 ∧ kCan so rK rL (s.2.1 x 2).toNat c num = true ∧ kMay rK rL le (s.2.1 x 2).toNat c num side = true ∧ s.2.1 x 12 = c ∧ s.2.1 x 13 = num ∧ s.2.1 x 14 = side ∧ s.2.1 x 15 = kAb rC rK rL (s.2.1 x 2).toNat c num side ∧ s.2.1 x 16 = ((kBe rK rL (s.2.1 x 2).toNat c num side : Nat) : Int) ∧ (wo : Int) * ((kBe rK rL (s.2.1 x 2).toNat c num side : Nat) : Int) < 100 * kAb rC rK rL (s.2.1 x 2).toNat c num side ∧ q = 76 + 141 * t + 3 * m ∧ x < m ∧ m + 1 < s.1 ∧ s.2.1 m 2 = ((kLeft rK rL (s.2.1 x 2).toNat c num side : Nat) : Int) ∧ s.2.1 (m + 1) 2 = ((nd (s.2.1 x 2).toNat (kLeft rK rL (s.2.1 x 2).toNat c num side) : Nat) : Int)
def nIv (n : Nat) (so rC rK : Nat → Nat) (rL : Nat → Nat → Nat) (le wo t : Nat) (s : gS) (k : Nat) : Prop :=
  (∀ x, x < s.1 → 0 ≤ s.2.1 x 2 ∧ (s.2.1 x 2).toNat < 2 ^ n ∧ s.2.1 x 4 = ((kLab rC (s.2.1 x 2).toNat : Nat) : Int) ∧ s.2.1 x 5 = wrI rC (s.2.1 x 2).toNat) ∧
  s.1 + 2 * sumN (lfW s) s.1 ≤ 47 ∧ (∀ x, k ≤ x → x < s.1 → s.2.2 x = none) ∧ ∀ x q, x < s.1 → s.2.2 x = some q → cutN so rC rK rL le wo t s x q
theorem nIv_start {n : Nat} {so rC rK : Nat → Nat} {rL : Nat → Nat → Nat} {le wo t : Nat} (T0 : Nat → Nat → Int) (ch0 : Nat → Option Nat) {rows : Nat} (hr : rows < 2 ^ n) : nIv n so rC rK rL le wo t (gStart rC T0 ch0 rows) 0 := by
  have e0 : (gStart rC T0 ch0 rows).2.1 0 = fBeg rC (T0 0) rows 0 := va_up_self T0 0 _
  have c0 : (gStart rC T0 ch0 rows).2.2 0 = none := va_up_self ch0 0 none
  have b2 : (gStart rC T0 ch0 rows).2.1 0 2 = (rows : Int) := by rw [e0]; rfl
  have one : ∀ x, x < (gStart rC T0 ch0 rows).1 → x = 0 := fun x hx => by
    have hx : x < 1 := hx
    omega
  refine ⟨fun x hx => ?_, ?_, fun x _ hx => ?_, fun x q hx hq => ?_⟩
  · have e := one x hx
    subst e
    rw [b2, Int.toNat_natCast, e0]
    exact ⟨by omega, hr, rfl, rfl⟩
  · show 1 + 2 * (0 + lfW (gStart rC T0 ch0 rows) 0) ≤ 47
    unfold lfW
    rw [if_pos c0, b2, Int.toNat_natCast]
    have := cnt_le rows
    omega
  · rw [one x hx]; exact c0
  · rw [one x hx, c0] at hq; cases hq
theorem nIv_put {n : Nat} {so rC rK : Nat → Nat} {rL : Nat → Nat → Nat} {le wo t : Nat} (hle : 1 ≤ le) {s : gS} {k : Nat} (h : nIv n so rC rK rL le wo t s k) (hk : k < s.1) (h2 : 2 ≤ cnt (s.2.1 k 2).toNat) {c num side : Nat} (hc : c < 4) (hn : num ≤ 100) (hs : side ≤ 1) (hcan : kCan so rK rL (s.2.1 k 2).toNat c num = true) (hmay : kMay rK rL le (s.2.1 k 2).toNat c num side = true) (hw : (wo : Int) * ((kBe rK rL (s.2.1 k 2).toNat c num side : Nat) : Int) < 100 * kAb rC rK rL (s.2.1 k 2).toNat c num side) (f : Nat) :
    nIv n so rC rK rL le wo t (kPut rC rK rL t s k (f, (c : Int), (num : Int), (side : Int), kAb rC rK rL (s.2.1 k 2).toNat c num side, (kBe rK rL (s.2.1 k 2).toNat c num side : Int))) (k + 1) := by
  obtain ⟨sz, T, ch⟩ := s
  obtain ⟨a1, a2, a3, a4⟩ := h
  have hk : k < sz := hk
  have a1 : ∀ x, x < sz → 0 ≤ T x 2 ∧ (T x 2).toNat < 2 ^ n ∧ T x 4 = ((kLab rC (T x 2).toNat : Nat) : Int) ∧ T x 5 = wrI rC (T x 2).toNat := a1
  have a2 : sz + 2 * sumN (lfW (sz, T, ch)) sz ≤ 47 := a2
  have a3 : ∀ x, k ≤ x → x < sz → ch x = none := a3
  have h2 : 2 ≤ cnt (T k 2).toNat := h2
  obtain ⟨ro, hro⟩ : ∃ ro, ro = (T k 2).toNat := ⟨_, rfl⟩
  have hcan2 : kCan so rK rL ro c num = true := by rw [hro]; exact hcan
  have hmay2 : kMay rK rL le ro c num side = true := by rw [hro]; exact hmay
  have hw2 : (wo : Int) * ((kBe rK rL ro c num side : Nat) : Int) < 100 * kAb rC rK rL ro c num side := by rw [hro]; exact hw
  obtain ⟨lf, hlf⟩ : ∃ lf, lf = kLeft rK rL ro c num side := ⟨_, rfl⟩
  have hsub : lf &&& ro = lf := by rw [hlf]; exact kLeft_sub _ _ _ _ _ _
  have hcs := cnt_split hsub
  obtain ⟨-, m2, m3⟩ := kMay_of hmay2
  rw [← hlf] at m2 m3
  obtain ⟨k0, k1, -, -⟩ := a1 k hk
  rw [← hro] at k1 h2
  have l1 : lf < 2 ^ n := by
    have := @Nat.and_le_right lf ro
    rw [hsub] at this
    omega
  have l2 : nd ro lf < 2 ^ n := Nat.lt_of_le_of_lt (nd_le _ _) k1
  obtain ⟨Bc, hBc⟩ : ∃ Bc : lkB, Bc = (f, (c : Int), (num : Int), (side : Int), kAb rC rK rL ro c num side, (kBe rK rL ro c num side : Int)) := ⟨_, rfl⟩
  have hput : kPut rC rK rL t (sz, T, ch) k (f, (c : Int), (num : Int), (side : Int), kAb rC rK rL (T k 2).toNat c num side, (kBe rK rL (T k 2).toNat c num side : Int)) = (sz + 2, va_up (va_up (va_up T k (fCut (T k) Bc)) sz (fBeg rC (T sz) lf (T k 3 + 1))) (sz + 1) (fBeg rC (T (sz + 1)) (nd ro lf) (T k 3 + 1)), va_up (va_up (va_up ch k (some (76 + 141 * t + 3 * sz))) sz none) (sz + 1) none) := by
    rw [hBc, hlf, hro]
    unfold kPut
    simp only [Int.toNat_natCast]
  show nIv n so rC rK rL le wo t (kPut rC rK rL t (sz, T, ch) k (f, (c : Int), (num : Int), (side : Int), kAb rC rK rL (T k 2).toNat c num side, (kBe rK rL (T k 2).toNat c num side : Int))) (k + 1)
  rw [hput]
  obtain ⟨T2, hT2⟩ : ∃ T2 : Nat → Nat → Int, T2 = va_up (va_up (va_up T k (fCut (T k) Bc)) sz (fBeg rC (T sz) lf (T k 3 + 1))) (sz + 1) (fBeg rC (T (sz + 1)) (nd ro lf) (T k 3 + 1)) := ⟨_, rfl⟩
  obtain ⟨c2, hc2⟩ : ∃ c2 : Nat → Option Nat, c2 = va_up (va_up (va_up ch k (some (76 + 141 * t + 3 * sz))) sz none) (sz + 1) none := ⟨_, rfl⟩
  rw [← hT2, ← hc2]
  have Tr : T2 (sz + 1) = fBeg rC (T (sz + 1)) (nd ro lf) (T k 3 + 1) := by rw [hT2, va_up_self]
  have Tl : T2 sz = fBeg rC (T sz) lf (T k 3 + 1) := by rw [hT2, va_up_ne _ _ (by omega), va_up_self]
  have Tk : T2 k = fCut (T k) Bc := by rw [hT2, va_up_ne _ _ (by omega), va_up_ne _ _ (by omega), va_up_self]
  have To : ∀ x, x < sz → x ≠ k → T2 x = T x := fun x hx hxk => by rw [hT2, va_up_ne _ _ (by omega), va_up_ne _ _ (by omega), va_up_ne _ _ hxk]
  have cr : c2 (sz + 1) = none := by rw [hc2, va_up_self]
  have cl' : c2 sz = none := by rw [hc2, va_up_ne _ _ (by omega), va_up_self]
  have ck : c2 k = some (76 + 141 * t + 3 * sz) := by rw [hc2, va_up_ne _ _ (by omega), va_up_ne _ _ (by omega), va_up_self]
  have co : ∀ x, x < sz → x ≠ k → c2 x = ch x := fun x hx hxk => by rw [hc2, va_up_ne _ _ (by omega), va_up_ne _ _ (by omega), va_up_ne _ _ hxk]
  have Tlo : ∀ x j, x < sz → j < 12 → T2 x j = T x j := fun x j hx hj => by
    by_cases e : x = k
    · subst e; rw [Tk, fCut_lo _ _ _ hj]
    · rw [To x hx e]
  have r2 : T2 (sz + 1) 2 = ((nd ro lf : Nat) : Int) := by rw [Tr]; rfl
  have s2 : T2 sz 2 = ((lf : Nat) : Int) := by rw [Tl]; rfl
  refine ⟨fun x hx => ?_, ?_, fun x h1 hx => ?_, fun x q hx hq => ?_⟩
  · have hx : x < sz + 2 := hx
    show 0 ≤ T2 x 2 ∧ (T2 x 2).toNat < 2 ^ n ∧ T2 x 4 = ((kLab rC (T2 x 2).toNat : Nat) : Int) ∧ T2 x 5 = wrI rC (T2 x 2).toNat
    by_cases e1 : x = sz + 1
    · subst e1
      rw [r2, Int.toNat_natCast, Tr]
      exact ⟨by omega, l2, rfl, rfl⟩
    · by_cases e2 : x = sz
      · subst e2
        rw [s2, Int.toNat_natCast, Tl]
        exact ⟨by omega, l1, rfl, rfl⟩
      · rw [Tlo x 2 (by omega) (by decide), Tlo x 4 (by omega) (by decide), Tlo x 5 (by omega) (by decide)]
        exact a1 x (by omega)
  · show sz + 2 + 2 * (sumN (lfW (sz + 2, T2, c2)) sz + lfW (sz + 2, T2, c2) sz + lfW (sz + 2, T2, c2) (sz + 1)) ≤ 47
    have w1 : lfW (sz + 2, T2, c2) (sz + 1) = cnt (nd ro lf) - 1 := by
      show (if c2 (sz + 1) = none then cnt (T2 (sz + 1) 2).toNat - 1 else 0) = _
      rw [if_pos cr, r2, Int.toNat_natCast]
    have w2 : lfW (sz + 2, T2, c2) sz = cnt lf - 1 := by
      show (if c2 sz = none then cnt (T2 sz 2).toNat - 1 else 0) = _
      rw [if_pos cl', s2, Int.toNat_natCast]
    have w3 : lfW (sz + 2, T2, c2) k = 0 := by
      show (if c2 k = none then cnt (T2 k 2).toNat - 1 else 0) = _
      rw [if_neg (by rw [ck]; exact fun e => by cases e)]
    have w4 : lfW (sz, T, ch) k = cnt ro - 1 := by
      show (if ch k = none then cnt (T k 2).toNat - 1 else 0) = _
      rw [if_pos (a3 k (Nat.le_refl k) hk), hro]
    have w5 := sumN_up (f := lfW (sz + 2, T2, c2)) (g := lfW (sz, T, ch)) sz hk (fun x hx hxk => by
      show (if c2 x = none then cnt (T2 x 2).toNat - 1 else 0) = (if ch x = none then cnt (T x 2).toNat - 1 else 0)
      rw [co x hx hxk, Tlo x 2 hx (by decide)])
    rw [w3, w4] at w5
    rw [w1, w2]
    omega
  · have hx : x < sz + 2 := hx
    show c2 x = none
    by_cases e1 : x = sz + 1
    · rw [e1]; exact cr
    · by_cases e2 : x = sz
      · rw [e2]; exact cl'
      · rw [co x (by omega) (by omega)]
        exact a3 x (by omega) (by omega)
  · have hx : x < sz + 2 := hx
    have hq : c2 x = some q := hq
    have hxs : x < sz := by
      by_cases e1 : x = sz + 1
      · rw [e1, cr] at hq; cases hq
      · by_cases e2 : x = sz
        · rw [e2, cl'] at hq; cases hq
        · omega
    by_cases e3 : x = k
    · subst e3
      rw [ck] at hq
      have hq : q = 76 + 141 * t + 3 * sz := (Option.some.inj hq).symm
      refine ⟨c, num, side, sz, hc, hn, hs, ?_⟩
      show kCan so rK rL (T2 x 2).toNat c num = true ∧ kMay rK rL le (T2 x 2).toNat c num side = true ∧ T2 x 12 = c ∧ T2 x 13 = num ∧ T2 x 14 = side ∧ T2 x 15 = kAb rC rK rL (T2 x 2).toNat c num side ∧ T2 x 16 = ((kBe rK rL (T2 x 2).toNat c num side : Nat) : Int) ∧ (wo : Int) * ((kBe rK rL (T2 x 2).toNat c num side : Nat) : Int) < 100 * kAb rC rK rL (T2 x 2).toNat c num side ∧ q = 76 + 141 * t + 3 * sz ∧ x < sz ∧ sz + 1 < sz + 2 ∧ T2 sz 2 = ((kLeft rK rL (T2 x 2).toNat c num side : Nat) : Int) ∧ T2 (sz + 1) 2 = ((nd (T2 x 2).toNat (kLeft rK rL (T2 x 2).toNat c num side) : Nat) : Int)
      rw [Tlo x 2 hk (by decide), ← hro, ← hlf, r2, s2, Tk, hBc]
      exact ⟨hcan2, hmay2, rfl, rfl, rfl, rfl, rfl, hw2, hq, hk, by omega, rfl, rfl⟩
    · rw [co x hxs e3] at hq
      obtain ⟨c9, n9, s9, m9, z1, z2, z3, z4, z5, z6, z7, z8, z9, z10, z11, z12, z13, z14, z15, z16⟩ := a4 x q hxs hq
      have z14 : m9 + 1 < sz := z14
      refine ⟨c9, n9, s9, m9, z1, z2, z3, ?_⟩
      show kCan so rK rL (T2 x 2).toNat c9 n9 = true ∧ kMay rK rL le (T2 x 2).toNat c9 n9 s9 = true ∧ T2 x 12 = c9 ∧ T2 x 13 = n9 ∧ T2 x 14 = s9 ∧ T2 x 15 = kAb rC rK rL (T2 x 2).toNat c9 n9 s9 ∧ T2 x 16 = ((kBe rK rL (T2 x 2).toNat c9 n9 s9 : Nat) : Int) ∧ (wo : Int) * ((kBe rK rL (T2 x 2).toNat c9 n9 s9 : Nat) : Int) < 100 * kAb rC rK rL (T2 x 2).toNat c9 n9 s9 ∧ q = 76 + 141 * t + 3 * m9 ∧ x < m9 ∧ m9 + 1 < sz + 2 ∧ T2 m9 2 = ((kLeft rK rL (T2 x 2).toNat c9 n9 s9 : Nat) : Int) ∧ T2 (m9 + 1) 2 = ((nd (T2 x 2).toNat (kLeft rK rL (T2 x 2).toNat c9 n9 s9) : Nat) : Int)
      rw [To x hxs e3, Tlo m9 2 (by omega) (by decide), Tlo (m9 + 1) 2 z14 (by decide)]
      exact ⟨z4, z5, z6, z7, z8, z9, z10, z11, z12, z13, by omega, z15, z16⟩
/-- every state of growing is such, and a node that is due has room -/
theorem nIv_itr {n : Nat} {val : Nat → Nat → Int} {cl so : Nat → Nat} {le de wo t : Nat} (hn : n ≤ 24) (hcl : ∀ r, cl r < 3) (hle : 1 ≤ le) {s0 : gS} (h0 : nIv n so (mC n cl) (mK n val) (mLf n val so) le wo t s0 0) : ∀ k, nIv n so (mC n cl) (mK n val) (mLf n val so) le wo t (kItr so (mC n cl) (mK n val) (mLf n val so) le de wo t s0 k) k
  | 0 => h0
  | k + 1 => by
    have h := nIv_itr (de := de) hn hcl hle h0 k
    show nIv n so (mC n cl) (mK n val) (mLf n val so) le wo t (if k < (kItr so (mC n cl) (mK n val) (mLf n val so) le de wo t s0 k).1 then kStp so (mC n cl) (mK n val) (mLf n val so) le de wo t (kItr so (mC n cl) (mK n val) (mLf n val so) le de wo t s0 k) k else kItr so (mC n cl) (mK n val) (mLf n val so) le de wo t s0 k) (k + 1)
    generalize kItr so (mC n cl) (mK n val) (mLf n val so) le de wo t s0 k = s at h ⊢
    have same : nIv n so (mC n cl) (mK n val) (mLf n val so) le wo t s (k + 1) := ⟨h.1, h.2.1, fun x hx => h.2.2.1 x (by omega), h.2.2.2⟩
    by_cases hk : k < s.1
    · rw [if_pos hk]
      unfold kStp
      by_cases hd : kDue so (mC n cl) (mK n val) (mLf n val so) le de wo s k = true
      · rw [if_pos hd]
        obtain ⟨d1, d2, d3⟩ := kDue_of hd
        obtain ⟨x1, x2, -, x5⟩ := h.1 k hk
        have w2 := wrI_2 hn hcl x2 (fun q => d1 (Or.inl (x5.trans q)))
        obtain ⟨c, num, side, hc, hnu, hsd, hcan, hmay, hB⟩ := kBest_r so (mC n cl) (mK n val) (mLf n val so) le (s.2.1 k 2).toNat d2
        have e : kBest so (mC n cl) (mK n val) (mLf n val so) le (s.2.1 k 2).toNat = ((kBest so (mC n cl) (mK n val) (mLf n val so) le (s.2.1 k 2).toNat).1, (c : Int), (num : Int), (side : Int), kAb (mC n cl) (mK n val) (mLf n val so) (s.2.1 k 2).toNat c num side, (kBe (mK n val) (mLf n val so) (s.2.1 k 2).toNat c num side : Int)) := by rw [← hB]
        rw [hB] at d3
        rw [e]
        exact nIv_put hle h hk w2 hc hnu hsd hcan hmay d3 _
      · rw [if_neg hd]; exact same
    · rw [if_neg hk]; exact same
/-- the guard of the class's array never bites -/
theorem room47 {n : Nat} {so : Nat → Nat} {cl : Nat → Nat} {rK : Nat → Nat} {rL : Nat → Nat → Nat} {le wo t : Nat} (hn : n ≤ 24) (hcl : ∀ r, cl r < 3) {s : gS} {k : Nat} (h : nIv n so (mC n cl) rK rL le wo t s k) (hk : k < s.1) (hw : ¬ s.2.1 k 5 = 0) : s.1 + 2 ≤ 47 := by
  obtain ⟨x1, x2, -, x5⟩ := h.1 k hk
  have w2 := wrI_2 hn hcl x2 (fun q => hw (x5.trans q))
  have g := sumN_ge (lfW s) s.1 hk
  have e : lfW s k = cnt (s.2.1 k 2).toNat - 1 := if_pos (h.2.2.1 k (Nat.le_refl k) hk)
  have := h.2.1
  omega
theorem nIv_all {n : Nat} {val : Nat → Nat → Int} {cl so : Nat → Nat} {le de wo t : Nat} (hn : n ≤ 24) (hcl : ∀ r, cl r < 3) (hle : 1 ≤ le) (T0 : Nat → Nat → Int) (ch0 : Nat → Option Nat) {rows : Nat} (hr : rows < 2 ^ n) : nIv n so (mC n cl) (mK n val) (mLf n val so) le wo t (gAll so (mC n cl) (mK n val) (mLf n val so) le de wo t T0 ch0 rows) 47 := nIv_itr hn hcl hle (nIv_start T0 ch0 hr) 47
