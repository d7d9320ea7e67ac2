/-! THE TREE'S FORM -/
def kuI (t : Nat) (s : gS) : Prop := (∀ x y m m2, x < s.1 → y < s.1 → x ≠ y → s.2.2 x = some (76 + 141 * t + 3 * m) → s.2.2 y = some (76 + 141 * t + 3 * m2) → m + 1 < m2 ∨ m2 + 1 < m) ∧ 2 * sumN (fun x => if s.2.2 x = none then 0 else 1) s.1 + 1 = s.1
theorem kuI_start (rC : Nat → Nat) (t : Nat) (T0 : Nat → Nat → Int) (ch0 : Nat → Option Nat) (rows : Nat) : kuI t (gStart rC T0 ch0 rows) := by
  have c0 : (gStart rC T0 ch0 rows).2.2 0 = none := va_up_self ch0 0 none
  refine ⟨fun x y m m2 hx hy hxy => ?_, ?_⟩
  · have hx : x < 1 := hx
    have hy : y < 1 := hy
    omega
  · show 2 * (0 + (if (gStart rC T0 ch0 rows).2.2 0 = none then 0 else 1)) + 1 = 1
    rw [if_pos c0]
theorem kuI_put {rC rK : Nat → Nat} {rL : Nat → Nat → Nat} {t : Nat} {s : gS} {k : Nat} {B : lkB} (h : kuI t s) (hd : dOk t s) (hk : k < s.1) (hn : s.2.2 k = none) : kuI t (kPut rC rK rL t s k B) := by
  obtain ⟨sz, T, ch⟩ := s
  obtain ⟨h1, h2⟩ := h
  have hk : k < sz := hk
  have hn : ch k = none := hn
  have h1 : ∀ x y m m2, x < sz → y < sz → x ≠ y → ch x = some (76 + 141 * t + 3 * m) → ch y = some (76 + 141 * t + 3 * m2) → m + 1 < m2 ∨ m2 + 1 < m := h1
  have h2 : 2 * sumN (fun x => if ch x = none then 0 else 1) sz + 1 = sz := h2
  obtain ⟨c2, hc2⟩ : ∃ c2 : Nat → Option Nat, c2 = va_up (va_up (va_up ch k (some (76 + 141 * t + 3 * sz))) sz none) (sz + 1) none := ⟨_, rfl⟩
  have cr : c2 (sz + 1) = none := by rw [hc2, va_up_self]
  have cl' : c2 sz = none := by rw [hc2, va_up_ne _ _ (by omega), va_up_self]
  have ck : c2 k = some (76 + 141 * t + 3 * sz) := by rw [hc2, va_up_ne _ _ (by omega), va_up_ne _ _ (by omega), va_up_self]
  have co : ∀ x, x < sz → x ≠ k → c2 x = ch x := fun x hx hxk => by rw [hc2, va_up_ne _ _ (by omega), va_up_ne _ _ (by omega), va_up_ne _ _ hxk]
  have hbig : ∀ x q, x < sz + 2 → c2 x = some q → x < sz := fun x q hx hq => by
    by_cases e1 : x = sz + 1
    · rw [e1, cr] at hq; cases hq
    · by_cases e2 : x = sz
      · rw [e2, cl'] at hq; cases hq
      · omega
  have hdd : ∀ x m, x < sz → ch x = some (76 + 141 * t + 3 * m) → m + 1 < sz := fun x m hx hq => by
    obtain ⟨m9, e, -, h9, -⟩ := hd x _ hx hq
    have h9 : m9 + 1 < sz := h9
    omega
  refine ⟨fun x y m m2 hx hy hxy hcx hcy => ?_, ?_⟩
  · have hcx2 : c2 x = some (76 + 141 * t + 3 * m) := by rw [hc2]; exact hcx
    have hcy2 : c2 y = some (76 + 141 * t + 3 * m2) := by rw [hc2]; exact hcy
    have hx2 := hbig x _ hx hcx2
    have hy2 := hbig y _ hy hcy2
    by_cases ex : x = k
    · subst ex
      rw [ck] at hcx2
      have := Option.some.inj hcx2
      rw [co y hy2 (fun q => hxy q.symm)] at hcy2
      have := hdd y m2 hy2 hcy2
      omega
    · rw [co x hx2 ex] at hcx2
      by_cases ey : y = k
      · subst ey
        rw [ck] at hcy2
        have := Option.some.inj hcy2
        have := hdd x m hx2 hcx2
        omega
      · rw [co y hy2 ey] at hcy2
        exact h1 x y m m2 hx2 hy2 hxy hcx2 hcy2
  · have e : (kPut rC rK rL t (sz, T, ch) k B).2.2 = c2 := by rw [hc2]; rfl
    show 2 * (sumN (fun x => if (kPut rC rK rL t (sz, T, ch) k B).2.2 x = none then 0 else 1) sz + (if (kPut rC rK rL t (sz, T, ch) k B).2.2 sz = none then 0 else 1) + (if (kPut rC rK rL t (sz, T, ch) k B).2.2 (sz + 1) = none then 0 else 1)) + 1 = sz + 2
    rw [e, if_pos cl', if_pos cr]
    have w := sumN_up (f := fun x => if c2 x = none then 0 else 1) (g := fun x => if ch x = none then 0 else 1) sz hk (fun x hx hxk => by
      show (if c2 x = none then 0 else 1) = (if ch x = none then 0 else 1)
      rw [co x hx hxk])
    have w : sumN (fun x => if c2 x = none then 0 else 1) sz + (if ch k = none then 0 else 1) = sumN (fun x => if ch x = none then 0 else 1) sz + (if c2 k = none then 0 else 1) := w
    rw [if_pos hn, if_neg (by rw [ck]; exact fun e => by cases e)] at w
    omega
theorem kuI_itr {n : Nat} {val : Nat → Nat → Int} {cl so : Nat → Nat} {le de wo t : Nat} (hde : de ≤ 5) (hn : n ≤ 24) (hcl : ∀ r, cl r < 3) (hle : 1 ≤ le) {s0 : gS} (h0 : nIv n so (mC n cl) (mK n val) (mLf n val so) le wo t s0 0) (hg : gInv t s0) (hu : kuI t s0) : ∀ k, kuI t (kItr so (mC n cl) (mK n val) (mLf n val so) le de wo t s0 k)
  | 0 => hu
  | k + 1 => by
    have ih := kuI_itr hde hn hcl hle h0 hg hu k
    have g := gInv_itr (so := so) (rC := mC n cl) (rK := mK n val) (rL := mLf n val so) (le := le) (de := de) (wo := wo) hde hg k
    have ni := nIv_itr (de := de) hn hcl hle h0 k
    show kuI t (if k < (kItr so (mC n cl) (mK n val) (mLf n val so) le de wo t s0 k).1 then kStp so (mC n cl) (mK n val) (mLf n val so) le de wo t (kItr so (mC n cl) (mK n val) (mLf n val so) le de wo t s0 k) k else kItr so (mC n cl) (mK n val) (mLf n val so) le de wo t s0 k)
    generalize kItr so (mC n cl) (mK n val) (mLf n val so) le de wo t s0 k = s at ih g ni ⊢
    by_cases hk : k < s.1
    · rw [if_pos hk]
      unfold kStp
      split
      · exact kuI_put ih g.2.2.2 hk (ni.2.2.1 k (Nat.le_refl k) hk)
      · exact ih
    · rw [if_neg hk]; exact ih
theorem trO_all {n : Nat} {val : Nat → Nat → Int} {cl so : Nat → Nat} {le de wo : Nat} (hde : de ≤ 5) (hn : n ≤ 24) (hcl : ∀ r, cl r < 3) (hle : 1 ≤ le) {T0 : Nat → Nat → Int} {ch0 : Nat → Option Nat} (h1 : tOk T0) (h2 : chOk 0 ch0) {rows : Nat} (hr : rows < 2 ^ n) {s : gS} (hs : s = gAll so (mC n cl) (mK n val) (mLf n val so) le de wo 0 T0 ch0 rows) : trO s.1 s.2.1 s.2.2 := by
  have hr24 : rows < 16777216 := Nat.lt_of_lt_of_le hr (Nat.pow_le_pow_right (by decide) hn : 2 ^ n ≤ 2 ^ 24)
  have g : gInv 0 s := by rw [hs]; exact gInv_all hde h1 h2 hr24
  have ni : nIv n so (mC n cl) (mK n val) (mLf n val so) le wo 0 s 47 := by rw [hs]; exact nIv_all hn hcl hle T0 ch0 hr
  have ku : kuI 0 s := by rw [hs]; exact kuI_itr hde hn hcl hle (nIv_start T0 ch0 hr) (gInv_start h1 h2 hr24) (kuI_start (mC n cl) 0 T0 ch0 rows) 47
  refine ⟨⟨g.1.1, g.1.2.1⟩, fun x q hx hq => ?_, fun x m hx hc => ?_, fun x hx => ?_, ku.1, ku.2⟩
  · obtain ⟨m, a1, a2, a3, -⟩ := g.2.2.2 x q hx hq
    exact ⟨m, a1, a2, a3⟩
  · obtain ⟨c, num, side, m9, -, -, -, -, -, -, -, -, -, -, -, e, hxm, hm, e1, e2⟩ := ni.2.2.2 x _ hx hc
    have em : m9 = m := by omega
    subst em
    rw [(ni.1 m9 (by omega)).2.2.2, (ni.1 (m9 + 1) hm).2.2.2, (ni.1 x hx).2.2.2, e1, e2, Int.toNat_natCast, Int.toNat_natCast]
    exact wrI_split (mC n cl) (kLeft_sub _ _ _ _ _ _)
  · rw [(ni.1 x hx).2.2.2]
    exact wrI_0 _ _
/-- the reference's arrays hold the tree of all rows and its stages -/
def moB (so rC rK : Nat → Nat) (rL : Nat → Nat → Nat) (le de wo n : Nat) (S : Nat → Int) (Q : Nat → Nat → Int) : Prop := ∃ s : gS, s = cTr so rC rK rL le de wo (2 ^ n - 1) ∧ S 15 = (s.1 : Int) ∧ moG Q s ∧ ∃ k : Nat, S 26 = ((k + 1 : Nat) : Int) ∧ isE s.1 s.2.1 s.2.2 (k + 1) ∧ (∀ j x : Nat, j ≤ k → x < s.1 → Q 372 (64 * j + x) = stF (yT s.2.2 s.1 s.2.1 j) (j : Int) x) ∧ (Q 373 0 = 0 ∧ Q 374 0 = 1 ∧ ∀ j : Nat, j < k → Q 373 (j + 1) = (yA s.2.2 s.1 s.2.1 j).1 ∧ Q 374 (j + 1) = (yA s.2.2 s.1 s.2.1 j).2)
def tZ : Nat → Nat → Int := fun _ _ => 0
def cZ : Nat → Option Nat := fun _ => none
theorem tZ_ok : tOk tZ := fun n _ => ⟨0, 0, 0, by decide, by decide, by decide, rfl, rfl, rfl⟩
theorem cZ_ok : chOk 0 cZ := fun n q _ h => by cases h
theorem cTr_eq (so rC rK : Nat → Nat) (rL : Nat → Nat → Nat) (le de wo rows : Nat) : gAll so rC rK rL le de wo 0 tZ cZ rows = cTr so rC rK rL le de wo rows := rfl
theorem cTr_g {n : Nat} {cl so : Nat → Nat} {val : Nat → Nat → Int} {le de wo : Nat} (hde : de ≤ 5) (hn : n ≤ 24) {rows : Nat} (hr : rows < 2 ^ n) : gInv 0 (cTr so (mC n cl) (mK n val) (mLf n val so) le de wo rows) := gInv_all hde tZ_ok cZ_ok (Nat.lt_of_lt_of_le hr (Nat.pow_le_pow_right (by decide) hn : 2 ^ n ≤ 2 ^ 24))
theorem cTr_n {n : Nat} {cl so : Nat → Nat} {val : Nat → Nat → Int} {le de wo : Nat} (hn : n ≤ 24) (hcl : ∀ r, cl r < 3) (hle : 1 ≤ le) {rows : Nat} (hr : rows < 2 ^ n) : nIv n so (mC n cl) (mK n val) (mLf n val so) le wo 0 (cTr so (mC n cl) (mK n val) (mLf n val so) le de wo rows) 47 := nIv_all hn hcl hle tZ cZ hr
theorem cTr_t {n : Nat} {cl so : Nat → Nat} {val : Nat → Nat → Int} {le de wo : Nat} (hde : de ≤ 5) (hn : n ≤ 24) (hcl : ∀ r, cl r < 3) (hle : 1 ≤ le) {rows : Nat} (hr : rows < 2 ^ n) {s : gS} (hs : s = cTr so (mC n cl) (mK n val) (mLf n val so) le de wo rows) : trO s.1 s.2.1 s.2.2 := trO_all hde hn hcl hle tZ_ok cZ_ok hr hs
/-! kAb is a sum of squares -/
theorem sq_id (L R l r : Int) : L * L * r * (l + r) + R * R * l * (l + r) - (L + R) * (L + R) * l * r = (L * r - R * l) * (L * r - R * l) := by
  simp only [Int.mul_add, Int.add_mul, Int.mul_sub, Int.sub_mul]
  have e1 : L * L * r * l = L * L * l * r := Int.mul_right_comm _ _ _
  have e2 : R * R * l * r = R * R * r * l := Int.mul_right_comm _ _ _
  have a1 : L * r * (L * r) = L * L * r * r := by rw [Int.mul_assoc, Int.mul_assoc, Int.mul_assoc, Int.mul_left_comm r L r]
  have a2 : R * l * (R * l) = R * R * l * l := by rw [Int.mul_assoc, Int.mul_assoc, Int.mul_assoc, Int.mul_left_comm l R l]
  have a3 : L * r * (R * l) = L * R * l * r := by rw [Int.mul_assoc, Int.mul_assoc, Int.mul_assoc, Int.mul_left_comm r R l, Int.mul_comm r l]
  have a4 : R * l * (L * r) = L * R * l * r := by rw [Int.mul_assoc, Int.mul_left_comm l L r, ← Int.mul_assoc, Int.mul_comm R L, ← Int.mul_assoc]
  have a5 : R * L * l * r = L * R * l * r := by rw [Int.mul_comm R L]
  rw [a1, a2, a3, a4, a5, e1, e2]
  omega
theorem sqn (a : Int) : 0 ≤ a * a := by
  rcases Int.le_total 0 a with h | h
  · exact Int.mul_nonneg h h
  · exact Int.mul_nonneg_of_nonpos_of_nonpos h h
theorem kAb_0 (rC rK : Nat → Nat) (rL : Nat → Nat → Nat) (rows c num side : Nat) : 0 ≤ kAb rC rK rL rows c num side := by
  obtain ⟨lf, hlf⟩ : ∃ lf, lf = kLeft rK rL rows c num side := ⟨_, rfl⟩
  have hsub : lf &&& rows = lf := by rw [hlf]; exact kLeft_sub _ _ _ _ _ _
  obtain ⟨rr, hrr⟩ : ∃ rr, rr = nd rows lf := ⟨_, rfl⟩
  have s0 := kCnt_split (rC := rC) hsub 0
  have s1 := kCnt_split (rC := rC) hsub 1
  have s2 := kCnt_split (rC := rC) hsub 2
  rw [← hrr] at s0 s1 s2
  have q0 := sq_id (kCnt rC lf 0) (kCnt rC rr 0) (cnt lf) (cnt rr)
  have q1 := sq_id (kCnt rC lf 1) (kCnt rC rr 1) (cnt lf) (cnt rr)
  have q2 := sq_id (kCnt rC lf 2) (kCnt rC rr 2) (cnt lf) (cnt rr)
  have p0 : 0 ≤ ((kCnt rC lf 0 : Int) * (cnt rr : Int) - (kCnt rC rr 0 : Int) * (cnt lf : Int)) * ((kCnt rC lf 0 : Int) * (cnt rr : Int) - (kCnt rC rr 0 : Int) * (cnt lf : Int)) := sqn _
  have p1 : 0 ≤ ((kCnt rC lf 1 : Int) * (cnt rr : Int) - (kCnt rC rr 1 : Int) * (cnt lf : Int)) * ((kCnt rC lf 1 : Int) * (cnt rr : Int) - (kCnt rC rr 1 : Int) * (cnt lf : Int)) := sqn _
  have p2 : 0 ≤ ((kCnt rC lf 2 : Int) * (cnt rr : Int) - (kCnt rC rr 2 : Int) * (cnt lf : Int)) * ((kCnt rC lf 2 : Int) * (cnt rr : Int) - (kCnt rC rr 2 : Int) * (cnt lf : Int)) := sqn _
  unfold kAb
  rw [← hlf, ← hrr]
  unfold kSq
  rw [← s0, ← s1, ← s2]
  simp only [Int.natCast_add, Int.natCast_mul, Int.add_mul] at q0 q1 q2 p0 p1 p2 ⊢
  omega
theorem kBe_0 {rK : Nat → Nat} {rL : Nat → Nat → Nat} {le rows c num side : Nat} (hle : 1 ≤ le) (h : kMay rK rL le rows c num side = true) : 0 < kBe rK rL rows c num side := by
  obtain ⟨-, h1, h2⟩ := kMay_of h
  unfold kBe
  exact Nat.mul_pos (Nat.mul_pos (by omega) (by omega)) (by omega)
theorem kGa {rC rK : Nat → Nat} {rL : Nat → Nat → Nat} {le rows c num side : Nat} (hle : 1 ≤ le) (h : kMay rK rL le rows c num side = true) : (0 ≤ kAb rC rK rL rows c num side ∧ kAb rC rK rL rows c num side < 2147483648) ∧ 0 < kBe rK rL rows c num side ∧ kBe rK rL rows c num side < 2147483648 := by
  have h1 := kAb_ir rC rK rL rows c num side
  have h2 := kBe_le rK rL rows c num side
  unfold ir at h1
  exact ⟨⟨kAb_0 _ _ _ _ _ _ _, by omega⟩, kBe_0 hle h, by omega⟩
