/-! THE REFERENCE LOOKS FOR THE BEST -/
section FB
variable {n : Nat} {val : Nat → Nat → Int} {cl so : Nat → Nat} {le : Nat} {set c : Nat}
theorem can_lst {num : Nat} {rK : Nat → Nat} {rL : Nat → Nat → Nat} (h : kCan so rK rL set c num = true) : num < lstN (so c) := by
  rcases kCan_or h with ⟨q1, q2, -⟩ | ⟨q1, q2, -⟩
  · rw [lst_k q1]; omega
  · rw [lst_n q1]; omega
theorem can_100 (hD : dTab n val cl so) (hs : set < 2 ^ n) (hc : c < 4) : ¬ kCan so (mK n val) (mLf n val so) set c 100 = true := fun h => by
  rcases kCan_or h with ⟨-, q, -⟩ | ⟨q0, -, -⟩
  · omega
  · have := ((cut_n (num := 100) hD hs hc q0).mpr ⟨by decide, h⟩).2.1
    have := grF_le (set := set) hc hD.2.1
    omega
noncomputable def lkT (n : Nat) (val : Nat → Nat → Int) (cl so : Nat → Nat) (le set c k d : Nat) (B : lkB) : lkB := if kCan so (mK n val) (mLf n val so) set c k = true then lkD (mC n cl) (mK n val) (mLf n val so) le set c k d B else B
theorem lkT_0 {k : Nat} {B : lkB} : lkT n val cl so le set c k 0 B = B := by
  unfold lkT
  split <;> rfl
theorem lkT_2 {k : Nat} {B : lkB} : lkT n val cl so le set c k 2 B = lk2 so (mC n cl) (mK n val) (mLf n val so) le set c k B := by
  unfold lkT lk2
  split <;> rfl
theorem lkT_no {k d : Nat} {B : lkB} (h : ¬ (kCan so (mK n val) (mLf n val so) set c k = true ∧ kMay (mK n val) (mLf n val so) le set c k d = true)) : lkT n val cl so le set c k (d + 1) B = lkT n val cl so le set c k d B := by
  unfold lkT
  by_cases q : kCan so (mK n val) (mLf n val so) set c k = true
  · rw [if_pos q, if_pos q]
    show lkS _ _ _ _ _ _ _ _ _ = _
    rw [lk_no (fun q2 => h ⟨q, q2⟩)]
  · rw [if_neg q, if_neg q]
theorem lkT_a {k d : Nat} {B E : lkB} (h1 : kCan so (mK n val) (mLf n val so) set c k = true) (h2 : kMay (mK n val) (mLf n val so) le set c k d = true) (hE : E = lkT n val cl so le set c k d B) (h3 : E.1 = 0 ∨ E.2.2.2.2.1 * (kBe (mK n val) (mLf n val so) set c k d : Int) < kAb (mC n cl) (mK n val) (mLf n val so) set c k d * E.2.2.2.2.2) : lkT n val cl so le set c k (d + 1) B = (E.1 + 1, (c : Int), (k : Int), (d : Int), kAb (mC n cl) (mK n val) (mLf n val so) set c k d, (kBe (mK n val) (mLf n val so) set c k d : Int)) := by
  subst hE
  unfold lkT at h3 ⊢
  rw [if_pos h1] at h3 ⊢
  rw [if_pos h1]
  exact lk_a h2 h3
theorem lkT_b {k d : Nat} {B E : lkB} (h1 : kCan so (mK n val) (mLf n val so) set c k = true) (h2 : kMay (mK n val) (mLf n val so) le set c k d = true) (hE : E = lkT n val cl so le set c k d B) (h3 : ¬ (E.1 = 0 ∨ E.2.2.2.2.1 * (kBe (mK n val) (mLf n val so) set c k d : Int) < kAb (mC n cl) (mK n val) (mLf n val so) set c k d * E.2.2.2.2.2)) : lkT n val cl so le set c k (d + 1) B = (E.1 + 1, E.2) := by
  subst hE
  unfold lkT at h3 ⊢
  rw [if_pos h1] at h3 ⊢
  rw [if_pos h1]
  exact lk_b h2 h3
theorem lkT_c {k d : Nat} {B E : lkB} (h1 : kCan so (mK n val) (mLf n val so) set c k = true) (h2 : kMay (mK n val) (mLf n val so) le set c k d = true) (hE : E = lkT n val cl so le set c k d B) : (lkT n val cl so le set c k (d + 1) B).1 = E.1 + 1 := by
  by_cases h3 : E.1 = 0 ∨ E.2.2.2.2.1 * (kBe (mK n val) (mLf n val so) set c k d : Int) < kAb (mC n cl) (mK n val) (mLf n val so) set c k d * E.2.2.2.2.2
  · rw [lkT_a h1 h2 hE h3]
  · rw [lkT_b h1 h2 hE h3]
end FB
/-- the reference's own cell while it looks: since S only 8 to 14 have changed; the best is B -/
def fbI (G : xG) (ad : Nat → Nat) (σ σv : xF) (n : Nat) (val : Nat → Nat → Int) (cl so : Nat → Nat) (de le wo : Nat) (S Sv : Nat → Int) (B : lkB) : Prop := pMo G ad σv n val cl so de le wo Sv ∧ (∀ i, i ≠ 358 → σv i = σ i) ∧ (∀ i, i < 8 ∨ 14 < i → Sv i = S i) ∧ (0 < B.1 → Sv 10 = B.2.1 ∧ Sv 11 = B.2.2.1 ∧ Sv 12 = B.2.2.2.1 ∧ Sv 13 = B.2.2.2.2.1 ∧ Sv 14 = B.2.2.2.2.2 ∧ ir B.2.2.2.2.1 ∧ ir B.2.2.2.2.2)
theorem kAb_x (s1 s2 s3 l r : Nat) : ((s1 : Int) * (r : Int) * ((l : Int) + (r : Int)) + (s2 : Int) * (l : Int) * ((l : Int) + (r : Int)) - (s3 : Int) * (l : Int) * (r : Int)) = (((s1 * r + s2 * l) * (l + r) : Nat) : Int) - ((s3 * l * r : Nat) : Int) := by
  simp only [Int.natCast_mul, Int.natCast_add, Int.add_mul]
