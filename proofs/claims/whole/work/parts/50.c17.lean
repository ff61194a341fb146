/-! the class: day -/
theorem add_ac {a b c : Int32} : a + b + c = a + c + b := by rw [Int32.add_assoc, Int32.add_comm b c, ← Int32.add_assoc]
theorem fTod5 {R : Nat → Nat → Int32} {cb ce nh na dd k : Nat} (M : MI R nh na dd cb ce) (Q : AR R nh na dd) (hk : k < nh) (s0 s1 s2 s3 s4 : Int32) : fTod R cb ce (nI 0) k s0 + fTod R cb ce (nI 1) k s1 + fTod R cb ce (nI 2) k s2 + fTod R cb ce (nI 3) k s3 + fTod R cb ce (nI 4) k s4 = fTod R cb ce (-1) k (s0 + s1 + s2 + s3 + s4) := by
  have hna6 := M.na6
  have z : ∀ s : Int32, s + nI 0 = s := Int32.add_zero
  unfold fTod
  rcases M.worn k hk with e | ⟨a, ha, e⟩
  · have h0 : R 101 k < 0 := by rw [e]; decide
    simp only [if_pos h0, z]
  · have h0 : ¬ R 101 k < 0 := by rw [e]; exact opt_neg (by omega)
    obtain ⟨t, ht, he⟩ := Q.tr a ha
    rw [e] at h0
    rw [e, nI_clamp (by omega), he]
    generalize deedM R cb ce a k = D
    simp only [if_neg h0]
    rcases (show t = 0 ∨ t = 1 ∨ t = 2 ∨ t = 3 ∨ t = 4 by omega) with rfl | rfl | rfl | rfl | rfl

    · rw [if_pos (show (nI 0 < 0 ∨ nI 0 = nI 0) by decide), if_neg (show ¬ (nI 1 < 0 ∨ nI 0 = nI 1) by decide), if_neg (show ¬ (nI 2 < 0 ∨ nI 0 = nI 2) by decide), if_neg (show ¬ (nI 3 < 0 ∨ nI 0 = nI 3) by decide), if_neg (show ¬ (nI 4 < 0 ∨ nI 0 = nI 4) by decide), if_pos (Or.inl (show (-1 : Int32) < 0 by decide))]
      first | (simp only [z, Int32.add_assoc]; done) | (simp only [z, Int32.add_assoc]; simp only [Int32.add_comm D, Int32.add_assoc]; done)
    · rw [if_neg (show ¬ (nI 0 < 0 ∨ nI 1 = nI 0) by decide), if_pos (show (nI 1 < 0 ∨ nI 1 = nI 1) by decide), if_neg (show ¬ (nI 2 < 0 ∨ nI 1 = nI 2) by decide), if_neg (show ¬ (nI 3 < 0 ∨ nI 1 = nI 3) by decide), if_neg (show ¬ (nI 4 < 0 ∨ nI 1 = nI 4) by decide), if_pos (Or.inl (show (-1 : Int32) < 0 by decide))]
      first | (simp only [z, Int32.add_assoc]; done) | (simp only [z, Int32.add_assoc]; simp only [Int32.add_comm D, Int32.add_assoc]; done)
    · rw [if_neg (show ¬ (nI 0 < 0 ∨ nI 2 = nI 0) by decide), if_neg (show ¬ (nI 1 < 0 ∨ nI 2 = nI 1) by decide), if_pos (show (nI 2 < 0 ∨ nI 2 = nI 2) by decide), if_neg (show ¬ (nI 3 < 0 ∨ nI 2 = nI 3) by decide), if_neg (show ¬ (nI 4 < 0 ∨ nI 2 = nI 4) by decide), if_pos (Or.inl (show (-1 : Int32) < 0 by decide))]
      first | (simp only [z, Int32.add_assoc]; done) | (simp only [z, Int32.add_assoc]; simp only [Int32.add_comm D, Int32.add_assoc]; done)
    · rw [if_neg (show ¬ (nI 0 < 0 ∨ nI 3 = nI 0) by decide), if_neg (show ¬ (nI 1 < 0 ∨ nI 3 = nI 1) by decide), if_neg (show ¬ (nI 2 < 0 ∨ nI 3 = nI 2) by decide), if_pos (show (nI 3 < 0 ∨ nI 3 = nI 3) by decide), if_neg (show ¬ (nI 4 < 0 ∨ nI 3 = nI 4) by decide), if_pos (Or.inl (show (-1 : Int32) < 0 by decide))]
      first | (simp only [z, Int32.add_assoc]; done) | (simp only [z, Int32.add_assoc]; simp only [Int32.add_comm D, Int32.add_assoc]; done)
    · rw [if_neg (show ¬ (nI 0 < 0 ∨ nI 4 = nI 0) by decide), if_neg (show ¬ (nI 1 < 0 ∨ nI 4 = nI 1) by decide), if_neg (show ¬ (nI 2 < 0 ∨ nI 4 = nI 2) by decide), if_neg (show ¬ (nI 3 < 0 ∨ nI 4 = nI 3) by decide), if_pos (show (nI 4 < 0 ∨ nI 4 = nI 4) by decide), if_pos (Or.inl (show (-1 : Int32) < 0 by decide))]
      first | (simp only [z, Int32.add_assoc]; done) | (simp only [z, Int32.add_assoc]; simp only [Int32.add_comm D, Int32.add_assoc]; done)
theorem fTod5s {R : Nat → Nat → Int32} {cb ce nh na dd : Nat} (M : MI R nh na dd cb ce) (Q : AR R nh na dd) : ∀ (j k : Nat) (s0 s1 s2 s3 s4 : Int32), k + j = nh → fld (fTod R cb ce (nI 0)) j k s0 + fld (fTod R cb ce (nI 1)) j k s1 + fld (fTod R cb ce (nI 2)) j k s2 + fld (fTod R cb ce (nI 3)) j k s3 + fld (fTod R cb ce (nI 4)) j k s4 = fld (fTod R cb ce (-1)) j k (s0 + s1 + s2 + s3 + s4) := by
  intro j
  induction j with
  | zero => intro k s0 s1 s2 s3 s4 hk; rfl
  | succ j ih =>
    intro k s0 s1 s2 s3 s4 hk
    have h := ih (k + 1) (fTod R cb ce (nI 0) k s0) (fTod R cb ce (nI 1) k s1) (fTod R cb ce (nI 2) k s2) (fTod R cb ce (nI 3) k s3) (fTod R cb ce (nI 4) k s4) (by omega)
    rw [fTod5 M Q (by omega)] at h
    exact h
def fSuD (R : Nat → Nat → Int32) (cb ce nh k : Nat) (s : Int32) : Int32 := s + todM R cb ce nh (nI k)
theorem sum5 {R : Nat → Nat → Int32} {cb ce nh na dd : Nat} (M : MI R nh na dd cb ce) (Q : AR R nh na dd) : fld (fSuD R cb ce nh) 5 0 (nI 0) = todM R cb ce nh (-1) := by
  have h := fTod5s M Q nh 0 (nI 0) (nI 0) (nI 0) (nI 0) (nI 0) (by omega)
  have z : nI 0 + nI 0 + nI 0 + nI 0 + nI 0 = nI 0 := by decide
  rw [z] at h
  refine Eq.trans ?_ h
  show nI 0 + todM R cb ce nh (nI 0) + todM R cb ce nh (nI 1) + todM R cb ce nh (nI 2) + todM R cb ce nh (nI 3) + todM R cb ce nh (nI 4) = _
  rw [show nI 0 + todM R cb ce nh (nI 0) = todM R cb ce nh (nI 0) from Int32.zero_add _]
  rfl
theorem min_le {y c : Int32} : (if y < c then y else c) = (if y ≤ c then y else c) := by
  by_cases h : y < c
  · rw [if_pos h, if_pos (Int32.le_of_lt h)]
  · by_cases h2 : y ≤ c
    · rw [if_neg h, if_pos h2]
      exact Int32.le_antisymm (Int32.not_lt.mp h) h2
    · rw [if_neg h, if_neg h2]
theorem min_u {m : Nat} (hm : m ≤ 9999) : (if nI (m + 1) < nI 9999 then nI (m + 1) else nI 9999) = (if nI 9999 ≤ nI m then nI 9999 else nI m + nI 1) := by
  have e1 : nI (m + 1) < nI 9999 ↔ m + 1 < 9999 := by rw [i_lt, nI_t (by omega), nI_t (by decide)]; omega
  have e2 : nI 9999 ≤ nI m ↔ 9999 ≤ m := by rw [i_le, nI_t (by decide), nI_t (by omega)]; omega
  have e3 : nI m + nI 1 = nI (m + 1) := nI_add m 1
  by_cases h : m = 9999
  · have n1 : ¬ nI (m + 1) < nI 9999 := fun z => by have := e1.1 z; omega
    have p1 : nI 9999 ≤ nI m := e2.2 (by omega)
    rw [if_neg n1, if_pos p1]
  · have n2 : ¬ nI 9999 ≤ nI m := fun z => h (by have := e2.1 z; omega)
    rw [if_neg n2, e3]
    by_cases h2 : m + 1 = 9999
    · rw [h2, if_neg (show ¬ nI 9999 < nI 9999 by decide)]
    · rw [if_pos (e1.2 (by omega))]
