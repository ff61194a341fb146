/-! can: most over whole ways = most over all ways -/
/-- W is the largest of P, -1 if there is none -/
def IsMax (P : Nat → Prop) (W : Int32) : Prop := (W = -1 ∧ ∀ v, ¬ P v) ∨ ∃ v, v < 2 ^ 30 ∧ P v ∧ W = nI v ∧ ∀ u, P u → u ≤ v
theorem IsMax.to {P Q : Nat → Prop} {W : Int32} (h : IsMax P W) (e : ∀ v, P v ↔ Q v) : IsMax Q W := by
  rcases h with ⟨h1, h2⟩ | ⟨v, h0, h1, h2, h3⟩
  · exact Or.inl ⟨h1, fun v z => h2 v ((e v).2 z)⟩
  · exact Or.inr ⟨v, h0, (e v).1 h1, h2, fun u z => h3 u ((e u).2 z)⟩
theorem nI_lt30 {a b : Nat} (ha : a < 2 ^ 30) (hb : b < 2 ^ 30) : nI a < nI b ↔ a < b := by
  rw [i_lt, nI_t (by omega), nI_t (by omega)]
  omega
theorem n1_lt {a : Nat} (ha : a < 2 ^ 30) : (-1 : Int32) < nI a := by
  rw [i_lt, nI_t (by omega)]
  show (-1 : Int) < _
  omega
theorem IsMax.or {P Q : Nat → Prop} {W X : Int32} (h : IsMax P W) (g : IsMax Q X) : IsMax (fun v => P v ∨ Q v) (mxI W X) := by
  unfold mxI
  rcases h with ⟨h1, h2⟩ | ⟨v, h0, h1, h2, h3⟩
  · rcases g with ⟨g1, g2⟩ | ⟨u, g0, g1, g2, g3⟩
    · subst h1; subst g1
      exact Or.inl ⟨by decide, fun v z => z.elim (h2 v) (g2 v)⟩
    · subst h1; subst g2
      rw [if_neg (fun z => Int32.lt_irrefl (Int32.lt_trans z (n1_lt g0)))]
      exact Or.inr ⟨u, g0, Or.inr g1, rfl, fun w z => z.elim (fun z => absurd z (h2 w)) (g3 w)⟩
  · rcases g with ⟨g1, g2⟩ | ⟨u, g0, g1, g2, g3⟩
    · subst h2; subst g1
      rw [if_pos (n1_lt h0)]
      exact Or.inr ⟨v, h0, Or.inl h1, rfl, fun w z => z.elim (h3 w) (fun z => absurd z (g2 w))⟩
    · subst h2; subst g2
      by_cases e : u < v
      · rw [if_pos ((nI_lt30 g0 h0).2 e)]
        exact Or.inr ⟨v, h0, Or.inl h1, rfl, fun w z => z.elim (h3 w) (fun z => by have := g3 w z; omega)⟩
      · rw [if_neg (fun z => e ((nI_lt30 g0 h0).1 z))]
        exact Or.inr ⟨u, g0, Or.inr g1, rfl, fun w z => z.elim (fun z => by have := h3 w z; omega) (g3 w)⟩
theorem IsMax.add {P : Nat → Prop} {W : Int32} {d : Nat} (h : IsMax P W) (hd : d < 2000) (hb : ∀ v, P v → v < 100000) : IsMax (fun v => ∃ u, P u ∧ v = u + d) (if W < 0 then -1 else W + nI d) := by
  rcases h with ⟨h1, h2⟩ | ⟨v, h0, h1, h2, h3⟩
  · subst h1
    rw [if_pos (by decide)]
    exact Or.inl ⟨rfl, fun v ⟨u, z, _⟩ => h2 u z⟩
  · subst h2
    rw [if_neg (by rw [i_lt, nI_t (by omega)]; show ¬ (v : Int) < 0; omega)]
    have := hb v h1
    exact Or.inr ⟨v + d, by omega, ⟨v, h1, rfl⟩, nI_add v d, fun w ⟨u, z, e⟩ => by have := h3 u z; omega⟩
theorem IsMax.no {W : Int32} {P : Nat → Prop} (h : IsMax P W) : IsMax (fun v => P v ∨ False) W := h.to (fun v => ⟨Or.inl, fun z => z.elim id False.elim⟩)
theorem IsMax.eq {P Q : Nat → Prop} {W X : Int32} (h : IsMax P W) (g : IsMax Q X) (a : ∀ v, P v → ∃ u, Q u ∧ v ≤ u) (b : ∀ v, Q v → ∃ u, P u ∧ v ≤ u) : W = X := by
  rcases h with ⟨h1, h2⟩ | ⟨v, h0, h1, h2, h3⟩
  · rcases g with ⟨g1, g2⟩ | ⟨u, g0, g1, g2, g3⟩
    · rw [h1, g1]
    · obtain ⟨w, hw, _⟩ := b u g1
      exact absurd hw (h2 w)
  · rcases g with ⟨g1, g2⟩ | ⟨u, g0, g1, g2, g3⟩
    · obtain ⟨w, hw, _⟩ := a v h1
      exact absurd hw (g2 w)
    · obtain ⟨w, hw, e1⟩ := a v h1
      obtain ⟨x, hx, e2⟩ := b u g1
      have := g3 w hw
      have := h3 x hx
      rw [h2, g2, show v = u by omega]
/-- ways: the hat of each head, 7 if none -/
def VF (al nh : Nat) (f : Nat → Nat) (k0 : Nat) : Prop := (∀ k, k0 ≤ k → k < nh → f k = 7 ∨ (f k < 6 ∧ al.testBit (f k) = true)) ∧ ∀ k l, k0 ≤ k → k0 ≤ l → k < nh → l < nh → f k = f l → f k ≠ 7 → k = l
def vaF (D : Nat → Nat → Nat) (f : Nat → Nat) : Nat → Nat → Nat
  | 0, _ => 0
  | j + 1, k => (if f k = 7 then 0 else D (f k) k) + vaF D f j (k + 1)
def cnF (f : Nat → Nat) : Nat → Nat → Nat
  | 0, _ => 0
  | j + 1, k => (if f k = 7 then 0 else 1) + cnF f j (k + 1)
def imF (f : Nat → Nat) : Nat → Nat → Nat
  | 0, _ => 0
  | j + 1, k => if f k = 7 then imF f j (k + 1) else imF f j (k + 1) ||| 2 ^ f k
theorem va_congr {D : Nat → Nat → Nat} {f g : Nat → Nat} : ∀ {j k : Nat}, (∀ i, k ≤ i → i < k + j → f i = g i) → vaF D f j k = vaF D g j k ∧ cnF f j k = cnF g j k := by
  intro j
  induction j with
  | zero => intro k _; exact ⟨rfl, rfl⟩
  | succ j ih =>
    intro k h
    unfold vaF cnF
    obtain ⟨h1, h2⟩ := ih (k := k + 1) (fun i a b => h i (by omega) (by omega))
    rw [h k (Nat.le_refl _) (by omega), h1, h2]
    exact ⟨rfl, rfl⟩
theorem vaF_up {D : Nat → Nat → Nat} {f : Nat → Nat} {z a : Nat} (ha : a ≠ 7) : ∀ {j k : Nat}, k ≤ z → z < k + j → f z = 7 → vaF D (upc f z a) j k = vaF D f j k + D a z ∧ cnF (upc f z a) j k = cnF f j k + 1 := by
  intro j
  induction j with
  | zero => intro k h1 h2; omega
  | succ j ih =>
    intro k h1 h2 h3
    unfold vaF cnF
    by_cases e : z = k
    · subst e
      obtain ⟨g1, g2⟩ := va_congr (D := D) (f := upc f z a) (g := f) (j := j) (k := z + 1) (fun i a b => upc_ne _ _ (by omega))
      rw [g1, g2, upc_eq, if_neg ha, if_neg ha, if_pos h3, if_pos h3]
      omega
    · obtain ⟨g1, g2⟩ := ih (k := k + 1) (by omega) (by omega) h3
      rw [g1, g2, upc_ne _ _ (show k ≠ z by omega)]
      omega
theorem pc_or {s a : Nat} (hs : s < 64) (ha : a < 6) (h : s.testBit a = false) : popc (s ||| 2 ^ a) = popc s + 1 := by
  have H : ∀ s : Fin 64, ∀ a : Fin 6, s.val.testBit a.val = false → popc (s.val ||| 2 ^ a.val) = popc s.val + 1 := by decide +kernel
  exact H ⟨s, hs⟩ ⟨a, ha⟩ h
theorem tb_or {s a i : Nat} : (s ||| 2 ^ a).testBit i = (s.testBit i || decide (a = i)) := by rw [Nat.testBit_or, Nat.testBit_two_pow]
/-- values that the last r heads can come to, the hats of s being on others -/
def A1 (D : Nat → Nat → Nat) (al nh na pr : Nat) : Nat → Nat → Nat → Prop
  | 0, s, v => popc s = pr ∧ v = 0
  | r + 1, s, v => A1 D al nh na pr r s v ∨ ∃ a, (a < na ∧ al.testBit a = true ∧ s.testBit a = false) ∧ ∃ u, A1 D al nh na pr r (s ||| 2 ^ a) u ∧ v = u + D a (nh - (r + 1))
theorem A1_b {D : Nat → Nat → Nat} {al nh na pr : Nat} (hD : ∀ a k, a < na → k < nh → D a k < 2000) : ∀ r s v, r ≤ nh → A1 D al nh na pr r s v → v ≤ 2000 * r := by
  intro r
  induction r with
  | zero => intro s v _ h; have := h.2; omega
  | succ r ih =>
    intro s v hr h
    rcases h with h | ⟨a, ⟨h1, _, _⟩, u, h2, h3⟩
    · have := ih s v (by omega) h; omega
    · have := ih _ u (by omega) h2
      have := hD a (nh - (r + 1)) h1 (by omega)
      omega
theorem A1_f {D : Nat → Nat → Nat} {al nh na pr : Nat} (hna : na ≤ 6) : ∀ r s v, r ≤ nh → s < 64 → A1 D al nh na pr r s v → ∃ f, VF al nh f (nh - r) ∧ (∀ k, nh - r ≤ k → k < nh → f k ≠ 7 → s.testBit (f k) = false ∧ f k < na) ∧ v = vaF D f r (nh - r) ∧ popc s + cnF f r (nh - r) = pr := by
  intro r
  induction r with
  | zero =>
    intro s v _ _ h
    exact ⟨fun _ => 7, ⟨fun k h1 h2 => by omega, fun k l h1 h2 h3 => by omega⟩, fun k h1 h2 => by omega, h.2, h.1⟩
  | succ r ih =>
    intro s v hr hs h
    have hk : nh - (r + 1) + 1 = nh - r := by omega
    rcases h with h | ⟨a, ⟨h1, h2, h3⟩, u, h4, h5⟩
    · obtain ⟨f, g1, g2, g3, g4⟩ := ih s v (by omega) hs h
      have ec := va_congr (D := D) (f := upc f (nh - (r + 1)) 7) (g := f) (j := r) (k := nh - r) (fun i a b => upc_ne _ _ (by omega))
      refine ⟨upc f (nh - (r + 1)) 7, ⟨fun k a b => ?_, fun k l a b c e h8 h9 => ?_⟩, fun k a b c => ?_, ?_, ?_⟩
      · by_cases e : k = nh - (r + 1)
        · subst e; exact Or.inl (upc_eq _ _ _)
        · rw [upc_ne _ _ e]; exact g1.1 k (by omega) b
      · have k1 : k ≠ nh - (r + 1) := fun z => by subst z; exact h9 (upc_eq _ _ _)
        have l1 : l ≠ nh - (r + 1) := fun z => by subst z; exact h9 (h8.trans (upc_eq _ _ _))
        rw [upc_ne _ _ k1] at h8 h9
        rw [upc_ne _ _ l1] at h8
        exact g1.2 k l (by omega) (by omega) c e h8 h9
      · have k1 : k ≠ nh - (r + 1) := fun z => by subst z; exact c (upc_eq _ _ _)
        rw [upc_ne _ _ k1] at c ⊢
        exact g2 k (by omega) b c
      · unfold vaF
        rw [upc_eq, if_pos rfl, hk, ec.1, Nat.zero_add]; exact g3
      · unfold cnF
        rw [upc_eq, if_pos rfl, hk, ec.2, Nat.zero_add]; exact g4
    · obtain ⟨f, g1, g2, g3, g4⟩ := ih (s ||| 2 ^ a) u (by omega) (or_lt64 hs (by omega)) h4
      have ec := va_congr (D := D) (f := upc f (nh - (r + 1)) a) (g := f) (j := r) (k := nh - r) (fun i a b => upc_ne _ _ (by omega))
      have hne : ∀ k, nh - r ≤ k → k < nh → f k ≠ a := by
        intro k k1 k2 e
        have := (g2 k k1 k2 (by omega)).1
        rw [e, tb_or, decide_eq_true rfl, Bool.or_true] at this
        cases this
      refine ⟨upc f (nh - (r + 1)) a, ⟨fun k x b => ?_, fun k l x b c e h8 h9 => ?_⟩, fun k x b c => ?_, ?_, ?_⟩
      · by_cases e : k = nh - (r + 1)
        · subst e; rw [upc_eq]; exact Or.inr ⟨by omega, h2⟩
        · rw [upc_ne _ _ e]; exact g1.1 k (by omega) b
      · by_cases k1 : k = nh - (r + 1)
        · by_cases l1 : l = nh - (r + 1)
          · omega
          · rw [k1, upc_eq, upc_ne _ _ l1] at h8
            exact absurd h8.symm (hne l (by omega) e)
        · by_cases l1 : l = nh - (r + 1)
          · rw [l1, upc_eq, upc_ne _ _ k1] at h8
            exact absurd h8 (hne k (by omega) c)
          · rw [upc_ne _ _ k1] at h8 h9
            rw [upc_ne _ _ l1] at h8
            exact g1.2 k l (by omega) (by omega) c e h8 h9
      · by_cases k1 : k = nh - (r + 1)
        · subst k1; rw [upc_eq]; exact ⟨h3, h1⟩
        · rw [upc_ne _ _ k1] at c ⊢
          have := g2 k (by omega) b c
          rw [tb_or, Bool.or_eq_false_iff] at this
          exact ⟨this.1.1, this.2⟩
      · unfold vaF
        rw [upc_eq, if_neg (by omega), hk, ec.1]; omega
      · unfold cnF
        rw [upc_eq, if_neg (by omega), hk, ec.2]
        rw [pc_or hs (by omega) h3] at g4
        omega
theorem f_A1 {D : Nat → Nat → Nat} {al nh na pr : Nat} {f : Nat → Nat} (hna : na ≤ 6) : ∀ r s, r ≤ nh → s < 64 → VF al nh f (nh - r) → (∀ k, nh - r ≤ k → k < nh → f k ≠ 7 → s.testBit (f k) = false ∧ f k < na) → popc s + cnF f r (nh - r) = pr → A1 D al nh na pr r s (vaF D f r (nh - r)) := by
  intro r
  induction r with
  | zero => intro s _ _ _ _ h; exact ⟨h, rfl⟩
  | succ r ih =>
    intro s hr hs h1 h2 h3
    have hk : nh - (r + 1) + 1 = nh - r := by omega
    have hv : VF al nh f (nh - r) := ⟨fun k a b => h1.1 k (by omega) b, fun k l a b c e => h1.2 k l (by omega) (by omega) c e⟩
    unfold vaF
    unfold cnF at h3
    rw [hk] at h3 ⊢
    by_cases e : f (nh - (r + 1)) = 7
    · rw [if_pos e, Nat.zero_add] at h3 ⊢
      exact Or.inl (ih s (by omega) hs hv (fun k a b c => h2 k (by omega) b c) h3)
    · rw [if_neg e] at h3 ⊢
      obtain ⟨g1, g2⟩ := h2 _ (Nat.le_refl _) (by omega) e
      have g3 := (h1.1 _ (Nat.le_refl _) (by omega)).resolve_left e
      refine Or.inr ⟨f (nh - (r + 1)), ⟨g2, g3.2, g1⟩, _, ih (s ||| 2 ^ f (nh - (r + 1))) (by omega) (or_lt64 hs g3.1) hv (fun k a b c => ?_) ?_, Nat.add_comm _ _⟩
      · obtain ⟨q1, q2⟩ := h2 k (by omega) b c
        refine ⟨?_, q2⟩
        rw [tb_or, q1, Bool.false_or]
        refine decide_eq_false (fun z => ?_)
        have := h1.2 _ k (Nat.le_refl _) (by omega) (by omega) b z e
        omega
      · rw [pc_or hs g3.1 g1]; omega
/-- values that the first j hats can come to on the heads of s -/
def B9 (D : Nat → Nat → Nat) (al nh : Nat) : Nat → Nat → Nat → Prop
  | 0, s, v => s = 0 ∧ v = 0
  | j + 1, s, v => B9 D al nh j s v ∨ (al.testBit j = true ∧ ∃ k, k < nh ∧ s.testBit k = true ∧ ∃ u, B9 D al nh j (s ^^^ 2 ^ k) u ∧ v = u + D j k)
theorem xor_tb {s k i : Nat} : (s ^^^ 2 ^ k).testBit i = (s.testBit i != decide (k = i)) := by rw [Nat.testBit_xor, Nat.testBit_two_pow]
theorem xor_lt {s k nh : Nat} (hk : k < nh) (h : s ^^^ 2 ^ k < 2 ^ nh) : s < 2 ^ nh := by
  have h1 : (s ^^^ 2 ^ k) ^^^ 2 ^ k < 2 ^ nh := Nat.xor_lt_two_pow h (Nat.pow_lt_pow_right (by decide) hk)
  rwa [Nat.xor_assoc, Nat.xor_self, Nat.xor_zero] at h1
theorem B9_lt {D : Nat → Nat → Nat} {al nh : Nat} : ∀ j s v, B9 D al nh j s v → s < 2 ^ nh := by
  intro j
  induction j with
  | zero => intro s v h; rw [h.1]; exact Nat.two_pow_pos nh
  | succ j ih =>
    intro s v h
    rcases h with h | ⟨_, k, h1, _, u, h2, _⟩
    · exact ih s v h
    · exact xor_lt h1 (ih _ u h2)
theorem B9_b {D : Nat → Nat → Nat} {al nh na : Nat} (hD : ∀ a k, a < na → k < nh → D a k < 2000) : ∀ j s v, j ≤ na → B9 D al nh j s v → v ≤ 2000 * j := by
  intro j
  induction j with
  | zero => intro s v _ h; have := h.2; omega
  | succ j ih =>
    intro s v hj h
    rcases h with h | ⟨_, k, h1, _, u, h2, h3⟩
    · have := ih s v (by omega) h; omega
    · have := ih _ u (by omega) h2
      have := hD j k (by omega) h1
      omega
theorem B9_f {D : Nat → Nat → Nat} {al nh : Nat} : ∀ j s v, j ≤ 6 → B9 D al nh j s v → ∃ f, VF al nh f 0 ∧ (∀ k, k < nh → f k = 7 ∨ f k < j) ∧ (∀ k, k < nh → s.testBit k = decide (f k ≠ 7)) ∧ v = vaF D f nh 0 := by
  intro j
  induction j with
  | zero =>
    intro s v _ h
    refine ⟨fun _ => 7, ⟨fun k _ _ => Or.inl rfl, fun k l _ _ _ _ _ h9 => absurd rfl h9⟩, fun k _ => Or.inl rfl, fun k _ => by rw [h.1, Nat.zero_testBit]; rfl, ?_⟩
    rw [h.2]
    have : ∀ (j k : Nat), vaF D (fun _ => 7) j k = 0 := by
      intro j
      induction j with
      | zero => intro k; rfl
      | succ j ih => intro k; unfold vaF; rw [if_pos rfl, ih]
    exact (this nh 0).symm
  | succ j ih =>
    intro s v hj h
    rcases h with h | ⟨h0, k, h1, h2, u, h3, h4⟩
    · obtain ⟨f, g1, g2, g3, g4⟩ := ih s v (by omega) h
      exact ⟨f, g1, fun k hk => by rcases g2 k hk with e | e; exact Or.inl e; exact Or.inr (by omega), g3, g4⟩
    · obtain ⟨f, g1, g2, g3, g4⟩ := ih _ u (by omega) h3
      have hfk : f k = 7 := by
        have h5 := g3 k h1
        rw [xor_tb, h2, decide_eq_true rfl] at h5
        by_cases e : f k = 7
        · exact e
        · rw [decide_eq_true e] at h5; cases h5
      have hne : ∀ l, l < nh → f l ≠ j := fun l hl e => by rcases g2 l hl with z | z <;> omega
      refine ⟨upc f k j, ⟨fun l _ hl => ?_, fun l m _ _ hl hm e8 e9 => ?_⟩, fun l hl => ?_, fun l hl => ?_, ?_⟩
      · by_cases e : l = k
        · subst e; rw [upc_eq]; exact Or.inr ⟨by omega, h0⟩
        · rw [upc_ne _ _ e]; exact g1.1 l (Nat.zero_le _) hl
      · by_cases l1 : l = k
        · by_cases m1 : m = k
          · omega
          · rw [l1, upc_eq, upc_ne _ _ m1] at e8; exact absurd e8.symm (hne m hm)
        · by_cases m1 : m = k
          · rw [m1, upc_eq, upc_ne _ _ l1] at e8; exact absurd e8 (hne l hl)
          · rw [upc_ne _ _ l1] at e8 e9
            rw [upc_ne _ _ m1] at e8
            exact g1.2 l m (Nat.zero_le _) (Nat.zero_le _) hl hm e8 e9
      · by_cases e : l = k
        · subst e; rw [upc_eq]; exact Or.inr (Nat.lt_succ_self _)
        · rw [upc_ne _ _ e]; rcases g2 l hl with z | z; exact Or.inl z; exact Or.inr (by omega)
      · by_cases e : l = k
        · subst e; rw [upc_eq, h2]; exact (decide_eq_true (show j ≠ 7 by omega)).symm
        · have h5 := g3 l hl
          rw [xor_tb, decide_eq_false (fun z => e z.symm)] at h5
          rw [upc_ne _ _ e, ← h5]
          cases s.testBit l <;> rfl
      · rw [(vaF_up (show j ≠ 7 by omega) (Nat.zero_le k) (by omega) hfk).1, ← g4]; exact h4
/-- only the hats below j -/
def rsF (f : Nat → Nat) (j : Nat) : Nat → Nat := fun k => if f k < j then f k else 7
def dmF (f : Nat → Nat) : Nat → Nat → Nat
  | 0, _ => 0
  | j + 1, k => if f k = 7 then dmF f j (k + 1) else dmF f j (k + 1) ||| 2 ^ k
theorem dm_tb {f : Nat → Nat} {i : Nat} : ∀ {j k : Nat}, (dmF f j k).testBit i = decide (k ≤ i ∧ i < k + j ∧ f i ≠ 7) := by
  intro j
  induction j with
  | zero => intro k; show Nat.testBit 0 i = _; rw [Nat.zero_testBit, decide_eq_false (fun z => by omega)]
  | succ j ih =>
    intro k
    unfold dmF
    by_cases e : f k = 7
    · rw [if_pos e, ih]
      refine decide_eq_decide.mpr ⟨fun z => ⟨by omega, by omega, z.2.2⟩, fun z => ⟨?_, by omega, z.2.2⟩⟩
      by_cases e2 : k = i
      · subst e2; exact absurd e z.2.2
      · omega
    · rw [if_neg e, tb_or, ih]
      by_cases e2 : k = i
      · subst e2
        rw [decide_eq_true (rfl : k = k), Bool.or_true, decide_eq_true ⟨Nat.le_refl _, by omega, e⟩]
      · rw [decide_eq_false e2, Bool.or_false]
        exact decide_eq_decide.mpr ⟨fun z => ⟨by omega, by omega, z.2.2⟩, fun z => ⟨by omega, by omega, z.2.2⟩⟩
theorem f_B9 {D : Nat → Nat → Nat} {al nh : Nat} {f : Nat → Nat} (hV : VF al nh f 0) : ∀ j, j ≤ 6 → B9 D al nh j (dmF (rsF f j) nh 0) (vaF D (rsF f j) nh 0) := by
  intro j
  induction j with
  | zero =>
    intro _
    have h7 : rsF f 0 = fun _ => 7 := by funext k; exact if_neg (Nat.not_lt_zero _)
    have h1 : ∀ (j k : Nat), vaF D (fun _ => 7) j k = 0 ∧ dmF (fun _ => 7) j k = 0 := by
      intro j
      induction j with
      | zero => intro k; exact ⟨rfl, rfl⟩
      | succ j ih => intro k; unfold vaF dmF; rw [if_pos rfl, if_pos rfl, (ih _).1, (ih _).2]; exact ⟨rfl, rfl⟩
    rw [h7]
    exact ⟨(h1 nh 0).2, (h1 nh 0).1⟩
  | succ j ih =>
    intro hj
    have h := ih (by omega)
    by_cases e : ∃ k, k < nh ∧ f k = j
    · obtain ⟨k, hk, hf⟩ := e
      have hr : ∀ i, i < nh → rsF f (j + 1) i = upc (rsF f j) k j i := by
        intro i hi
        by_cases e2 : i = k
        · subst e2; rw [upc_eq]; unfold rsF; rw [hf, if_pos (Nat.lt_succ_self _)]
        · rw [upc_ne _ _ e2]
          unfold rsF
          have : f i ≠ j := fun z => e2 (hV.2 i k (Nat.zero_le _) (Nat.zero_le _) hi hk (z.trans hf.symm) (by omega))
          by_cases e3 : f i < j
          · rw [if_pos e3, if_pos (by omega)]
          · rw [if_neg e3, if_neg (by omega)]
      have hk7 : rsF f j k = 7 := by unfold rsF; rw [hf, if_neg (Nat.lt_irrefl _)]
      have al1 : al.testBit j = true := by
        rcases hV.1 k (Nat.zero_le _) hk with z | z
        · omega
        · rw [hf] at z; exact z.2
      refine Or.inr ⟨al1, k, hk, ?_, vaF D (rsF f j) nh 0, ?_, ?_⟩
      · rw [dm_tb]; exact decide_eq_true ⟨Nat.zero_le _, by omega, by rw [hr k hk, upc_eq]; omega⟩
      · have hd : dmF (rsF f (j + 1)) nh 0 ^^^ 2 ^ k = dmF (rsF f j) nh 0 := by
          refine Nat.eq_of_testBit_eq (fun i => ?_)
          rw [xor_tb, dm_tb, dm_tb]
          by_cases hi : i < nh
          · rw [hr i hi]
            by_cases e2 : k = i
            · subst e2; rw [upc_eq, decide_eq_true ⟨Nat.zero_le _, by omega, show j ≠ 7 by omega⟩, decide_eq_true (rfl : k = k), decide_eq_false (fun z => z.2.2 hk7)]; rfl
            · rw [upc_ne _ _ (fun z => e2 z.symm), decide_eq_false e2]
              cases decide (0 ≤ i ∧ i < 0 + nh ∧ rsF f j i ≠ 7) <;> rfl
          · rw [decide_eq_false (fun z => hi (by omega)), decide_eq_false (show ¬ k = i by omega), decide_eq_false (fun z => hi (by omega))]; rfl
        rw [hd]
        exact h
      · rw [(va_congr (D := D) (f := rsF f (j + 1)) (g := upc (rsF f j) k j) (fun i _ hi => hr i (by omega))).1]
        exact (vaF_up (by omega) (Nat.zero_le k) (by omega) hk7).1
    · have hr : ∀ i, i < nh → rsF f (j + 1) i = rsF f j i := by
        intro i hi
        unfold rsF
        have : f i ≠ j := fun z => e ⟨i, hi, z⟩
        by_cases e3 : f i < j
        · rw [if_pos e3, if_pos (by omega)]
        · rw [if_neg e3, if_neg (by omega)]
      have hd : dmF (rsF f (j + 1)) nh 0 = dmF (rsF f j) nh 0 := by
        refine Nat.eq_of_testBit_eq (fun i => ?_)
        rw [dm_tb, dm_tb]
        by_cases hi : i < nh
        · rw [hr i hi]
        · rw [decide_eq_false (fun z => hi (by omega)), decide_eq_false (fun z => hi (by omega))]
      refine Or.inl ?_
      rw [hd, (va_congr (D := D) (f := rsF f (j + 1)) (g := rsF f j) (fun i _ hi => hr i (by omega))).1]
      exact h
theorem im_tb {f : Nat → Nat} {i : Nat} : ∀ {j k : Nat}, (imF f j k).testBit i = true → ∃ z, k ≤ z ∧ z < k + j ∧ f z = i ∧ f z ≠ 7 := by
  intro j
  induction j with
  | zero => intro k h; rw [show imF f 0 k = 0 from rfl, Nat.zero_testBit] at h; cases h
  | succ j ih =>
    intro k h
    unfold imF at h
    by_cases e : f k = 7
    · rw [if_pos e] at h
      obtain ⟨z, h1, h2, h3⟩ := ih h
      exact ⟨z, by omega, by omega, h3⟩
    · rw [if_neg e, tb_or, Bool.or_eq_true] at h
      rcases h with h | h
      · obtain ⟨z, h1, h2, h3⟩ := ih h
        exact ⟨z, by omega, by omega, h3⟩
      · exact ⟨k, Nat.le_refl _, by omega, of_decide_eq_true h, e⟩
theorem im_pc {al nh : Nat} {f : Nat → Nat} : ∀ {j k : Nat}, k + j = nh → VF al nh f k → imF f j k < 64 ∧ popc (imF f j k) = cnF f j k := by
  intro j
  induction j with
  | zero => intro k _ _; show 0 < 64 ∧ popc 0 = 0; decide
  | succ j ih =>
    intro k hk hV
    obtain ⟨h1, h2⟩ := ih (k := k + 1) (by omega) ⟨fun i a b => hV.1 i (by omega) b, fun i l a b c e => hV.2 i l (by omega) (by omega) c e⟩
    unfold imF cnF
    by_cases e : f k = 7
    · rw [if_pos e, if_pos e, Nat.zero_add]; exact ⟨h1, h2⟩
    · rw [if_neg e, if_neg e]
      have h3 := (hV.1 k (Nat.le_refl _) (by omega)).resolve_left e
      refine ⟨or_lt64 h1 h3.1, ?_⟩
      rw [pc_or h1 h3.1, h2, Nat.add_comm]
      cases hb : (imF f j (k + 1)).testBit (f k) with
      | false => rfl
      | true =>
        obtain ⟨z, z1, z2, z3, z4⟩ := im_tb hb
        have := hV.2 z k (by omega) (Nat.le_refl _) (by omega) (by omega) z3 z4
        omega
theorem pc_mono {s t : Nat} (h : ∀ i, i < 6 → s.testBit i = true → t.testBit i = true) : popc s ≤ popc t := by
  have hb : ∀ a b : Bool, (a = true → b = true) → a.toNat ≤ b.toNat := by decide
  unfold popc
  have h0 := hb _ _ (h 0 (by decide))
  have h1 := hb _ _ (h 1 (by decide))
  have h2 := hb _ _ (h 2 (by decide))
  have h3 := hb _ _ (h 3 (by decide))
  have h4 := hb _ _ (h 4 (by decide))
  have h5 := hb _ _ (h 5 (by decide))
  omega
theorem cn_full {f : Nat → Nat} : ∀ {j k : Nat}, (∀ i, k ≤ i → i < k + j → f i ≠ 7) → cnF f j k = j := by
  intro j
  induction j with
  | zero => intro k _; rfl
  | succ j ih =>
    intro k h
    unfold cnF
    rw [if_neg (h k (Nat.le_refl _) (by omega)), ih (fun i a b => h i (by omega) (by omega)), Nat.add_comm]
theorem cn_le {f : Nat → Nat} : ∀ {j k : Nat}, cnF f j k ≤ j := by
  intro j
  induction j with
  | zero => intro k; exact Nat.le_refl _
  | succ j ih =>
    intro k
    unfold cnF
    have := ih (k := k + 1)
    split <;> omega
/-- a way that leaves a head and a hat can be gone on with -/
theorem f_ext {D : Nat → Nat → Nat} {al nh : Nat} {f : Nat → Nat} (hV : VF al nh f 0) (h1 : cnF f nh 0 < nh) (h2 : cnF f nh 0 < popc al) : ∃ g, VF al nh g 0 ∧ cnF g nh 0 = cnF f nh 0 + 1 ∧ vaF D f nh 0 ≤ vaF D g nh 0 := by
  obtain ⟨k, hk, hfk⟩ : ∃ k, k < nh ∧ f k = 7 := by
    refine Decidable.byContradiction (fun z => ?_)
    have := cn_full (f := f) (j := nh) (k := 0) (fun i _ hi e => z ⟨i, by omega, e⟩)
    omega
  obtain ⟨a, ha, hal, hno⟩ : ∃ a, a < 6 ∧ al.testBit a = true ∧ (imF f nh 0).testBit a = false := by
    refine Decidable.byContradiction (fun z => ?_)
    have h3 := (im_pc (f := f) (j := nh) (k := 0) (by omega) hV).2
    have h4 : popc al ≤ popc (imF f nh 0) := pc_mono (fun i hi e => by
      cases hb : (imF f nh 0).testBit i with
      | true => rfl
      | false => exact absurd ⟨i, hi, e, hb⟩ z)
    omega
  have hne : ∀ l, l < nh → f l ≠ a := by
    intro l hl e
    have : ∀ (j k : Nat), k ≤ l → l < k + j → (imF f j k).testBit a = true := by
      intro j
      induction j with
      | zero => intro k a b; omega
      | succ j ih =>
        intro k x y
        unfold imF
        by_cases e2 : l = k
        · subst e2
          rw [if_neg (by omega), tb_or, e, decide_eq_true rfl, Bool.or_true]
        · have := ih (k + 1) (by omega) (by omega)
          split
          · exact this
          · rw [tb_or, this]; rfl
    rw [this nh 0 (Nat.zero_le _) (by omega)] at hno
    cases hno
  have hu := vaF_up (D := D) (show a ≠ 7 by omega) (Nat.zero_le k) (show k < 0 + nh by omega) hfk
  refine ⟨upc f k a, ⟨fun l _ hl => ?_, fun l m _ _ hl hm e8 e9 => ?_⟩, hu.2, by rw [hu.1]; omega⟩
  · by_cases e : l = k
    · subst e; rw [upc_eq]; exact Or.inr ⟨ha, hal⟩
    · rw [upc_ne _ _ e]; exact hV.1 l (Nat.zero_le _) hl
  · by_cases l1 : l = k
    · by_cases m1 : m = k
      · omega
      · rw [l1, upc_eq, upc_ne _ _ m1] at e8; exact absurd e8.symm (hne m hm)
    · by_cases m1 : m = k
      · rw [m1, upc_eq, upc_ne _ _ l1] at e8; exact absurd e8 (hne l hl)
      · rw [upc_ne _ _ l1] at e8 e9
        rw [upc_ne _ _ m1] at e8
        exact hV.2 l m (Nat.zero_le _) (Nat.zero_le _) hl hm e8 e9
theorem f_top {D : Nat → Nat → Nat} {al nh pr : Nat} (hp1 : pr ≤ nh) (hp2 : pr ≤ popc al) : ∀ (m : Nat) (f : Nat → Nat), VF al nh f 0 → cnF f nh 0 + m = pr → ∃ g, VF al nh g 0 ∧ cnF g nh 0 = pr ∧ vaF D f nh 0 ≤ vaF D g nh 0 := by
  intro m
  induction m with
  | zero => intro f hV h; exact ⟨f, hV, h, Nat.le_refl _⟩
  | succ m ih =>
    intro f hV h
    obtain ⟨g, g1, g2, g3⟩ := f_ext (D := D) hV (by omega) (by omega)
    obtain ⟨w, w1, w2, w3⟩ := ih g g1 (by omega)
    exact ⟨w, w1, w2, Nat.le_trans g3 w3⟩
theorem cn_top {al nh : Nat} {f : Nat → Nat} (hV : VF al nh f 0) : cnF f nh 0 ≤ nh ∧ cnF f nh 0 ≤ popc al := by
  refine ⟨cn_le, ?_⟩
  rw [← (im_pc (f := f) (j := nh) (k := 0) (by omega) hV).2]
  refine pc_mono (fun i hi h => ?_)
  obtain ⟨z, z1, z2, z3, z4⟩ := im_tb h
  have := (hV.1 z (Nat.zero_le _) (by omega)).resolve_left z4
  rw [z3] at this
  exact this.2
theorem IsMax.ge {P : Nat → Prop} {W : Int32} (h : IsMax P W) : -1 ≤ W := by
  rcases h with ⟨h1, _⟩ | ⟨v, h0, _, h2, _⟩
  · rw [h1]; exact Int32.le_refl _
  · rw [h2]; exact Int32.le_of_lt (n1_lt h0)
theorem WtA_max {D : Nat → Nat → Nat} {D2 : Nat → Nat → Int32} {al nh na pr : Nat} (hnh : nh ≤ 6) (hna : na ≤ 6) (hD : ∀ a k, a < na → k < nh → D a k < 2000) (hD2 : ∀ a k, a < na → k < nh → D2 a k = nI (D a k)) : ∀ r s, r ≤ nh → s < 64 → IsMax (A1 D al nh na pr r s) (WtA D2 al nh na pr r s) := by
  intro r
  induction r with
  | zero =>
    intro s _ _
    show IsMax _ (if popc s = pr then nI 0 else -1)
    by_cases e : popc s = pr
    · rw [if_pos e]; exact Or.inr ⟨0, by decide, ⟨e, rfl⟩, rfl, fun u z => by have := z.2; omega⟩
    · rw [if_neg e]; exact Or.inl ⟨rfl, fun v z => e z.1⟩
  | succ r ih =>
    intro s hr hs
    have em : ∀ z, z < 64 → ((nh - (r + 1) + 1) * 64 + z) % 64 = z := fun z hz => by omega
    show IsMax _ (mfC D2 (fun i => WtA D2 al nh na pr r (i % 64)) na (nh - (r + 1)) s al)
    unfold mfC
    have L : ∀ (j a : Nat) (x : Int32) (P : Nat → Prop), a + j = na → IsMax P x → IsMax (fun v => P v ∨ ∃ b, (a ≤ b ∧ b < na ∧ al.testBit b = true ∧ s.testBit b = false) ∧ ∃ u, A1 D al nh na pr r (s ||| 2 ^ b) u ∧ v = u + D b (nh - (r + 1))) (fld (fMf D2 (fun i => WtA D2 al nh na pr r (i % 64)) (nh - (r + 1)) s al) j a x) := by
      intro j
      induction j with
      | zero => intro a x P ha hP; exact hP.to (fun v => ⟨Or.inl, fun z => z.elim id (fun ⟨b, h1, _⟩ => by omega)⟩)
      | succ j ih2 =>
        intro a x P ha hP
        show IsMax _ (fld _ j (a + 1) (fMf D2 (fun i => WtA D2 al nh na pr r (i % 64)) (nh - (r + 1)) s al a x))
        unfold fMf
        by_cases hc : al.testBit a = true ∧ s.testBit a = false
        · rw [if_pos hc, mx_if]
          have ho := or_lt64 hs (show a < 6 by omega)
          have hm : mwC D2 (fun i => WtA D2 al nh na pr r (i % 64)) (nh - (r + 1)) s a = if WtA D2 al nh na pr r (s ||| 2 ^ a) < 0 then -1 else WtA D2 al nh na pr r (s ||| 2 ^ a) + nI (D a (nh - (r + 1))) := by
            unfold mwC
            show (if WtA D2 al nh na pr r (((nh - (r + 1) + 1) * 64 + (s ||| 2 ^ a)) % 64) < 0 then _ else WtA D2 al nh na pr r (((nh - (r + 1) + 1) * 64 + (s ||| 2 ^ a)) % 64) + _) = _
            rw [em _ ho, hD2 a _ (by omega) (by omega)]
          rw [hm]
          have h1 := (ih (s ||| 2 ^ a) (by omega) ho).add (hD a (nh - (r + 1)) (by omega) (by omega)) (fun v z => by have := A1_b hD r _ v (by omega) z; omega)
          refine (ih2 (a + 1) _ _ (by omega) (hP.or h1)).to (fun v => ⟨fun z => ?_, fun z => ?_⟩)
          · rcases z with (z | z) | ⟨b, z1, z2⟩
            · exact Or.inl z
            · exact Or.inr ⟨a, ⟨Nat.le_refl _, by omega, hc.1, hc.2⟩, z⟩
            · exact Or.inr ⟨b, ⟨by omega, z1.2.1, z1.2.2⟩, z2⟩
          · rcases z with z | ⟨b, z1, z2⟩
            · exact Or.inl (Or.inl z)
            · by_cases e : b = a
              · subst e; exact Or.inl (Or.inr z2)
              · exact Or.inr ⟨b, ⟨by omega, z1.2.1, z1.2.2⟩, z2⟩
        · rw [if_neg hc]
          refine (ih2 (a + 1) _ _ (by omega) hP).to (fun v => ⟨fun z => ?_, fun z => ?_⟩)
          · rcases z with z | ⟨b, z1, z2⟩
            · exact Or.inl z
            · exact Or.inr ⟨b, ⟨by omega, z1.2.1, z1.2.2⟩, z2⟩
          · rcases z with z | ⟨b, z1, z2⟩
            · exact Or.inl z
            · by_cases e : b = a
              · subst e; exact absurd ⟨z1.2.2.1, z1.2.2.2⟩ hc
              · exact Or.inr ⟨b, ⟨by omega, z1.2.1, z1.2.2⟩, z2⟩
    have h0 := L na 0 _ _ (Nat.zero_add _) (ih s (by omega) hs)
    have e0 : (fun i => WtA D2 al nh na pr r (i % 64)) ((nh - (r + 1) + 1) * 64 + s) = WtA D2 al nh na pr r s := by
      show WtA D2 al nh na pr r (((nh - (r + 1) + 1) * 64 + s) % 64) = _
      rw [em s hs]
    rw [e0]
    refine h0.to (fun v => ⟨fun z => ?_, fun z => ?_⟩)
    · rcases z with z | ⟨b, z1, z2⟩
      · exact Or.inl z
      · exact Or.inr ⟨b, z1.2, z2⟩
    · rcases z with z | ⟨b, z1, z2⟩
      · exact Or.inl z
      · exact Or.inr ⟨b, ⟨Nat.zero_le _, z1⟩, z2⟩
theorem top_max {D : Nat → Nat → Nat} {D2 : Nat → Nat → Int32} {al nh na a s : Nat} {w : Nat → Int32} (hnh : nh ≤ 6) (hna : na ≤ 6) (ha : a < na) (hal : al.testBit a = true) (hD : ∀ a k, a < na → k < nh → D a k < 2000) (hD2 : ∀ a k, a < na → k < nh → D2 a k = nI (D a k)) (hw : ∀ s, s < 64 → IsMax (B9 D al nh a s) (w s)) (hs : s < 64) : IsMax (B9 D al nh (a + 1) s) (topS w D2 a nh s) := by
  have h64 : 2 ^ nh ≤ 64 := p64 hnh
  unfold topS
  by_cases e : s < 2 ^ nh
  · rw [if_pos e]
    have L : ∀ (j k : Nat) (x : Int32) (P : Nat → Prop), k + j = nh → IsMax P x → IsMax (fun v => P v ∨ ∃ i, (k ≤ i ∧ i < nh ∧ s.testBit i = true) ∧ ∃ u, B9 D al nh a (s ^^^ 2 ^ i) u ∧ v = u + D a i) (fld (fTp w D2 a s) j k x) := by
      intro j
      induction j with
      | zero => intro k x P hk hP; exact hP.to (fun v => ⟨Or.inl, fun z => z.elim id (fun ⟨b, h1, _⟩ => by omega)⟩)
      | succ j ih =>
        intro k x P hk hP
        show IsMax _ (fld _ j (k + 1) (fTp w D2 a s k x))
        by_cases hc : s.testBit k = true
        · have hx : s ^^^ 2 ^ k < 2 ^ nh := Nat.xor_lt_two_pow e (Nat.pow_lt_pow_right (by decide) (by omega))
          have hf : fTp w D2 a s k x = mxI x (if w (s ^^^ 2 ^ k) < 0 then -1 else w (s ^^^ 2 ^ k) + nI (D a k)) := by
            unfold fTp
            by_cases h0 : w (s ^^^ 2 ^ k) < 0
            · rw [if_pos h0, if_neg (fun z => z.2 h0), mx_l hP.ge]
            · rw [if_neg h0, if_pos ⟨hc, h0⟩, hD2 a k ha (by omega)]
          rw [hf]
          have h1 := (hw (s ^^^ 2 ^ k) (by omega)).add (hD a k ha (by omega)) (fun v z => by have := B9_b hD a _ v (by omega) z; omega)
          refine (ih (k + 1) _ _ (by omega) (hP.or h1)).to (fun v => ⟨fun z => ?_, fun z => ?_⟩)
          · rcases z with (z | z) | ⟨b, z1, z2⟩
            · exact Or.inl z
            · exact Or.inr ⟨k, ⟨Nat.le_refl _, by omega, hc⟩, z⟩
            · exact Or.inr ⟨b, ⟨by omega, z1.2⟩, z2⟩
          · rcases z with z | ⟨b, z1, z2⟩
            · exact Or.inl (Or.inl z)
            · by_cases e : b = k
              · subst e; exact Or.inl (Or.inr z2)
              · exact Or.inr ⟨b, ⟨by omega, z1.2⟩, z2⟩
        · have hf : fTp w D2 a s k x = x := if_neg (fun z => hc z.1)
          rw [hf]
          refine (ih (k + 1) _ _ (by omega) hP).to (fun v => ⟨fun z => ?_, fun z => ?_⟩)
          · rcases z with z | ⟨b, z1, z2⟩
            · exact Or.inl z
            · exact Or.inr ⟨b, ⟨by omega, z1.2⟩, z2⟩
          · rcases z with z | ⟨b, z1, z2⟩
            · exact Or.inl z
            · by_cases e : b = k
              · subst e; exact absurd z1.2.2 hc
              · exact Or.inr ⟨b, ⟨by omega, z1.2⟩, z2⟩
    refine (L nh 0 _ _ (Nat.zero_add _) (hw s hs)).to (fun v => ⟨fun z => ?_, fun z => ?_⟩)
    · rcases z with z | ⟨b, z1, z2⟩
      · exact Or.inl z
      · exact Or.inr ⟨hal, b, z1.2.1, z1.2.2, z2⟩
    · rcases z with z | ⟨_, b, z1, z2, z3⟩
      · exact Or.inl z
      · exact Or.inr ⟨b, ⟨Nat.zero_le _, z1, z2⟩, z3⟩
  · rw [if_neg e]
    exact (hw s hs).to (fun v => ⟨fun z => absurd (B9_lt _ _ _ z) e, fun z => absurd (B9_lt _ _ _ z) e⟩)
theorem moW_max {I : Nat → Nat → Int32} {D : Nat → Nat → Nat} {D2 : Nat → Nat → Int32} {al nh na q : Nat} (hnh : nh ≤ 6) (hna : na ≤ 6) (hal : ∀ a, a < na → (al.testBit a = true ↔ I 106 a = nI q)) (hD : ∀ a k, a < na → k < nh → D a k < 2000) (hD2 : ∀ a k, a < na → k < nh → D2 a k = nI (D a k)) : ∀ (j a : Nat) (w : Nat → Int32), a + j = na → (∀ s, s < 64 → IsMax (B9 D al nh a s) (w s)) → ∀ s, s < 64 → IsMax (B9 D al nh na s) (fld (fMo I D2 nh q) j a w s) := by
  intro j
  induction j with
  | zero => intro a w ha hw s hs; have e : a = na := by omega
            subst e; exact hw s hs
  | succ j ih =>
    intro a w ha hw s hs
    show IsMax _ (fld (fMo I D2 nh q) j (a + 1) (fMo I D2 nh q a w) s)
    refine ih (a + 1) _ (by omega) (fun s hs => ?_) s hs
    unfold fMo
    by_cases e : I 106 a = nI q
    · rw [if_pos e]; exact top_max hnh hna (by omega) ((hal a (by omega)).2 e) hD hD2 hw hs
    · rw [if_neg e]
      exact (hw s hs).to (fun v => ⟨Or.inl, fun z => z.elim id (fun z => absurd ((hal a (by omega)).1 z.1) e)⟩)
theorem hof_tb {R : Nat → Nat → Int32} {q : Int32} {i : Nat} : ∀ (j k n : Nat), (fld (fHof R q) j k n).testBit i = (n.testBit i || decide (k ≤ i ∧ i < k + j ∧ R 106 i = q)) := by
  intro j
  induction j with
  | zero => intro k n; rw [decide_eq_false (fun z => by omega), Bool.or_false]; rfl
  | succ j ih =>
    intro k n
    show (fld (fHof R q) j (k + 1) (fHof R q k n)).testBit i = _
    rw [ih]
    unfold fHof
    by_cases e : R 106 k = q
    · rw [if_pos e, tb_or]
      by_cases e2 : k = i
      · subst e2
        rw [decide_eq_true (rfl : k = k), decide_eq_true (show k ≤ k ∧ k < k + (j + 1) ∧ R 106 k = q from ⟨Nat.le_refl _, by omega, e⟩), Bool.or_true, Bool.true_or]
      · rw [decide_eq_false e2, Bool.or_false]
        exact congrArg (n.testBit i || ·) (decide_eq_decide.mpr ⟨fun z => ⟨by omega, by omega, z.2.2⟩, fun z => ⟨by omega, by omega, z.2.2⟩⟩)
    · rw [if_neg e]
      refine congrArg (n.testBit i || ·) (decide_eq_decide.mpr ⟨fun z => ⟨by omega, by omega, z.2.2⟩, fun z => ⟨?_, by omega, z.2.2⟩⟩)
      by_cases e2 : k = i
      · subst e2; exact absurd z.2.2 e
      · omega
theorem mo_eq {R : Nat → Nat → Int32} {cb ce nh na q : Nat} {w0 : Nat → Int32} (hnh : nh ≤ 6) (hna : na ≤ 6) (hDB : DB R cb ce nh na) : moC R cb ce nh na q = moM R (deedM R cb ce) nh na q w0 := by
  obtain ⟨D, hDe⟩ : ∃ D : Nat → Nat → Nat, D = fun a k => (deedM R cb ce a k).toNatClampNeg := ⟨_, rfl⟩
  have hD2 : ∀ a k, a < na → k < nh → deedM R cb ce a k = nI (D a k) := by
    intro a k ha hk
    obtain ⟨m, hm, e⟩ := hDB a k ha hk
    rw [hDe]
    show deedM R cb ce a k = nI (deedM R cb ce a k).toNatClampNeg
    rw [e, nI_clamp (by omega)]
  have hD : ∀ a k, a < na → k < nh → D a k < 2000 := by
    intro a k ha hk
    obtain ⟨m, hm, e⟩ := hDB a k ha hk
    rw [hDe]
    show (deedM R cb ce a k).toNatClampNeg < 2000
    rw [e, nI_clamp (by omega)]
    exact hm
  have hal : ∀ a, (hofN R na q).testBit a = true ↔ a < na ∧ R 106 a = nI q := by
    intro a
    unfold hofN
    rw [hof_tb, Nat.zero_testBit, Bool.false_or, decide_eq_true_iff]
    exact ⟨fun z => ⟨by omega, z.2.2⟩, fun z => ⟨Nat.zero_le _, by omega, z.2⟩⟩
  obtain ⟨al, hale⟩ : ∃ al, al = hofN R na q := ⟨_, rfl⟩
  have hp1 : mnN nh (popc al) ≤ nh ∧ mnN nh (popc al) ≤ popc al := by unfold mnN; split <;> omega
  have h1 : IsMax (A1 D al nh na (mnN nh (popc al)) nh 0) (moC R cb ce nh na q) := by
    unfold moC
    rw [← hale]
    exact WtA_max hnh hna hD hD2 nh 0 (Nat.le_refl _) (by decide)
  rw [← hale] at hal
  have h2 := moW_max (D := D) (al := al) hnh hna (fun a ha => ⟨fun z => ((hal a).1 z).2, fun z => (hal a).2 ⟨ha, z⟩⟩) hD hD2 na 0 (top0 w0) (Nat.zero_add _) (fun s hs => by
    show IsMax _ (if s < 64 then (if s = 0 then nI 0 else -1) else w0 s)
    rw [if_pos hs]
    by_cases e : s = 0
    · rw [if_pos e]; exact Or.inr ⟨0, by decide, ⟨e, rfl⟩, rfl, fun u z => by have := z.2; omega⟩
    · rw [if_neg e]; exact Or.inl ⟨rfl, fun v z => e z.1⟩)
  have h3 : IsMax (fun v => v = 0 ∨ ∃ s, (0 ≤ s ∧ s < 64) ∧ B9 D al nh na s v) (moM R (deedM R cb ce) nh na q w0) := by
    have L : ∀ (j k : Nat) (x : Int32) (P : Nat → Prop), k + j = 64 → IsMax P x → IsMax (fun v => P v ∨ ∃ s, (k ≤ s ∧ s < 64) ∧ B9 D al nh na s v) (fld (fMx (moW R (deedM R cb ce) nh na q w0)) j k x) := by
      intro j
      induction j with
      | zero => intro k x P hk hP; exact hP.to (fun v => ⟨Or.inl, fun z => z.elim id (fun ⟨b, g1, _⟩ => by omega)⟩)
      | succ j ih =>
        intro k x P hk hP
        show IsMax _ (fld _ j (k + 1) (mxI x (moW R (deedM R cb ce) nh na q w0 k)))
        refine (ih (k + 1) _ _ (by omega) (hP.or (h2 k (by omega)))).to (fun v => ⟨fun z => ?_, fun z => ?_⟩)
        · rcases z with (z | z) | ⟨b, z1, z2⟩
          · exact Or.inl z
          · exact Or.inr ⟨k, ⟨Nat.le_refl _, by omega⟩, z⟩
          · exact Or.inr ⟨b, ⟨by omega, z1.2⟩, z2⟩
        · rcases z with z | ⟨b, z1, z2⟩
          · exact Or.inl (Or.inl z)
          · by_cases e : b = k
            · subst e; exact Or.inl (Or.inr z2)
            · exact Or.inr ⟨b, ⟨by omega, z1.2⟩, z2⟩
    exact L 64 0 (nI 0) (fun v => v = 0) (by omega) (Or.inr ⟨0, by decide, rfl, rfl, fun u z => by omega⟩)
  refine h1.eq h3 (fun v hv => ?_) (fun v hv => ?_)
  · obtain ⟨f, f1, f2, f3, f4⟩ := A1_f hna nh 0 v (Nat.le_refl _) (by decide) hv
    rw [Nat.sub_self] at f1 f2 f3 f4
    have hr : ∀ k, 0 ≤ k → k < 0 + nh → rsF f na k = f k := by
      intro k _ hk
      unfold rsF
      by_cases e : f k = 7
      · rw [e, if_neg (by omega)]
      · rw [if_pos (f2 k (Nat.zero_le _) (by omega) e).2]
    have hB := f_B9 (D := D) f1 na (by omega)
    rw [(va_congr (D := D) hr).1, ← f3] at hB
    exact ⟨v, Or.inr ⟨_, ⟨Nat.zero_le _, Nat.lt_of_lt_of_le (B9_lt _ _ _ hB) (p64 hnh)⟩, hB⟩, Nat.le_refl _⟩
  · obtain ⟨f, f1, f4⟩ : ∃ f, VF al nh f 0 ∧ v ≤ vaF D f nh 0 := by
      rcases hv with rfl | ⟨s, _, hB⟩
      · exact ⟨fun _ => 7, ⟨fun k _ _ => Or.inl rfl, fun k l _ _ _ _ _ h9 => absurd rfl h9⟩, Nat.zero_le _⟩
      · obtain ⟨f, f1, _, _, f4⟩ := B9_f na s v hna hB
        exact ⟨f, f1, by omega⟩
    obtain ⟨cq1, cq2⟩ := cn_top f1
    have cq3 : cnF f nh 0 ≤ mnN nh (popc al) := by unfold mnN; split <;> omega
    obtain ⟨g, g1, g2, g3⟩ := f_top (D := D) hp1.1 hp1.2 (mnN nh (popc al) - cnF f nh 0) f f1 (by omega)
    have hA := f_A1 (D := D) (al := al) (na := na) (pr := mnN nh (popc al)) (f := g) hna nh 0 (Nat.le_refl _) (by decide) (by rw [Nat.sub_self]; exact g1) (fun k _ hk hne => ⟨Nat.zero_testBit _, ((hal _).1 ((g1.1 k (Nat.zero_le _) hk).resolve_left hne).2).1⟩) (by rw [Nat.sub_self, g2, show popc 0 = 0 from by decide, Nat.zero_add])
    rw [Nat.sub_self] at hA
    exact ⟨_, hA, by omega⟩
theorem can_eq {R : Nat → Nat → Int32} {cb ce nh na : Nat} (hnh : nh ≤ 6) (hna : na ≤ 6) (hDB : DB R cb ce nh na) : fld (fCanC R cb ce nh na) 5 0 0 = caM R cb ce nh na := by
  refine fld_congr (fun k _ _ s => ?_)
  unfold fCanC fCa
  rw [mo_eq hnh hna hDB]
  by_cases e : moM R (deedM R cb ce) nh na k (fun _ => 0) < workF R cb ce (nI k)
  · rw [if_pos e, if_pos e, Nat.or_zero]
  · rw [if_neg e, if_neg e]
