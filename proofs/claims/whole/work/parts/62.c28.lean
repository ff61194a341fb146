/-! the class: isOwnedBelow, joinGroups, back -/
theorem all_n {n : Nat} (h : n ≤ 6) : allI n n [] = true := by
  rcases (show n = 0 ∨ n = 1 ∨ n = 2 ∨ n = 3 ∨ n = 4 ∨ n = 5 ∨ n = 6 by omega) with rfl | rfl | rfl | rfl | rfl | rfl | rfl
  · exact all_0
  · exact all_1
  · exact all_2
  · exact all_3
  · exact all_4
  · exact all_5
  · exact all_6
theorem alL_get {p : Nat → Bool} : ∀ {j k : Nat}, alL p j k = true → ∀ i, k ≤ i → i < k + j → p i = true := by
  intro j
  induction j with
  | zero => intro k _ i h1 h2; omega
  | succ j ih =>
    intro k h i h1 h2
    have h3 : (p k && alL p j (k + 1)) = true := h
    rw [Bool.and_eq_true] at h3
    by_cases e : i = k
    · subst e; exact h3.1
    · exact ih h3.2 i (by omega) (by omega)
/-- what holds of all lists that allI goes through holds of the list of due -/
def duL (due : Nat → Nat) : Nat → Nat → List Nat
  | 0, _ => []
  | j + 1, k => due k :: duL due j (k + 1)
theorem duL_get {due : Nat → Nat} : ∀ {j k i : Nat}, i < j → dg (duL due j k) i = due (k + i) := by
  intro j
  induction j with
  | zero => intro k i h; omega
  | succ j ih =>
    intro k i h
    cases i with
    | zero => rfl
    | succ i =>
      show dg (duL due j (k + 1)) i = _
      rw [ih (by omega)]
      exact congrArg due (by omega)
theorem memL_du {due : Nat → Nat} {x : Nat} : ∀ {j k : Nat}, memL x (duL due j k) = true → ∃ i, k ≤ i ∧ i < k + j ∧ due i = x := by
  intro j
  induction j with
  | zero => intro k h; cases h
  | succ j ih =>
    intro k h
    have h2 : (Nat.beq x (due k) || memL x (duL due j (k + 1))) = true := h
    rw [Bool.or_eq_true] at h2
    rcases h2 with h2 | h2
    · exact ⟨k, Nat.le_refl _, by omega, (Nat.eq_of_beq_eq_true h2).symm⟩
    · obtain ⟨i, h3, h4, h5⟩ := ih h2
      exact ⟨i, by omega, by omega, h5⟩
theorem allI_du {n : Nat} {due : Nat → Nat} (hn : n ≤ 6) (hr : ∀ i, i < n → due i = 7 ∨ due i < n) (hi : ∀ i k, i < n → k < n → due i = due k → due i ≠ 7 → i = k) : ∀ (j m : Nat), j + m = n → allI n j (duL due m j) = true → tstB n (duL due n 0) = true := by
  intro j
  induction j with
  | zero =>
    intro m hm h
    have e : m = n := by omega
    subst e
    exact h
  | succ j ih =>
    intro m hm h
    have h2 : (allI n j (7 :: duL due m (j + 1)) && alL (fun i => memL i (duL due m (j + 1)) || allI n j (i :: duL due m (j + 1))) n 0) = true := h
    rw [Bool.and_eq_true] at h2
    refine ih (m + 1) (by omega) ?_
    show allI n j (due j :: duL due m (j + 1)) = true
    rcases hr j (by omega) with e | e
    · rw [e]; exact h2.1
    · have h3 := alL_get h2.2 (due j) (Nat.zero_le _) (by omega)
      rw [Bool.or_eq_true] at h3
      rcases h3 with h3 | h3
      · obtain ⟨i, h4, h5, h6⟩ := memL_du h3
        exact absurd (hi i j (by omega) (by omega) h6 (by rw [h6]; omega)) (by omega)
      · exact h3
theorem tst_du {n : Nat} {due : Nat → Nat} (hn : n ≤ 6) (hr : ∀ i, i < n → due i = 7 ∨ due i < n) (hi : ∀ i k, i < n → k < n → due i = due k → due i ≠ 7 → i = k) : tstB n (duL due n 0) = true   := allI_du hn hr hi n 0 rfl (all_n hn)
def ownB (R : Nat → Nat → Int32) (k : Nat) (v : Int32) : Bool := (fnd (fun z => decide (R 100 z = v)) k 0).isSome
theorem ownB_t {R : Nat → Nat → Int32} {k z : Nat} {v : Int32} (hz : z < k) (e : R 100 z = v) : ownB R k v = true := by
  obtain ⟨b, hb⟩ := fnd_ex (p := fun z => decide (R 100 z = v)) (Nat.zero_le z) (show z < 0 + k by omega) (decide_eq_true e)
  unfold ownB
  rw [hb]
  rfl
theorem ownB_f {R : Nat → Nat → Int32} {k : Nat} {v : Int32} (h : ∀ z, z < k → R 100 z ≠ v) : ownB R k v = false := by
  unfold ownB
  cases hc : fnd (fun z => decide (R 100 z = v)) k 0 with
  | none => rfl
  | some z =>
    have h1 := fnd_some hc
    exact absurd (of_decide_eq_true h1.2.2.1) (h z (by omega))
theorem ownB_e {R : Nat → Nat → Int32} {k : Nat} {v : Int32} (h : ownB R k v = true) : ∃ z, z < k ∧ R 100 z = v := by
  unfold ownB at h
  cases hc : fnd (fun z => decide (R 100 z = v)) k 0 with
  | none => rw [hc] at h; cases h
  | some z =>
    have h1 := fnd_some hc
    exact ⟨z, by omega, of_decide_eq_true h1.2.2.1⟩
def jnG (x y : Int32) (g : Nat → Int32) : Nat → Int32 := fun z => if z < 6 ∧ g z = y then x else g z
/-- the head that has the hat of head k on; 7 if none -/
def wB (R : Nat → Nat → Int32) (nh na k : Nat) : Nat := if ixB (R 100 k) na = true then (fnd (isI (R 101) (R 100 k)) nh 0).getD 7 else 7
def claT (R : Nat → Nat → Int32) (nh k o : Nat) : Bool := claP R nh k o
theorem cla_t {R : Nat → Nat → Int32} {nh k o : Nat} (h1 : k < o) (h2 : o < nh) (h3 : claP R nh k o = true) : claM R nh = true := by
  obtain ⟨b, hb⟩ := fnd_ex (p := claP R nh k) (j := nh - (k + 1)) (k := k + 1) (a := o) (by omega) (by omega) h3
  have e : (fun k => (fnd (claP R nh k) (nh - (k + 1)) (k + 1)).isSome) k = true := by show (fnd (claP R nh k) (nh - (k + 1)) (k + 1)).isSome = true; rw [hb]; rfl
  obtain ⟨c, hc⟩ := fnd_ex (p := fun k => (fnd (claP R nh k) (nh - (k + 1)) (k + 1)).isSome) (j := nh) (k := 0) (Nat.zero_le k) (by omega) e
  unfold claM
  rw [hc]
  rfl
theorem cla_f {R : Nat → Nat → Int32} {nh : Nat} (h : ∀ o, o < nh → ∀ k, k < o → claP R nh k o = false) : claM R nh = false := by
  unfold claM
  cases hc : fnd (fun k => (fnd (claP R nh k) (nh - (k + 1)) (k + 1)).isSome) nh 0 with
  | none => rfl
  | some k =>
    have h1 := fnd_some hc
    have h2 : (fnd (claP R nh k) (nh - (k + 1)) (k + 1)).isSome = true := h1.2.2.1
    cases hd : fnd (claP R nh k) (nh - (k + 1)) (k + 1) with
    | none => rw [hd] at h2; cases h2
    | some o =>
      have h3 := fnd_some hd
      have h4 := h o (by omega) k (by omega)
      rw [h3.2.2.1] at h4
      cases h4
def G60 : List Nat := [0, 1, 2, 3, 4, 5]
def GOK (g : Nat → Int32) (G : List Nat) : Prop := G.length = 6 ∧ ∀ z, z < 6 → g z = nI (G.getD z 0) ∧ G.getD z 0 < 6
theorem jnL_get {a b z : Nat} {G : List Nat} (h : z < G.length) : (jnL a b G).getD z 0 = cond (Nat.beq (G.getD z 0) b) a (G.getD z 0) := by
  unfold jnL
  rw [List.getD_eq_getElem?_getD, List.getD_eq_getElem?_getD, List.getElem?_map, List.getElem?_eq_getElem h]
  rfl
theorem GOK.jn {g : Nat → Int32} {G : List Nat} {a b : Nat} (h : GOK g G) (ha : a < 6) (hb : b < 6) : GOK (jnG (nI a) (nI b) g) (jnL a b G) := by
  refine ⟨by unfold jnL; rw [List.length_map]; exact h.1, fun z hz => ?_⟩
  obtain ⟨h1, h2⟩ := h.2 z hz
  rw [jnL_get (by rw [h.1]; exact hz)]
  unfold jnG
  rw [h1]
  by_cases e : G.getD z 0 = b
  · rw [e, Nat.beq_refl, if_pos ⟨hz, rfl⟩]
    exact ⟨rfl, ha⟩
  · have e2 : Nat.beq (G.getD z 0) b = false := by cases hq : Nat.beq (G.getD z 0) b; rfl; exact absurd (Nat.eq_of_beq_eq_true hq) e
    rw [e2, if_neg (fun y => e (nI_inj (by omega) (by omega) y.2))]
    exact ⟨rfl, h2⟩
set_option maxRecDepth 100000 in
set_option maxHeartbeats 4000000 in
theorem C_isOwnedBelow {d : Nat} {I : Nat → Nat → Int32} {J : Nat → Nat → Int64} {K : Nat → Nat → Option Nat} {h : List xSh} (S : St K h) {R0 : Nat → Nat → Int32} {nh na dd cb ce tw : Nat} (C : CR I K h R0 na tw) (M : MI R0 nh na dd cb ce) (Q : AR R0 nh na dd) {k : Nat} (hk : k ≤ 6) (v : Int32) : EvP d 121 0 [(0, .ref (0)), (1, .int (nI (k))), (2, .int (v))] [] (I, J, K, h) (QI (fun x t => x = bI (ownB R0 k v) ∧ t = (I, J, K, h))) := by
  have hnh6 := M.nh6
  have hna6 := M.na6
  refine p_iconst (v := nI 0) k121_0 (by decide) ?_
  refine p_istore_n (ls' := [(0, _), (1, _), (2, _), (3, _)]) k121_1 rfl ?_
  have L : ∀ (j : Nat) (z : Nat), z + j = k → (∀ y, y < z → R0 100 y ≠ v) → EvP d 121 2 [(0, .ref (0)), (1, .int (nI (k))), (2, .int (v)), (3, .int (nI (z)))] [] (I, J, K, h) (QI (fun x t => x = bI (ownB R0 k v) ∧ t = (I, J, K, h))) := by
    intro j
    induction j with
    | zero =>
      intro z hk
      intro hs
      refine p_iload_n k121_2 rfl ?_
      refine p_iload_n k121_3 rfl ?_
      refine p_icmp_geN (tgt := 28) k121_4 (by decide) (by omega) (by omega) (fun _ => ?_) (fun c => False.elim (by omega))
      refine p_iconst (v := bI false) k121_28 (by decide) ?_
      refine p_returnB k121_29 rt_121 ?_
      exact ⟨by rw [ownB_f (fun y hy => hs y (by omega))], rfl⟩
    | succ j ih =>
      intro z hk
      intro hs
      refine p_iload_n k121_2 rfl ?_
      refine p_iload_n k121_3 rfl ?_
      refine p_icmp_geN (tgt := 28) k121_4 (by decide) (by omega) (by omega) (fun c => False.elim (by omega)) (fun _ => ?_)
      refine p_aload_n k121_7 rfl ?_
      refine p_getRv k121_8 (s_0 S) f_11_14_11 (r_0_0 S) ?_
      refine p_getRv k121_11 (s_1 S) f_11_95_3 (r_1_2 S) ?_
      refine p_iload_n k121_14 rfl ?_
      refine p_ialdN k121_15 (s_3 S) (by omega) (by decide) (congrFun C.a3 _) ?_
      refine p_iload_n k121_16 rfl ?_
      refine p_icmp_ne (tgt := 22) k121_17 (by decide) (fun cq17 => ?_) (fun cq17 => ?_)
      · skip
        refine p_iincN (ls1 := [(0, _), (1, _), (2, _), (3, _)]) k121_22 rfl rfl ?_
        refine p_goto (tgt := 2) k121_25 (by decide) ?_
        refine ih (z + 1) (by omega) (fun y hy => ?_)
        by_cases e : y = z
        · subst e; exact cq17
        · exact hs y (by omega)
      · skip
        refine p_iconst (v := bI true) k121_20 (by decide) ?_
        refine p_returnB k121_21 rt_121 ?_
        exact ⟨by rw [ownB_t (z := z) (by omega) cq17], rfl⟩
  exact L k 0 (by omega) (fun y hy => absurd hy (Nat.not_lt_zero _))

set_option maxRecDepth 100000 in
set_option maxHeartbeats 4000000 in
theorem C_joinGroups {d : Nat} {I : Nat → Nat → Int32} {J : Nat → Nat → Int64} {K : Nat → Nat → Option Nat} {h : List xSh} (S : St K h) {R0 : Nat → Nat → Int32} {nh na dd cb ce tw : Nat} (C : CR I K h R0 na tw) (M : MI R0 nh na dd cb ce) (Q : AR R0 nh na dd) (g : Nat → Int32) (x y : Int32) : EvP d 122 0 [(0, .ref (0)), (1, .int (x)), (2, .int (y))] [] (upc I 43 g, J, K, h) (QI (fun r t => r = bI (decide (x ≠ y)) ∧ t = (upc I 43 (jnG x y g), J, K, h))) := by
  have hnh6 := M.nh6
  have hna6 := M.na6
  refine p_iconst (v := nI 0) k122_0 (by decide) ?_
  refine p_istore_n (ls' := [(0, _), (1, _), (2, _), (3, _)]) k122_1 rfl ?_
  have L : ∀ (j : Nat) (k : Nat) (u : Nat → Int32), k + j = 6 → (∀ z, u z = if z < k ∧ g z = y then x else g z) → EvP d 122 2 [(0, .ref (0)), (1, .int (x)), (2, .int (y)), (3, .int (nI (k)))] [] (upc I 43 u, J, K, h) (QI (fun r t => r = bI (decide (x ≠ y)) ∧ t = (upc I 43 (jnG x y g), J, K, h))) := by
    intro j
    induction j with
    | zero =>
      intro k u hk
      intro hs
      refine p_iload_n k122_2 rfl ?_
      refine p_bipush (v := nI 6) k122_3 (by decide) ?_
      refine p_icmp_geN (tgt := 31) k122_5 (by decide) (by omega) (by omega) (fun _ => ?_) (fun c => False.elim (by omega))
      have he : u = jnG x y g := by
        funext z
        rw [hs z, show k = 6 by omega]
        rfl
      subst he
      refine p_iload_n k122_31 rfl ?_
      refine p_iload_n k122_32 rfl ?_
      refine p_icmp_eq (tgt := 40) k122_33 (by decide) (fun cq33 => ?_) (fun cq33 => ?_)
      · skip
        refine p_iconst (v := bI false) k122_40 (by decide) ?_
        refine p_returnB k122_41 rt_122 ?_
        exact ⟨by first | rw [decide_eq_true cq33] | rw [decide_eq_false (fun z => z cq33)], rfl⟩
      · skip
        refine p_iconst (v := bI true) k122_36 (by decide) ?_
        refine p_goto (tgt := 41) k122_37 (by decide) ?_
        refine p_returnB k122_41 rt_122 ?_
        exact ⟨by first | rw [decide_eq_true cq33] | rw [decide_eq_false (fun z => z cq33)], rfl⟩
    | succ j ih =>
      intro k u hk
      intro hs
      refine p_iload_n k122_2 rfl ?_
      refine p_bipush (v := nI 6) k122_3 (by decide) ?_
      refine p_icmp_geN (tgt := 31) k122_5 (by decide) (by omega) (by omega) (fun c => False.elim (by omega)) (fun _ => ?_)
      have hgk : u k = g k := by rw [hs k, if_neg (fun z => absurd z.1 (by omega))]
      refine p_aload_n k122_8 rfl ?_
      refine p_getRv k122_9 (s_0 S) f_11_81_11 (r_0_14 S) ?_
      refine p_iload_n k122_12 rfl ?_
      refine p_ialdN k122_13 (s_43 S) (by omega) (by decide) rfl ?_
      refine p_iload_n k122_14 rfl ?_
      refine p_icmp_ne (tgt := 25) k122_15 (by decide) (fun cq15 => ?_) (fun cq15 => ?_)
      · skip
        refine p_iincN (ls1 := [(0, _), (1, _), (2, _), (3, _)]) k122_25 rfl rfl ?_
        refine p_goto (tgt := 2) k122_28 (by decide) ?_
        refine ih (k + 1) _ (by omega) (fun z => ?_)
        by_cases e : z = k
        · subst e
          rw [hgk, if_neg (fun q => cq15 (hgk.trans q.2))]
        · skip
          show u z = _
          rw [hs z]
          by_cases e2 : z < k ∧ g z = y
          · rw [if_pos e2, if_pos ⟨by omega, e2.2⟩]
          · rw [if_neg e2, if_neg (fun q => e2 ⟨by omega, q.2⟩)]
      · skip
        refine p_aload_n k122_18 rfl ?_
        refine p_getRv k122_19 (s_0 S) f_11_81_11 (r_0_14 S) ?_
        refine p_iload_n k122_22 rfl ?_
        refine p_iload_n k122_23 rfl ?_
        refine p_iastN k122_24 (s_43 S) (by omega) (by decide) ?_
        refine p_iincN (ls1 := [(0, _), (1, _), (2, _), (3, _)]) k122_25 rfl rfl ?_
        refine p_goto (tgt := 2) k122_28 (by decide) ?_
        rw [upc_uu]
        refine ih (k + 1) _ (by omega) (fun z => ?_)
        by_cases e : z = k
        · subst e
          refine (upc_eq _ _ _).trans ?_
          rw [if_pos ⟨by omega, hgk.symm.trans cq15⟩]
        · refine (upc_ne _ _ e).trans ?_
          show u z = _
          rw [hs z]
          by_cases e2 : z < k ∧ g z = y
          · rw [if_pos e2, if_pos ⟨by omega, e2.2⟩]
          · rw [if_neg e2, if_neg (fun q => e2 ⟨by omega, q.2⟩)]
  exact L 6 0 g (by omega) (fun z => by rw [if_neg (fun q => absurd q.1 (Nat.not_lt_zero _))])

theorem wB_A {R : Nat → Nat → Int32} {nh na k : Nat} (h : ixB (R 100 k) na = false) : wB R nh na k = 7 := by
  unfold wB
  rw [if_neg (by rw [h]; decide)]
theorem wB_B {R : Nat → Nat → Int32} {nh na k : Nat} (h : fnd (isI (R 101) (R 100 k)) nh 0 = none) : wB R nh na k = 7 := by
  unfold wB
  rw [h]
  split <;> rfl
theorem wB_q {R : Nat → Nat → Int32} {nh na k q : Nat} (h : ixB (R 100 k) na = true) (hf : fnd (isI (R 101) (R 100 k)) nh 0 = some q) : wB R nh na k = q := by
  unfold wB
  rw [if_pos h, hf]
  rfl
theorem clk_A {R : Nat → Nat → Int32} {nh na k z : Nat} (hna : na ≤ 6) (h : ixB (R 100 k) na = false) (ho : R 100 k = -1 ∨ ∃ a, a < na ∧ R 100 k = nI a) : claP R nh z k = false := by
  refine decide_eq_false (fun y => ?_)
  rcases ho with e | ⟨a, ha, e⟩
  · exact y.1 (by rw [y.2.1, e]; decide)
  · rw [e, ixB_nI (by omega), decide_eq_true ha] at h
    cases h
theorem clk_B {R : Nat → Nat → Int32} {nh k z : Nat} (h : fnd (isI (R 101) (R 100 k)) nh 0 = none) : claP R nh z k = false := by
  refine decide_eq_false (fun y => ?_)
  have h1 := y.2.2
  rw [y.2.1, h] at h1
  cases h1
theorem clk_C {R : Nat → Nat → Int32} {nh k z : Nat} (hz : z < k) (h : ownB R k (R 100 k) = false) : claP R nh z k = false := by
  refine decide_eq_false (fun y => ?_)
  rw [ownB_t hz y.2.1] at h
  cases h
theorem clp_t {R : Nat → Nat → Int32} {nh na k z q : Nat} (hna : na ≤ 6) (e : R 100 z = R 100 k) (h : ixB (R 100 k) na = true) (hf : fnd (isI (R 101) (R 100 k)) nh 0 = some q) : claP R nh z k = true := by
  refine decide_eq_true ⟨?_, e, by rw [e, hf]; rfl⟩
  rw [e]
  obtain ⟨a, ha, e2⟩ := ixB_of (by omega) h
  rw [e2, i_lt, nI_t (by omega)]
  show ¬ (a : Int) < 0
  omega
theorem cl_st {R : Nat → Nat → Int32} {nh k : Nat} (h : ∀ o, o < k → ∀ z, z < o → claP R nh z o = false) (h2 : ∀ z, z < k → claP R nh z k = false) : ∀ o, o < k + 1 → ∀ z, z < o → claP R nh z o = false := by
  intro o ho z hz
  by_cases e : o = k
  · subst e; exact h2 z hz
  · exact h o (by omega) z hz
theorem bk_7 {w : Nat → Nat} {j k n : Nat} {G : List Nat} (h : w k = 7) : bkL w (j + 1) k G n = bkL w j (k + 1) G n := by
  show cond (Nat.beq (w k) 7) _ _ = _
  rw [h]
  rfl
theorem bk_q {w : Nat → Nat} {j k n q m : Nat} {G : List Nat} (h : w k = q) (hq : q < 7) (hm : (G.getD k 0 = G.getD q 0 ∧ m = n) ∨ (G.getD k 0 ≠ G.getD q 0 ∧ m = n + 1)) : bkL w (j + 1) k G n = bkL w j (k + 1) (jnL (G.getD k 0) (G.getD q 0) G) m := by
  show cond (Nat.beq (w k) 7) _ (bkL w j (k + 1) (jnL (G.getD k 0) (G.getD (w k) 0) G) (cond (Nat.beq (G.getD k 0) (G.getD (w k) 0)) n (n + 1))) = _
  rw [h, show Nat.beq q 7 = false from by cases e : Nat.beq q 7; rfl; exact absurd (Nat.eq_of_beq_eq_true e) (by omega)]
  rcases hm with ⟨e, rfl⟩ | ⟨e, rfl⟩
  · rw [show Nat.beq (G.getD k 0) (G.getD q 0) = true from by rw [e]; exact Nat.beq_refl _]; rfl
  · rw [show Nat.beq (G.getD k 0) (G.getD q 0) = false from by cases e2 : Nat.beq (G.getD k 0) (G.getD q 0); rfl; exact absurd (Nat.eq_of_beq_eq_true e2) e]; rfl
theorem G60_ok {g : Nat → Int32} (h : ∀ z, z < 6 → g z = nI z) : GOK g G60 := by
  refine ⟨rfl, fun z hz => ?_⟩
  rw [h z hz]
  rcases (show z = 0 ∨ z = 1 ∨ z = 2 ∨ z = 3 ∨ z = 4 ∨ z = 5 by omega) with rfl | rfl | rfl | rfl | rfl | rfl <;> exact ⟨rfl, by decide⟩
theorem opt_1 {o : Option Nat} (h : optI (-1) o = -1) (hb : ∀ q, o = some q → q < 7) : o = none := by
  cases o with
  | none => rfl
  | some q => exact absurd h (nI_neg (by have := hb q rfl; omega) (by decide))
theorem fnd_lt {p : Nat → Bool} {n q : Nat} (h : fnd p n 0 = some q) : q < n := by
  have := (fnd_some h).2.1
  omega
set_option maxRecDepth 100000 in
set_option maxHeartbeats 4000000 in
theorem C_back {d : Nat} {I : Nat → Nat → Int32} {J : Nat → Nat → Int64} {K : Nat → Nat → Option Nat} {h : List xSh} (S : St K h) {R0 : Nat → Nat → Int32} {nh na dd cb ce tw : Nat} (C : CR I K h R0 na tw) (M : MI R0 nh na dd cb ce) (Q : AR R0 nh na dd)  : EvP (d + 1) 77 0 [(0, .ref (0))] [] (I, J, K, h) (QI (fun x t => x = (if claM R0 nh = true then -5 else nI (bkL (wB R0 nh na) nh 0 G60 0)) ∧ ∃ g, t = (upc I 43 g, J, K, h))) := by
  have hnh6 := M.nh6
  have hna6 := M.na6
  refine p_iconst (v := nI 0) k77_0 (by decide) ?_
  refine p_istore_n (ls' := [(0, _), (1, _)]) k77_1 rfl ?_
  have L : ∀ (j : Nat) (k : Nat) (g : Nat → Int32), k + j = 6 → (∀ z, z < k → g z = nI z) → EvP (d + 1) 77 2 [(0, .ref (0)), (1, .int (nI (k)))] [] (upc I 43 g, J, K, h) (QI (fun x t => x = (if claM R0 nh = true then -5 else nI (bkL (wB R0 nh na) nh 0 G60 0)) ∧ ∃ g, t = (upc I 43 g, J, K, h))) := by
    intro j
    induction j with
    | zero =>
      intro k g hk
      intro hs
      refine p_iload_n k77_2 rfl ?_
      refine p_bipush (v := nI 6) k77_3 (by decide) ?_
      refine p_icmp_geN (tgt := 21) k77_5 (by decide) (by omega) (by omega) (fun _ => ?_) (fun c => False.elim (by omega))
      refine p_iconst (v := nI 0) k77_21 (by decide) ?_
      refine p_istore_n (ls' := [(0, _), (1, _)]) k77_22 rfl ?_
      refine p_iconst (v := nI 0) k77_23 (by decide) ?_
      refine p_istore_n (ls' := [(0, _), (1, _), (2, _)]) k77_24 rfl ?_
      have L2 : ∀ (j : Nat) (k n : Nat) (g : Nat → Int32) (G : List Nat), k + j = nh → n ≤ k → GOK g G → (∀ o, o < k → ∀ z, z < o → claP R0 nh z o = false) → bkL (wB R0 nh na) j k G n = bkL (wB R0 nh na) nh 0 G60 0 → EvP (d + 1) 77 25 [(0, .ref (0)), (1, .int (nI (n))), (2, .int (nI (k)))] [] (upc I 43 g, J, K, h) (QI (fun x t => x = (if claM R0 nh = true then -5 else nI (bkL (wB R0 nh na) nh 0 G60 0)) ∧ ∃ g, t = (upc I 43 g, J, K, h))) := by
        intro j
        induction j with
        | zero =>
          intro k n g G hk
          intro hnk hG hcl hbk
          refine p_iload_n k77_25 rfl ?_
          refine p_aload_n k77_26 rfl ?_
          refine p_getRv k77_27 (s_0 S) f_11_14_11 (r_0_0 S) ?_
          refine p_getIv k77_30 (s_1 S) f_11_89_3 (show _ = nI nh from C.heads.trans M.nh) ?_
          refine p_icmp_geN (tgt := 121) k77_33 (by decide) (by omega) (by omega) (fun _ => ?_) (fun c => False.elim (by omega))
          refine p_iload_n k77_121 rfl ?_
          refine p_ireturn k77_122 rt_77 ?_
          exact ⟨by rw [if_neg (by rw [cla_f (fun o ho => hcl o (by omega))]; decide), ← hbk]; rfl, g, rfl⟩
        | succ j ih =>
          intro k n g G hk
          intro hnk hG hcl hbk
          refine p_iload_n k77_25 rfl ?_
          refine p_aload_n k77_26 rfl ?_
          refine p_getRv k77_27 (s_0 S) f_11_14_11 (r_0_0 S) ?_
          refine p_getIv k77_30 (s_1 S) f_11_89_3 (show _ = nI nh from C.heads.trans M.nh) ?_
          refine p_icmp_geN (tgt := 121) k77_33 (by decide) (by omega) (by omega) (fun c => False.elim (by omega)) (fun _ => ?_)
          refine p_aload_n k77_36 rfl ?_
          refine p_getRv k77_37 (s_0 S) f_11_14_11 (r_0_0 S) ?_
          refine p_getRv k77_40 (s_1 S) f_11_95_3 (r_1_2 S) ?_
          refine p_iload_n k77_43 rfl ?_
          refine p_ialdN k77_44 (s_3 S) (by omega) (by decide) (show _ = R0 100 k from congrFun C.a3 _) ?_
          refine p_istore_n (ls' := [(0, _), (1, _), (2, _), (3, _)]) k77_45 rfl ?_
          refine p_aload_n k77_46 rfl ?_
          refine p_getRv k77_47 (s_0 S) f_11_14_11 (r_0_0 S) ?_
          refine p_iload_n k77_50 rfl ?_
          refine p_cV1i k77_51 (s_1 S) c_11_151_3 rfl (Nat.le_of_ble_eq_true rfl) (C_isHat S (I := upc I 43 g) (n := na) (show _ = nI na from C.hats.trans M.na) hna6 (R0 100 k)) (fun x1 m1 hq => ?_)
          obtain ⟨rfl, rfl⟩ := hq
          refine p_if_eqB (tgt := 68) k77_54 (by decide) (fun cq54 => ?_) (fun cq54 => ?_)
          · skip
            refine p_iconst (v := (-1)) k77_68 (by decide) ?_
            refine p_istore (ls' := [(0, _), (1, _), (2, _), (3, _), (4, _)]) k77_69 rfl ?_
            refine p_iload k77_71 rfl ?_
            refine p_iconst (v := (-1)) k77_73 (by decide) ?_
            refine p_icmp_ne (tgt := 80) k77_74 (by decide) (fun c => False.elim (by exact c rfl)) (fun _ => ?_)
            refine p_goto (tgt := 115) k77_77 (by decide) ?_
            refine p_iincN (ls1 := [(0, _), (1, _), (2, _), (3, _), (4, _)]) k77_115 rfl rfl ?_
            refine p_goto (tgt := 25) k77_118 (by decide) ?_
            refine p_drop [0, 1, 2] rfl ?_
            exact ih (k + 1) n g G (by omega) (by omega) hG (cl_st hcl (fun z hz => clk_A hna6 cq54 (Q.own k (by omega)))) ((bk_7 (wB_A cq54)).symm.trans hbk)
          · skip
            refine p_aload_n k77_57 rfl ?_
            refine p_getRv k77_58 (s_0 S) f_11_14_11 (r_0_0 S) ?_
            refine p_iload_n k77_61 rfl ?_
            refine p_cV1i k77_62 (s_1 S) c_11_166_3 rfl (Nat.le_of_ble_eq_true rfl) (C_wearer S (I := upc I 43 g) (n := nh) (show _ = nI nh from C.heads.trans M.nh) hnh6 (R0 100 k)) (fun x1 m1 hq => ?_)
            obtain ⟨rfl, rfl⟩ := hq
            rw [show upc I 43 g 4 = R0 101 from C.a4]
            refine p_goto (tgt := 69) k77_65 (by decide) ?_
            refine p_istore (ls' := [(0, _), (1, _), (2, _), (3, _), (4, _)]) k77_69 rfl ?_
            refine p_iload k77_71 rfl ?_
            refine p_iconst (v := (-1)) k77_73 (by decide) ?_
            refine p_icmp_ne (tgt := 80) k77_74 (by decide) (fun cq74 => ?_) (fun cq74 => ?_)
            · skip
              obtain ⟨q, hq, hf⟩ : ∃ q, q < nh ∧ fnd (isI (R0 101) (R0 100 k)) nh 0 = some q := by
                cases hf : fnd (isI (R0 101) (R0 100 k)) nh 0 with
                | none => exact absurd (by rw [hf]; rfl) cq74
                | some q => exact ⟨q, fnd_lt hf, rfl⟩
              refine p_aload_n k77_80 rfl ?_
              refine p_iload_n k77_81 rfl ?_
              refine p_iload_n k77_82 rfl ?_
              refine p_cV2i k77_83 (s_0 S) c_11_241_11 rfl rfl (Nat.le_of_ble_eq_true rfl) (C_isOwnedBelow S (C.up (by decide) g) M Q (k := k) (by omega) (R0 100 k)) (fun x1 m1 hq => ?_)
              obtain ⟨rfl, rfl⟩ := hq
              refine p_if_eqB (tgt := 92) k77_86 (by decide) (fun cq86 => ?_) (fun cq86 => ?_)
              · skip
                refine p_aload_n k77_92 rfl ?_
                refine p_aload_n k77_93 rfl ?_
                refine p_getRv k77_94 (s_0 S) f_11_81_11 (r_0_14 S) ?_
                refine p_iload_n k77_97 rfl ?_
                refine p_ialdN k77_98 (s_43 S) (by omega) (by decide) (hG.2 k (by omega)).1 ?_
                refine p_aload_n k77_99 rfl ?_
                refine p_getRv k77_100 (s_0 S) f_11_81_11 (r_0_14 S) ?_
                refine p_iload k77_103 rfl ?_
                refine p_toI (z := (nI (q))) (by rw [hf]; rfl) ?_
                refine p_ialdN k77_105 (s_43 S) (by omega) (by decide) (hG.2 q (by omega)).1 ?_
                refine p_cV2i k77_106 (s_0 S) c_11_245_11 rfl rfl (Nat.le_of_ble_eq_true rfl) (C_joinGroups S C M Q g (nI (G.getD k 0)) (nI (G.getD q 0))) (fun x1 m1 hq => ?_)
                obtain ⟨rfl, rfl⟩ := hq
                have hg1 := (hG.2 k (by omega)).2
                have hg2 := (hG.2 q (by omega)).2
                refine p_if_eqB (tgt := 115) k77_109 (by decide) (fun cq109 => ?_) (fun cq109 => ?_)
                · skip
                  refine p_iincN (ls1 := [(0, _), (1, _), (2, _), (3, _), (4, _)]) k77_115 rfl rfl ?_
                  refine p_goto (tgt := 25) k77_118 (by decide) ?_
                  refine p_drop [0, 1, 2] rfl ?_
                  have hbb : (G.getD k 0 = G.getD q 0 ∧ n = n) ∨ (G.getD k 0 ≠ G.getD q 0 ∧ n = n + 1) := by
                    by_cases e : G.getD k 0 = G.getD q 0
                    · first | exact Or.inl ⟨e, rfl⟩ | exact absurd (congrArg nI e) (of_decide_eq_true cq109)
                    · first | exact Or.inr ⟨e, rfl⟩ | exact absurd (nI_inj (by omega) (by omega) (Decidable.of_not_not (of_decide_eq_false cq109))) e
                  exact ih (k + 1) _ _ (jnL (G.getD k 0) (G.getD q 0) G) (by omega) (by omega) (hG.jn hg1 hg2) (cl_st hcl (fun z hz => clk_C hz cq86)) ((bk_q (wB_q cq54 hf) (by omega) hbb).symm.trans hbk)
                · skip
                  refine p_iincN (ls1 := [(0, _), (1, _), (2, _), (3, _), (4, _)]) k77_112 rfl rfl ?_
                  refine p_iincN (ls1 := [(0, _), (1, _), (2, _), (3, _), (4, _)]) k77_115 rfl rfl ?_
                  refine p_goto (tgt := 25) k77_118 (by decide) ?_
                  refine p_drop [0, 1, 2] rfl ?_
                  have hbb : (G.getD k 0 = G.getD q 0 ∧ n + 1 = n) ∨ (G.getD k 0 ≠ G.getD q 0 ∧ n + 1 = n + 1) := by
                    by_cases e : G.getD k 0 = G.getD q 0
                    · first | exact Or.inl ⟨e, rfl⟩ | exact absurd (congrArg nI e) (of_decide_eq_true cq109)
                    · first | exact Or.inr ⟨e, rfl⟩ | exact absurd (nI_inj (by omega) (by omega) (Decidable.of_not_not (of_decide_eq_false cq109))) e
                  exact ih (k + 1) _ _ (jnL (G.getD k 0) (G.getD q 0) G) (by omega) (by omega) (hG.jn hg1 hg2) (cl_st hcl (fun z hz => clk_C hz cq86)) ((bk_q (wB_q cq54 hf) (by omega) hbb).symm.trans hbk)
              · skip
                refine p_bipush (v := (-5)) k77_89 (by decide) ?_
                refine p_ireturn k77_91 rt_77 ?_
                obtain ⟨z, hz, he⟩ := ownB_e cq86
                exact ⟨by rw [if_pos (cla_t hz (by omega) (clp_t hna6 he cq54 hf))], g, rfl⟩
            · skip
              refine p_goto (tgt := 115) k77_77 (by decide) ?_
              refine p_iincN (ls1 := [(0, _), (1, _), (2, _), (3, _), (4, _)]) k77_115 rfl rfl ?_
              refine p_goto (tgt := 25) k77_118 (by decide) ?_
              refine p_drop [0, 1, 2] rfl ?_
              have hf := opt_1 cq74 (fun q hq => by have := fnd_lt hq; omega)
              exact ih (k + 1) n g G (by omega) (by omega) hG (cl_st hcl (fun z hz => clk_B hf)) ((bk_7 (wB_B hf)).symm.trans hbk)
      exact L2 nh 0 0 g G60 (by omega) (Nat.le_refl _) (G60_ok (fun z hz => hs z (by omega))) (fun o ho => absurd ho (Nat.not_lt_zero _)) rfl
    | succ j ih =>
      intro k g hk
      intro hs
      refine p_iload_n k77_2 rfl ?_
      refine p_bipush (v := nI 6) k77_3 (by decide) ?_
      refine p_icmp_geN (tgt := 21) k77_5 (by decide) (by omega) (by omega) (fun c => False.elim (by omega)) (fun _ => ?_)
      refine p_aload_n k77_8 rfl ?_
      refine p_getRv k77_9 (s_0 S) f_11_81_11 (r_0_14 S) ?_
      refine p_iload_n k77_12 rfl ?_
      refine p_iload_n k77_13 rfl ?_
      refine p_iastN k77_14 (s_43 S) (by omega) (by decide) ?_
      refine p_iincN (ls1 := [(0, _), (1, _)]) k77_15 rfl rfl ?_
      refine p_goto (tgt := 2) k77_18 (by decide) ?_
      rw [upc_uu]
      refine ih (k + 1) _ (by omega) (fun z hz => ?_)
      by_cases e : z = k
      · subst e; exact upc_eq _ _ _
      · exact (upc_ne _ _ e).trans (hs z (by omega))
  refine p_self 43 ?_
  exact L 6 0 (I 43) (by omega) (fun z hz => absurd hz (Nat.not_lt_zero _))

