/-! the reference: ones, onwardBy, layBest, by -/
def popc (s : Nat) : Nat := (s.testBit 0).toNat + (s.testBit 1).toNat + (s.testBit 2).toNat + (s.testBit 3).toNat + (s.testBit 4).toNat + (s.testBit 5).toNat
theorem kern {s : Nat} (hs : s < 64) (h0 : s ≠ 0) : popc (s &&& (s - 1)) + 1 = popc s ∧ s &&& (s - 1) < s := by
  have H : ∀ s : Fin 64, s.val ≠ 0 → popc (s.val &&& (s.val - 1)) + 1 = popc s.val ∧ s.val &&& (s.val - 1) < s.val := by decide +kernel
  exact H ⟨s, hs⟩ h0
theorem popc_le (s : Nat) : popc s ≤ 6 := by
  have h : ∀ b : Bool, b.toNat ≤ 1 := by decide
  unfold popc
  have h0 := h (s.testBit 0)
  have h1 := h (s.testBit 1)
  have h2 := h (s.testBit 2)
  have h3 := h (s.testBit 3)
  have h4 := h (s.testBit 4)
  have h5 := h (s.testBit 5)
  omega
set_option maxRecDepth 100000 in
set_option maxHeartbeats 4000000 in
theorem M_ones {d : Nat} {I : Nat → Nat → Int32} {J : Nat → Nat → Int64} {K : Nat → Nat → Option Nat} {h : List xSh} (S : St K h) {s : Nat} (hs : s < 64) : EvP d 186 0 [(0, .ref (98)), (1, .int (nI (s)))] [] (I, J, K, h) (QI (fun x t => x = nI (popc s) ∧ t = (I, J, K, h))) := by
  refine p_iconst (v := nI 0) k186_0 (by decide) ?_
  refine p_istore_n (ls' := [(0, _), (1, _), (2, _)]) k186_1 rfl ?_
  refine p_iload_n k186_2 rfl ?_
  refine p_istore_n (ls' := [(0, _), (1, _), (2, _), (3, _)]) k186_3 rfl ?_
  have L : ∀ (j : Nat) (n q : Nat), q ≤ j → q < 64 → n + popc q = popc s → EvP d 186 4 [(0, .ref (98)), (1, .int (nI (s))), (2, .int (nI (n))), (3, .int (nI (q)))] [] (I, J, K, h) (QI (fun x t => x = nI (popc s) ∧ t = (I, J, K, h))) := by
    intro j
    induction j with
    | zero =>
      intro n q hk
      intro hq hn
      refine p_iload_n k186_4 rfl ?_
      refine p_if_eqN (tgt := 20) k186_5 (by decide) (by omega) (fun _ => ?_) (fun c => False.elim (by omega))
      refine p_iload_n k186_20 rfl ?_
      refine p_ireturn k186_21 rt_186 ?_
      exact ⟨by rw [← hn, show q = 0 by omega]; rfl, rfl⟩
    | succ j ih =>
      intro n q hk
      intro hq hn
      refine p_iload_n k186_4 rfl ?_
      refine p_if_eqN (tgt := 20) k186_5 (by decide) (by omega) (fun cq5 => ?_) (fun cq5 => ?_)
      · skip
        refine p_iload_n k186_20 rfl ?_
        refine p_ireturn k186_21 rt_186 ?_
        exact ⟨by rw [← hn, cq5]; rfl, rfl⟩
      · skip
        obtain ⟨hk1, hk2⟩ := kern hq cq5
        refine p_iincN (ls1 := [(0, _), (1, _), (2, _), (3, _)]) k186_8 rfl rfl ?_
        refine p_iload_n k186_11 rfl ?_
        refine p_iload_n k186_12 rfl ?_
        refine p_iconst (v := nI 1) k186_13 (by decide) ?_
        refine p_isubN (by omega) k186_14 ?_
        refine p_iandN k186_15 ?_
        refine p_istore_n (ls' := [(0, _), (1, _), (2, _), (3, _)]) k186_16 rfl ?_
        refine p_goto (tgt := 4) k186_17 (by decide) ?_
        exact ih (n + 1) _ (by omega) (by omega) (by omega)
  exact L s 0 s (Nat.le_refl _) hs (by omega)

/-- the most from a head on with hat a on it; with none -/
def byV (D : Nat → Nat → Int32) (nx : Nat → Int32) (k s a : Nat) : Int32 := if s.testBit a = true then -1 else if nx (s ||| 2 ^ a) < 0 then -1 else nx (s ||| 2 ^ a) + D a k
def wV0 (nx : Nat → Int32) (s : Nat) : Int32 := if nx s < 0 then -1 else nx s + nI 0
def fWb (D : Nat → Nat → Int32) (nx : Nat → Int32) (k s : Nat) (a : Nat) (x : Int32) : Int32 := mxI x (byV D nx k s a)
/-- the most from the last r heads, the hats of s being on others -/
def Wt (D : Nat → Nat → Int32) (nh na pr : Nat) : Nat → Nat → Int32
  | 0, s => if popc s = pr then nI 0 else -1
  | r + 1, s => fld (fWb D (Wt D nh na pr r) (nh - (r + 1)) s) na 0 (mxI (-1) (wV0 (Wt D nh na pr r) s))
theorem p_ishl7 {d y pc cn : Nat} {ls : List (Nat × Value)} {rest : List Value} {I : Nat → Nat → Int32} {J : Nat → Nat → Int64} {K : Nat → Nat → Option Nat} {h : List xSh} {Φ : xPost} {k : Nat} (hk : k < 7) (hd0 : xdec y pc = some (cn, .ishl, 1)) (k0 : EvP d y (pc + 1) ls (.int (nI (2 ^ k)) :: rest) (I, J, K, h) Φ) : EvP d y pc ls (.int (nI k) :: .int (nI 1) :: rest) (I, J, K, h) Φ := p_ishl hd0 (by
  rw [show nI 1 <<< (nI k &&& 31) = nI (2 ^ k) from by rcases (show k = 0 ∨ k = 1 ∨ k = 2 ∨ k = 3 ∨ k = 4 ∨ k = 5 ∨ k = 6 by omega) with rfl | rfl | rfl | rfl | rfl | rfl | rfl <;> decide]
  exact k0)
set_option maxRecDepth 100000 in
set_option maxHeartbeats 4000000 in
theorem M_onwA {d : Nat} {I : Nat → Nat → Int32} {J : Nat → Nat → Int64} {K : Nat → Nat → Option Nat} {h : List xSh} (S : St K h) {k s a : Nat} (hk : k < 6) (hs : s < 64) (ha : a < 6) : EvP (d + 1) 187 0 [(0, .ref (98)), (1, .int (nI (k))), (2, .int (nI (s))), (3, .int (nI (a)))] [] (I, J, K, h) (QI (fun x t => x = (if s.testBit a = true then -1 else if I 126 (64 * (k + 1) + (s ||| 2 ^ a)) < 0 then -1 else I 126 (64 * (k + 1) + (s ||| 2 ^ a)) + I 125 (6 * a + k)) ∧ t = (I, J, K, h))) := by
  refine p_iload_n k187_0 rfl ?_
  refine p_if_ltN (tgt := 15) k187_1 (by decide) (by omega) ?_
  refine p_aload_n k187_4 rfl ?_
  refine p_iload_n k187_5 rfl ?_
  refine p_iload_n k187_6 rfl ?_
  refine p_cV2i k187_7 (s_98 S) c_12_368_12 rfl rfl (Nat.le_of_ble_eq_true rfl) (M_has S (s := s) (k := a) (by omega) (by omega)) (fun x1 m1 hq => ?_)
  obtain ⟨rfl, rfl⟩ := hq
  refine p_if_eqB (tgt := 15) k187_10 (by decide) (fun cq10 => ?_) (fun cq10 => ?_)
  · skip
    have ho := or_lt64 hs ha
    refine p_aload_n k187_15 rfl ?_
    refine p_getRv k187_16 (s_98 S) f_12_135_12 (r_98_41 S) ?_
    refine p_bipush (v := nI 64) k187_19 (by decide) ?_
    refine p_iload_n k187_21 rfl ?_
    refine p_iconst (v := nI 1) k187_22 (by decide) ?_
    refine p_iaddN k187_23 ?_
    refine p_imulN k187_24 ?_
    refine p_iload_n k187_25 rfl ?_
    refine p_if_geN (tgt := 33) k187_26 (by decide) (by omega) ?_
    refine p_iload_n k187_33 rfl ?_
    refine p_iconst (v := nI 1) k187_34 (by decide) ?_
    refine p_iload_n k187_35 rfl ?_
    refine p_ishl1 (by omega) k187_36 ?_
    refine p_iorN k187_37 ?_
    refine p_iaddN k187_38 ?_
    refine p_ialdN k187_39 (s_126 S) (by omega) (by decide) rfl ?_
    refine p_istore (ls' := [(0, _), (1, _), (2, _), (3, _), (4, _)]) k187_40 rfl ?_
    refine p_iload k187_42 rfl ?_
    refine p_if_ge (tgt := 51) k187_44 (by decide) (fun cq44 => ?_) (fun cq44 => ?_)
    · skip
      refine p_iload k187_51 rfl ?_
      refine p_iload_n k187_53 rfl ?_
      refine p_if_geN (tgt := 61) k187_54 (by decide) (by omega) ?_
      refine p_aload_n k187_61 rfl ?_
      refine p_getRv k187_62 (s_98 S) f_12_129_12 (r_98_39 S) ?_
      refine p_bipush (v := nI 6) k187_65 (by decide) ?_
      refine p_iload_n k187_67 rfl ?_
      refine p_imulN k187_68 ?_
      refine p_iload_n k187_69 rfl ?_
      refine p_iaddN k187_70 ?_
      refine p_ialdN k187_71 (s_125 S) (by omega) (by decide) rfl ?_
      refine p_iadd k187_72 ?_
      refine p_ireturn k187_73 rt_187 ?_
      exact ⟨by rw [if_neg (by rw [cq10]; decide)]; first | rw [if_pos (i_lt0 cq44)] | rw [if_neg (i_ge0 cq44)], rfl⟩
    · skip
      refine p_iconst (v := (-1)) k187_47 (by decide) ?_
      refine p_goto (tgt := 73) k187_48 (by decide) ?_
      refine p_ireturn k187_73 rt_187 ?_
      exact ⟨by rw [if_neg (by rw [cq10]; decide)]; first | rw [if_pos (i_lt0 cq44)] | rw [if_neg (i_ge0 cq44)], rfl⟩
  · skip
    refine p_iconst (v := (-1)) k187_13 (by decide) ?_
    refine p_ireturn k187_14 rt_187 ?_
    exact ⟨by rw [if_pos cq10], rfl⟩

set_option maxRecDepth 100000 in
set_option maxHeartbeats 4000000 in
theorem M_onw0 {d : Nat} {I : Nat → Nat → Int32} {J : Nat → Nat → Int64} {K : Nat → Nat → Option Nat} {h : List xSh} (S : St K h) {k s : Nat} (hk : k < 6) (hs : s < 64) : EvP (d + 1) 187 0 [(0, .ref (98)), (1, .int (nI (k))), (2, .int (nI (s))), (3, .int ((-1)))] [] (I, J, K, h) (QI (fun x t => x = (if I 126 (64 * (k + 1) + s) < 0 then -1 else I 126 (64 * (k + 1) + s) + nI 0) ∧ t = (I, J, K, h))) := by
  refine p_iload_n k187_0 rfl ?_
  refine p_if_lt (tgt := 15) k187_1 (by decide) (fun _ => ?_) (fun c => False.elim (by exact absurd (by decide) c))
  refine p_aload_n k187_15 rfl ?_
  refine p_getRv k187_16 (s_98 S) f_12_135_12 (r_98_41 S) ?_
  refine p_bipush (v := nI 64) k187_19 (by decide) ?_
  refine p_iload_n k187_21 rfl ?_
  refine p_iconst (v := nI 1) k187_22 (by decide) ?_
  refine p_iaddN k187_23 ?_
  refine p_imulN k187_24 ?_
  refine p_iload_n k187_25 rfl ?_
  refine p_if_ge (tgt := 33) k187_26 (by decide) (fun c => False.elim (by exact absurd c (by decide))) (fun _ => ?_)
  refine p_iload_n k187_29 rfl ?_
  refine p_goto (tgt := 38) k187_30 (by decide) ?_
  refine p_iaddN k187_38 ?_
  refine p_ialdN k187_39 (s_126 S) (by omega) (by decide) rfl ?_
  refine p_istore (ls' := [(0, _), (1, _), (2, _), (3, _), (4, _)]) k187_40 rfl ?_
  refine p_iload k187_42 rfl ?_
  refine p_if_ge (tgt := 51) k187_44 (by decide) (fun cq44 => ?_) (fun cq44 => ?_)
  · skip
    refine p_iload k187_51 rfl ?_
    refine p_iload_n k187_53 rfl ?_
    refine p_if_ge (tgt := 61) k187_54 (by decide) (fun c => False.elim (by exact absurd c (by decide))) (fun _ => ?_)
    refine p_iconst (v := nI 0) k187_57 (by decide) ?_
    refine p_goto (tgt := 72) k187_58 (by decide) ?_
    refine p_iadd k187_72 ?_
    refine p_ireturn k187_73 rt_187 ?_
    exact ⟨by first | rw [if_pos (i_lt0 cq44)] | rw [if_neg (i_ge0 cq44)], rfl⟩
  · skip
    refine p_iconst (v := (-1)) k187_47 (by decide) ?_
    refine p_goto (tgt := 73) k187_48 (by decide) ?_
    refine p_ireturn k187_73 rt_187 ?_
    exact ⟨by first | rw [if_pos (i_lt0 cq44)] | rw [if_neg (i_ge0 cq44)], rfl⟩

theorem mx_n1 {x : Int32} (h : -1 ≤ x) : mxI (-1) x = x := by
  unfold mxI
  by_cases e : x < -1
  · rw [i_lt] at e; rw [i_le] at h; exact absurd h (Int.not_le.mpr e)
  · rw [if_neg e]
theorem mx_n2 (a b : Int32) : mxI a b = a ∨ mxI a b = b := by
  unfold mxI
  by_cases e : b < a
  · rw [if_pos e]; exact Or.inl rfl
  · rw [if_neg e]; exact Or.inr rfl
theorem fld_mem {f : Nat → Int32} : ∀ {j k : Nat} {x : Int32}, fld (fun a x => mxI x (f a)) j k x = x ∨ ∃ a, k ≤ a ∧ a < k + j ∧ f a = fld (fun a x => mxI x (f a)) j k x := by
  intro j
  induction j with
  | zero => intro k x; exact Or.inl rfl
  | succ j ih =>
    intro k x
    show fld _ j (k + 1) (mxI x (f k)) = x ∨ ∃ a, k ≤ a ∧ a < k + (j + 1) ∧ f a = fld _ j (k + 1) (mxI x (f k))
    rcases ih (k := k + 1) (x := mxI x (f k)) with h | ⟨a, h1, h2, h3⟩
    · rcases mx_n2 x (f k) with e | e
      · exact Or.inl (h.trans e)
      · exact Or.inr ⟨k, by omega, by omega, (h.trans e).symm⟩
    · exact Or.inr ⟨a, by omega, by omega, h3⟩
theorem dec_eq (x : Int32) : x + Int32.ofInt (-1) = x - nI 1 := by rw [Int32.sub_eq_add_neg, show Int32.ofInt (-1) = -nI 1 by decide]
/-- the hat that the r + 1st head from behind gets, the hats of s being on those ahead -/
def chs (D : Nat → Nat → Int32) (nh na pr r s : Nat) : Option Nat := if wV0 (Wt D nh na pr r) s = Wt D nh na pr (r + 1) s then none else fnd (fun a => decide (byV D (Wt D nh na pr r) (nh - (r + 1)) s a = Wt D nh na pr (r + 1) s)) na 0
def setN (s : Nat) : Option Nat → Nat
  | none => s
  | some a => s ||| 2 ^ a
/-- the hats on the heads ahead of head k -/
def stN (D : Nat → Nat → Int32) (nh na pr : Nat) : Nat → Nat
  | 0 => 0
  | k + 1 => setN (stN D nh na pr k) (chs D nh na pr (nh - (k + 1)) (stN D nh na pr k))
theorem wV0_ge (nx : Nat → Int32) (s : Nat) : -1 ≤ wV0 nx s := by
  unfold wV0
  by_cases h : nx s < 0
  · rw [if_pos h]; decide
  · rw [if_neg h, show nx s + nI 0 = nx s from Int32.add_zero _]
    rw [i_lt] at h
    rw [i_le]
    have h1 : (-1 : Int32).toInt = -1 := rfl
    have h2 : (0 : Int32).toInt = 0 := rfl
    omega
theorem fnd_ex {p : Nat → Bool} : ∀ {j k a : Nat}, k ≤ a → a < k + j → p a = true → ∃ b, fnd p j k = some b := by
  intro j
  induction j with
  | zero => intro k a h1 h2; omega
  | succ j ih =>
    intro k a h1 h2 h3
    unfold fnd
    by_cases hp : p k = true
    · exact ⟨k, if_pos hp⟩
    · rw [if_neg hp]
      have : a ≠ k := fun e => hp (by rw [← e]; exact h3)
      exact ih (k := k + 1) (by omega) (by omega) h3
theorem chs_ex {D : Nat → Nat → Int32} {nh na pr r s : Nat} (h : ¬ wV0 (Wt D nh na pr r) s = Wt D nh na pr (r + 1) s) : ∃ a, fnd (fun a => decide (byV D (Wt D nh na pr r) (nh - (r + 1)) s a = Wt D nh na pr (r + 1) s)) na 0 = some a := by
  rcases fld_mem (f := byV D (Wt D nh na pr r) (nh - (r + 1)) s) (j := na) (k := 0) (x := mxI (-1) (wV0 (Wt D nh na pr r) s)) with e | ⟨a, h1, h2, h3⟩
  · rw [mx_n1 (wV0_ge _ _)] at e
    exact absurd (e.symm.trans (by show fld _ na 0 _ = fld _ na 0 _; rw [mx_n1 (wV0_ge _ _)]; rfl)) h
  · exact fnd_ex (Nat.zero_le _) (by omega) (decide_eq_true h3)
theorem fLay_at {I : Nat → Nat → Int32} {cb ce a0 : Nat} : ∀ (j k : Nat) (u : Nat → Int32) (m : Nat), fld (fLayH I cb ce a0) j k u m = if 6 * a0 + k ≤ m ∧ m < 6 * a0 + k + j then deedM I cb ce a0 (m - 6 * a0) else u m := by
  intro j
  induction j with
  | zero => intro k u m; rw [if_neg (by omega)]; rfl
  | succ j ih =>
    intro k u m
    show fld _ j (k + 1) (fLayH I cb ce a0 k u) m = _
    rw [ih]
    by_cases h1 : 6 * a0 + (k + 1) ≤ m ∧ m < 6 * a0 + (k + 1) + j
    · rw [if_pos h1, if_pos (by omega)]
    · rw [if_neg h1]
      by_cases h2 : m = 6 * a0 + k
      · subst h2
        rw [if_pos (by omega), show 6 * a0 + k - 6 * a0 = k by omega]
        exact upc_eq _ _ _
      · rw [if_neg (by omega)]; exact upc_ne _ _ h2
theorem layA_at {I : Nat → Nat → Int32} {nh cb ce : Nat} (h6 : nh ≤ 6) : ∀ (j k : Nat) (u : Nat → Int32) (a q : Nat), q < nh → fld (fLayA I nh cb ce) j k u (6 * a + q) = if k ≤ a ∧ a < k + j then deedM I cb ce a q else u (6 * a + q) := by
  intro j
  induction j with
  | zero => intro k u a q _; rw [if_neg (by omega)]; rfl
  | succ j ih =>
    intro k u a q hq
    show fld _ j (k + 1) (fLayA I nh cb ce k u) (6 * a + q) = _
    rw [ih _ _ _ _ hq]
    by_cases h1 : k + 1 ≤ a ∧ a < k + 1 + j
    · rw [if_pos h1, if_pos (by omega)]
    · rw [if_neg h1]
      show fld (fLayH I cb ce k) nh 0 u (6 * a + q) = _
      rw [fLay_at]
      by_cases h2 : a = k
      · subst h2; rw [if_pos (by omega), if_pos (by omega), show 6 * a + q - 6 * a = q by omega]
      · rw [if_neg (by omega), if_neg (by omega)]
theorem lay_at {I : Nat → Nat → Int32} {nh na cb ce a q : Nat} (h6 : nh ≤ 6) (ha : a < na) (hq : q < nh) : layU I nh na cb ce (6 * a + q) = deedM I cb ce a q := by
  unfold layU
  rw [layA_at h6 _ _ _ _ _ hq, if_pos (by omega)]
/-- the least of two numbers -/
def mnN (a b : Nat) : Nat := if b ≤ a then b else a
theorem stN_lt {D : Nat → Nat → Int32} {nh na pr : Nat} (h6 : na ≤ 6) : ∀ k, stN D nh na pr k < 64 := by
  intro k
  induction k with
  | zero => show 0 < 64; decide
  | succ k ih =>
    show setN _ _ < 64
    cases hc : chs D nh na pr (nh - (k + 1)) (stN D nh na pr k) with
    | none => exact ih
    | some a =>
      unfold chs at hc
      split at hc
      · cases hc
      · exact or_lt64 ih (by have := (fnd_some hc).2.1; omega)
set_option maxRecDepth 100000 in
set_option maxHeartbeats 4000000 in
theorem M_layBest {d : Nat} {I : Nat → Nat → Int32} {J : Nat → Nat → Int64} {K : Nat → Nat → Option Nat} {h : List xSh} (S : St K h) {nh na dd cb ce : Nat} (M : MI I nh na dd cb ce) (g : Nat → Int32) {pr : Nat} (hprd : mnN nh na = pr) : EvP (d + 5) 188 0 [(0, .ref (98))] [] (upc I 120 g, J, K, h) (QV (fun t => ∃ I', t = (I', J, K, h) ∧ AG I I' ∧ I' 98 40 = Wt (deedM I cb ce) nh na pr nh 0 ∧ ∀ k, k < nh → I' 124 k = optI (-1) (chs (deedM I cb ce) nh na pr (nh - (k + 1)) (stN (deedM I cb ce) nh na pr k)))) := by
  have hnh : upc I 120 g 98 0 = nI nh := M.nh
  have hnh6 := M.nh6
  have hna : upc I 120 g 98 1 = nI na := M.na
  have hna6 := M.na6
  refine p_aload_n k188_0 rfl ?_
  refine p_cV0v k188_1 (s_98 S) c_12_371_12 (Nat.le_of_ble_eq_true rfl) (M_layDeeds S M g) (fun m1 hq => ?_)
  obtain ⟨g, rfl⟩ := hq
  obtain ⟨B, hB⟩ : ∃ B, B = upc (upc I 125 (layU I nh na cb ce)) 120 g := ⟨_, rfl⟩
  rw [← hB]
  have hBh : B 98 0 = nI nh := by rw [hB]; exact M.nh
  have hBa : B 98 1 = nI na := by rw [hB]; exact M.na
  have hB125 : ∀ a k, a < na → k < nh → B 125 (6 * a + k) = deedM I cb ce a k := fun a k h1 h2 => by rw [hB]; exact lay_at M.nh6 h1 h2
  have hAG : ∀ (u : Nat → Int32) (v : Int32) (w : Nat → Int32), AG I (upc (upc (upc B 126 u) 98 (upc (B 98) 40 v)) 124 w) := by
    intro u v w c k z
    by_cases h1 : c = 98
    · subst h1
      have h2 : k ≠ 40 := by intro e; subst e; cases z
      show upc (B 98) 40 v k = _
      rw [upc_ne _ _ h2, hB]; rfl
    have n : ∀ y, xsc y k = true → c ≠ y := fun y hy e => by subst e; rw [hy] at z; cases z
    rw [upc_ne _ _ (n 124 rfl), upc_ne _ _ h1, upc_ne _ _ (n 126 rfl), hB, upc_ne _ _ (n 120 rfl), upc_ne _ _ (n 125 rfl)]
  have hpr6 : pr ≤ 6 := by rw [← hprd]; unfold mnN; split <;> omega
  refine p_aload_n k188_4 rfl ?_
  refine p_getIv k188_5 (s_98 S) f_12_7_12 hBh ?_
  refine p_aload_n k188_8 rfl ?_
  refine p_getIv k188_9 (s_98 S) f_12_13_12 hBa ?_
  refine p_icmp_geN (tgt := 22) k188_12 (by decide) (by omega) (by omega) (fun cq12 => ?_) (fun cq12 => ?_)
  · skip
    refine p_aload_n k188_22 rfl ?_
    refine p_getIv k188_23 (s_98 S) f_12_13_12 hBa ?_
    refine p_toI (z := nI pr) (congrArg nI (show na = pr from by rw [← hprd]; unfold mnN; first | rw [if_pos cq12] | rw [if_neg (Nat.not_le.mpr cq12)])) ?_
    refine p_istore_n (ls' := [(0, _), (1, _)]) k188_26 rfl ?_
    refine p_iconst (v := nI 0) k188_27 (by decide) ?_
    refine p_istore_n (ls' := [(0, _), (1, _), (2, _)]) k188_28 rfl ?_
    have LA : ∀ (j : Nat) (s : Nat) (u : Nat → Int32), s + j = 64 → (∀ z, z < s → u (64 * nh + z) = Wt (deedM I cb ce) nh na pr 0 z) → EvP (d + 5) 188 29 [(0, .ref (98)), (1, .int (nI (pr))), (2, .int (nI (s)))] [] (upc B 126 u, J, K, h) (QV (fun t => ∃ I', t = (I', J, K, h) ∧ AG I I' ∧ I' 98 40 = Wt (deedM I cb ce) nh na pr nh 0 ∧ ∀ k, k < nh → I' 124 k = optI (-1) (chs (deedM I cb ce) nh na pr (nh - (k + 1)) (stN (deedM I cb ce) nh na pr k)))) := by
      intro j
      induction j with
      | zero =>
        intro s u hk
        intro hs
        refine p_iload_n k188_29 rfl ?_
        refine p_bipush (v := nI 64) k188_30 (by decide) ?_
        refine p_icmp_geN (tgt := 69) k188_32 (by decide) (by omega) (by omega) (fun _ => ?_) (fun c => False.elim (by omega))
        refine p_aload_n k188_69 rfl ?_
        refine p_getIv k188_70 (s_98 S) f_12_7_12 hBh ?_
        refine p_iconst (v := nI 1) k188_73 (by decide) ?_
        refine p_isub k188_74 ?_
        refine p_istore_n (ls' := [(0, _), (1, _), (2, _)]) k188_75 rfl ?_
        have LB : ∀ (j : Nat) (x : Int32) (u : Nat → Int32), x = nI j - nI 1 → j ≤ nh → (∀ q, j ≤ q → q ≤ nh → ∀ s, s < 64 → u (64 * q + s) = Wt (deedM I cb ce) nh na pr (nh - q) s) → EvP (d + 5) 188 76 [(0, .ref (98)), (1, .int (nI (pr))), (2, .int (x))] [] (upc B 126 u, J, K, h) (QV (fun t => ∃ I', t = (I', J, K, h) ∧ AG I I' ∧ I' 98 40 = Wt (deedM I cb ce) nh na pr nh 0 ∧ ∀ k, k < nh → I' 124 k = optI (-1) (chs (deedM I cb ce) nh na pr (nh - (k + 1)) (stN (deedM I cb ce) nh na pr k)))) := by
          intro j
          induction j with
          | zero =>
            intro x u hk
            intro hj hu
            · skip
              subst hk
              have hU : (∀ q, 0 ≤ q → q ≤ nh → ∀ s, s < 64 → u (64 * q + s) = Wt (deedM I cb ce) nh na pr (nh - q) s) := hu
              refine p_iload_n k188_76 rfl ?_
              refine p_if_lt (tgt := 150) k188_77 (by decide) (fun _ => ?_) (fun c => False.elim (by exact absurd (by decide) c))
              refine p_aload_n k188_150 rfl ?_
              refine p_aload_n k188_151 rfl ?_
              refine p_getRv k188_152 (s_98 S) f_12_135_12 (r_98_41 S) ?_
              refine p_iconst (v := nI 0) k188_155 (by decide) ?_
              refine p_ialdN k188_156 (s_126 S) (by omega) (by decide) (hU 0 (by omega) (by omega) 0 (by omega)) ?_
              refine p_putIv k188_157 (s_98 S) g_12_132_12 n_188_12_40 ?_
              refine p_iconst (v := nI 0) k188_160 (by decide) ?_
              refine p_istore_n (ls' := [(0, _), (1, _), (2, _)]) k188_161 rfl ?_
              refine p_iconst (v := nI 0) k188_162 (by decide) ?_
              refine p_istore_n (ls' := [(0, _), (1, _), (2, _), (3, _)]) k188_163 rfl ?_
              have LE : ∀ (j : Nat) (k st : Nat) (w : Nat → Int32), k + j = nh → st = stN (deedM I cb ce) nh na pr k → (∀ q, q < k → w q = optI (-1) (chs (deedM I cb ce) nh na pr (nh - (q + 1)) (stN (deedM I cb ce) nh na pr q))) → EvP (d + 5) 188 164 [(0, .ref (98)), (1, .int (nI (pr))), (2, .int (nI (st))), (3, .int (nI (k)))] [] (upc (upc (upc B 126 u) 98 (upc (B 98) 40 (Wt (deedM I cb ce) nh na pr nh 0))) 124 w, J, K, h) (QV (fun t => ∃ I', t = (I', J, K, h) ∧ AG I I' ∧ I' 98 40 = Wt (deedM I cb ce) nh na pr nh 0 ∧ ∀ k, k < nh → I' 124 k = optI (-1) (chs (deedM I cb ce) nh na pr (nh - (k + 1)) (stN (deedM I cb ce) nh na pr k)))) := by
                intro j
                induction j with
                | zero =>
                  intro k st w hk
                  intro hst hw
                  refine p_iload_n k188_164 rfl ?_
                  refine p_aload_n k188_165 rfl ?_
                  refine p_getIv k188_166 (s_98 S) f_12_7_12 hBh ?_
                  refine p_icmp_geN (tgt := 233) k188_169 (by decide) (by omega) (by omega) (fun _ => ?_) (fun c => False.elim (by omega))
                  refine p_return k188_233 rt_188 ?_
                  exact ⟨_, rfl, hAG u (Wt (deedM I cb ce) nh na pr nh 0) w, rfl, fun q hq => hw q (by omega)⟩
                | succ j ih =>
                  intro k st w hk
                  intro hst hw
                  subst hst
                  have ih0 := ih
                  refine p_iload_n k188_164 rfl ?_
                  refine p_aload_n k188_165 rfl ?_
                  refine p_getIv k188_166 (s_98 S) f_12_7_12 hBh ?_
                  refine p_icmp_geN (tgt := 233) k188_169 (by decide) (by omega) (by omega) (fun c => False.elim (by omega)) (fun _ => ?_)
                  refine p_iconst (v := (-1)) k188_172 (by decide) ?_
                  refine p_istore (ls' := [(0, _), (1, _), (2, _), (3, _), (4, _)]) k188_173 rfl ?_
                  obtain ⟨r, hr⟩ : ∃ r, nh = k + 1 + r := ⟨nh - (k + 1), by omega⟩
                  have hr1 : nh - (k + 1) = r := by omega
                  have hr2 : nh - (r + 1) = k := by omega
                  have hUU : ∀ s, s < 64 → u (64 * (k + 1) + s) = Wt (deedM I cb ce) nh na pr r s := fun s hs => by rw [hU (k + 1) (by omega) (by omega) s hs, hr1]
                  have hU0 : ∀ s, s < 64 → u (64 * k + s) = Wt (deedM I cb ce) nh na pr (r + 1) s := fun s hs => by rw [hU k (by omega) (by omega) s hs, show nh - k = r + 1 by omega]
                  have hst := stN_lt (D := (deedM I cb ce)) (nh := nh) (pr := pr) M.na6 k
                  refine p_aload_n k188_175 rfl ?_
                  refine p_iload_n k188_176 rfl ?_
                  refine p_iload_n k188_177 rfl ?_
                  refine p_iload k188_178 rfl ?_
                  refine p_cV3i k188_180 (s_98 S) c_12_377_12 rfl rfl rfl (Nat.le_of_ble_eq_true rfl) (M_onw0 S (I := upc (upc (upc B 126 u) 98 (upc (B 98) 40 (Wt (deedM I cb ce) nh na pr nh 0))) 124 w) (k := k) (s := stN (deedM I cb ce) nh na pr k) (by omega) hst) (fun x1 m1 hq => ?_)
                  obtain ⟨rfl, rfl⟩ := hq
                  rw [show (if (upc (upc (upc B 126 u) 98 (upc (B 98) 40 (Wt (deedM I cb ce) nh na pr nh 0))) 124 w) 126 (64 * (k + 1) + (stN (deedM I cb ce) nh na pr k)) < 0 then (-1 : Int32) else (upc (upc (upc B 126 u) 98 (upc (B 98) 40 (Wt (deedM I cb ce) nh na pr nh 0))) 124 w) 126 (64 * (k + 1) + (stN (deedM I cb ce) nh na pr k)) + nI 0) = wV0 (Wt (deedM I cb ce) nh na pr r) (stN (deedM I cb ce) nh na pr k) from by
                    show (if u _ < 0 then _ else u _ + nI 0) = _
                    unfold wV0
                    rw [hUU _ hst]]
                  refine p_aload_n k188_183 rfl ?_
                  refine p_getRv k188_184 (s_98 S) f_12_135_12 (r_98_41 S) ?_
                  refine p_bipush (v := nI 64) k188_187 (by decide) ?_
                  refine p_iload_n k188_189 rfl ?_
                  refine p_imulN k188_190 ?_
                  refine p_iload_n k188_191 rfl ?_
                  refine p_iaddN k188_192 ?_
                  refine p_ialdN k188_193 (s_126 S) (by omega) (by decide) (hU0 _ hst) ?_
                  refine p_icmp_eq (tgt := 203) k188_194 (by decide) (fun cq194 => ?_) (fun cq194 => ?_)
                  · skip
                    have hch : chs (deedM I cb ce) nh na pr r (stN (deedM I cb ce) nh na pr k) = none := if_pos cq194
                    refine p_aload_n k188_203 rfl ?_
                    refine p_getRv k188_204 (s_98 S) f_12_126_12 (r_98_38 S) ?_
                    refine p_iload_n k188_207 rfl ?_
                    refine p_iload k188_208 rfl ?_
                    refine p_iastN k188_210 (s_124 S) (by omega) (by decide) ?_
                    refine p_iload_n k188_211 rfl ?_
                    refine p_iload k188_212 rfl ?_
                    refine p_if_ge (tgt := 221) k188_214 (by decide) (fun c => False.elim (by exact absurd c (by decide))) (fun _ => ?_)
                    refine p_iconst (v := nI 0) k188_217 (by decide) ?_
                    refine p_goto (tgt := 225) k188_218 (by decide) ?_
                    refine p_iorN k188_225 ?_
                    refine p_istore_n (ls' := [(0, _), (1, _), (2, _), (3, _), (4, _)]) k188_226 rfl ?_
                    refine p_iincN (ls1 := [(0, _), (1, _), (2, _), (3, _), (4, _)]) k188_227 rfl rfl ?_
                    refine p_goto (tgt := 164) k188_230 (by decide) ?_
                    refine p_drop [0, 1, 2, 3] rfl ?_
                    rw [Nat.or_zero]
                    rw [upc_uu]
                    have hN : stN (deedM I cb ce) nh na pr (k + 1) = setN (stN (deedM I cb ce) nh na pr k) (none) := by show setN _ (chs _ _ _ _ (nh - (k + 1)) _) = _; rw [hr1, hch]
                    refine ih0 (k + 1) _ _ (by omega) (by rw [hN]; first | rfl | (show _ = _ ; simp [setN])) (fun q hq => ?_)
                    by_cases e : q = k
                    · subst e; refine (upc_eq _ _ _).trans ?_; rw [hr1, hch]; rfl
                    · exact (upc_ne _ _ e).trans (hw q (by omega))
                  · skip
                    refine p_iinc (v := (nI (0))) (ls' := [(0, _), (1, _), (2, _), (3, _), (4, _)]) k188_197 rfl (by decide) rfl ?_
                    refine p_goto (tgt := 175) k188_200 (by decide) ?_
                    obtain ⟨a0, hfa⟩ := chs_ex (D := (deedM I cb ce)) (nh := nh) (na := na) (pr := pr) (r := r) (s := stN (deedM I cb ce) nh na pr k) (fun e => cq194 e)
                    have hch : chs (deedM I cb ce) nh na pr r (stN (deedM I cb ce) nh na pr k) = some a0 := by unfold chs; rw [if_neg (fun e => cq194 e)]; exact hfa
                    have ha0 := (fnd_some hfa).2.1
                    have LF : ∀ (j : Nat) (a : Nat), a + j = na → fnd (fun a => decide (byV (deedM I cb ce) (Wt (deedM I cb ce) nh na pr r) (nh - (r + 1)) (stN (deedM I cb ce) nh na pr k) a = Wt (deedM I cb ce) nh na pr (r + 1) (stN (deedM I cb ce) nh na pr k))) j a = some a0 → EvP (d + 5) 188 175 [(0, .ref (98)), (1, .int (nI (pr))), (2, .int (nI (stN (deedM I cb ce) nh na pr k))), (3, .int (nI (k))), (4, .int (nI (a)))] [] (upc (upc (upc B 126 u) 98 (upc (B 98) 40 (Wt (deedM I cb ce) nh na pr nh 0))) 124 w, J, K, h) (QV (fun t => ∃ I', t = (I', J, K, h) ∧ AG I I' ∧ I' 98 40 = Wt (deedM I cb ce) nh na pr nh 0 ∧ ∀ k, k < nh → I' 124 k = optI (-1) (chs (deedM I cb ce) nh na pr (nh - (k + 1)) (stN (deedM I cb ce) nh na pr k)))) := by
                      intro j
                      induction j with
                      | zero =>
                        intro a hk
                        intro hf
                        exact absurd hf (by intro z; cases z)
                      | succ j ih =>
                        intro a hk
                        intro hf
                        refine p_aload_n k188_175 rfl ?_
                        refine p_iload_n k188_176 rfl ?_
                        refine p_iload_n k188_177 rfl ?_
                        refine p_iload k188_178 rfl ?_
                        refine p_cV3i k188_180 (s_98 S) c_12_377_12 rfl rfl rfl (Nat.le_of_ble_eq_true rfl) (M_onwA S (I := upc (upc (upc B 126 u) 98 (upc (B 98) 40 (Wt (deedM I cb ce) nh na pr nh 0))) 124 w) (k := k) (s := stN (deedM I cb ce) nh na pr k) (a := a) (by omega) hst (by omega)) (fun x1 m1 hq => ?_)
                        obtain ⟨rfl, rfl⟩ := hq
                        rw [show (if (stN (deedM I cb ce) nh na pr k).testBit a = true then (-1 : Int32) else if (upc (upc (upc B 126 u) 98 (upc (B 98) 40 (Wt (deedM I cb ce) nh na pr nh 0))) 124 w) 126 (64 * (k + 1) + ((stN (deedM I cb ce) nh na pr k) ||| 2 ^ a)) < 0 then -1 else (upc (upc (upc B 126 u) 98 (upc (B 98) 40 (Wt (deedM I cb ce) nh na pr nh 0))) 124 w) 126 (64 * (k + 1) + ((stN (deedM I cb ce) nh na pr k) ||| 2 ^ a)) + (upc (upc (upc B 126 u) 98 (upc (B 98) 40 (Wt (deedM I cb ce) nh na pr nh 0))) 124 w) 125 (6 * a + k)) = byV (deedM I cb ce) (Wt (deedM I cb ce) nh na pr r) k (stN (deedM I cb ce) nh na pr k) a from by
                          show (if _ then _ else if u _ < 0 then _ else u _ + B 125 _) = _
                          unfold byV
                          rw [hUU _ (or_lt64 hst (by omega)), hB125 a k (by omega) (by omega)]]
                        refine p_aload_n k188_183 rfl ?_
                        refine p_getRv k188_184 (s_98 S) f_12_135_12 (r_98_41 S) ?_
                        refine p_bipush (v := nI 64) k188_187 (by decide) ?_
                        refine p_iload_n k188_189 rfl ?_
                        refine p_imulN k188_190 ?_
                        refine p_iload_n k188_191 rfl ?_
                        refine p_iaddN k188_192 ?_
                        refine p_ialdN k188_193 (s_126 S) (by omega) (by decide) (hU0 _ hst) ?_
                        refine p_icmp_eq (tgt := 203) k188_194 (by decide) (fun cq194 => ?_) (fun cq194 => ?_)
                        · skip
                          have hpa : (fun a => decide (byV (deedM I cb ce) (Wt (deedM I cb ce) nh na pr r) (nh - (r + 1)) (stN (deedM I cb ce) nh na pr k) a = Wt (deedM I cb ce) nh na pr (r + 1) (stN (deedM I cb ce) nh na pr k))) a = true := decide_eq_true (by rw [hr2]; exact cq194)
                          have haa : a0 = a := by rw [show fnd (fun a => decide (byV (deedM I cb ce) (Wt (deedM I cb ce) nh na pr r) (nh - (r + 1)) (stN (deedM I cb ce) nh na pr k) a = Wt (deedM I cb ce) nh na pr (r + 1) (stN (deedM I cb ce) nh na pr k))) (j + 1) a = some a from if_pos hpa] at hf; exact (Option.some.inj hf).symm
                          subst haa
                          refine p_aload_n k188_203 rfl ?_
                          refine p_getRv k188_204 (s_98 S) f_12_126_12 (r_98_38 S) ?_
                          refine p_iload_n k188_207 rfl ?_
                          refine p_iload k188_208 rfl ?_
                          refine p_iastN k188_210 (s_124 S) (by omega) (by decide) ?_
                          refine p_iload_n k188_211 rfl ?_
                          refine p_iload k188_212 rfl ?_
                          refine p_if_geN (tgt := 221) k188_214 (by decide) (by omega) ?_
                          refine p_iconst (v := nI 1) k188_221 (by decide) ?_
                          refine p_iload k188_222 rfl ?_
                          refine p_ishl1 (by omega) k188_224 ?_
                          refine p_iorN k188_225 ?_
                          refine p_istore_n (ls' := [(0, _), (1, _), (2, _), (3, _), (4, _)]) k188_226 rfl ?_
                          refine p_iincN (ls1 := [(0, _), (1, _), (2, _), (3, _), (4, _)]) k188_227 rfl rfl ?_
                          refine p_goto (tgt := 164) k188_230 (by decide) ?_
                          refine p_drop [0, 1, 2, 3] rfl ?_
                          skip
                          rw [upc_uu]
                          have hN : stN (deedM I cb ce) nh na pr (k + 1) = setN (stN (deedM I cb ce) nh na pr k) (some a0) := by show setN _ (chs _ _ _ _ (nh - (k + 1)) _) = _; rw [hr1, hch]
                          refine ih0 (k + 1) _ _ (by omega) (by rw [hN]; first | rfl | (show _ = _ ; simp [setN])) (fun q hq => ?_)
                          by_cases e : q = k
                          · subst e; refine (upc_eq _ _ _).trans ?_; rw [hr1, hch]; rfl
                          · exact (upc_ne _ _ e).trans (hw q (by omega))
                        · skip
                          have hpa : ¬ (fun a => decide (byV (deedM I cb ce) (Wt (deedM I cb ce) nh na pr r) (nh - (r + 1)) (stN (deedM I cb ce) nh na pr k) a = Wt (deedM I cb ce) nh na pr (r + 1) (stN (deedM I cb ce) nh na pr k))) a = true := by show ¬ decide _ = true; rw [decide_eq_true_iff, hr2]; exact cq194
                          refine p_iincN (ls1 := [(0, _), (1, _), (2, _), (3, _), (4, _)]) k188_197 rfl rfl ?_
                          refine p_goto (tgt := 175) k188_200 (by decide) ?_
                          exact ih (a + 1) (by omega) (by rw [show fnd (fun a => decide (byV (deedM I cb ce) (Wt (deedM I cb ce) nh na pr r) (nh - (r + 1)) (stN (deedM I cb ce) nh na pr k) a = Wt (deedM I cb ce) nh na pr (r + 1) (stN (deedM I cb ce) nh na pr k))) (j + 1) a = fnd (fun a => decide (byV (deedM I cb ce) (Wt (deedM I cb ce) nh na pr r) (nh - (r + 1)) (stN (deedM I cb ce) nh na pr k) a = Wt (deedM I cb ce) nh na pr (r + 1) (stN (deedM I cb ce) nh na pr k))) j (a + 1) from if_neg hpa] at hf; exact hf)
                    exact LF na 0 (by omega) hfa
              refine p_self 124 ?_
              exact LE nh 0 0 _ (by omega) rfl (fun q hq => absurd hq (Nat.not_lt_zero _))
          | succ j ih =>
            intro x u hk
            intro hj hu
            · skip
              obtain ⟨m, hm⟩ : ∃ m, m = j := ⟨j, rfl⟩
              have hxm : x = nI m := by rw [hk, hm, pk_sub (by omega)]; rfl
              subst hxm
              rw [← hm] at ih
              subst hm
              refine p_iload_n k188_76 rfl ?_
              refine p_if_ltN (tgt := 150) k188_77 (by decide) (by omega) ?_
              refine p_iconst (v := nI 0) k188_80 (by decide) ?_
              refine p_istore_n (ls' := [(0, _), (1, _), (2, _), (3, _)]) k188_81 rfl ?_
              have ih76 := ih
              obtain ⟨r, hr⟩ : ∃ r, nh = m + 1 + r := ⟨nh - (m + 1), by omega⟩
              have hr2 : nh - (r + 1) = m := by omega
              have LC : ∀ (j : Nat) (s : Nat) (u : Nat → Int32), s + j = 64 → (∀ z, z < s → u (64 * m + z) = Wt (deedM I cb ce) nh na pr (r + 1) z) → (∀ q, m + 1 ≤ q → q ≤ nh → ∀ s, s < 64 → u (64 * q + s) = Wt (deedM I cb ce) nh na pr (nh - q) s) → EvP (d + 5) 188 82 [(0, .ref (98)), (1, .int (nI (pr))), (2, .int (nI (m))), (3, .int (nI (s)))] [] (upc B 126 u, J, K, h) (QV (fun t => ∃ I', t = (I', J, K, h) ∧ AG I I' ∧ I' 98 40 = Wt (deedM I cb ce) nh na pr nh 0 ∧ ∀ k, k < nh → I' 124 k = optI (-1) (chs (deedM I cb ce) nh na pr (nh - (k + 1)) (stN (deedM I cb ce) nh na pr k)))) := by
                intro j
                induction j with
                | zero =>
                  intro s u hk
                  intro hs hu
                  refine p_iload_n k188_82 rfl ?_
                  refine p_bipush (v := nI 64) k188_83 (by decide) ?_
                  refine p_icmp_geN (tgt := 144) k188_85 (by decide) (by omega) (by omega) (fun _ => ?_) (fun c => False.elim (by omega))
                  refine p_iinc (ls' := [(0, _), (1, _), (2, _), (3, _)]) k188_144 rfl rfl rfl ?_
                  refine p_goto (tgt := 76) k188_147 (by decide) ?_
                  refine p_drop [0, 1, 2] rfl ?_
                  refine ih76 _ u ?_ (by omega) (fun q h1 h2 z hz => ?_)
                  · exact dec_eq _
                  · by_cases e : q = m
                    · subst e; rw [hs z (by omega), show nh - q = r + 1 by omega]
                    · exact hu q (by omega) h2 z hz
                | succ j ih =>
                  intro s u hk
                  intro hs hu
                  have ih82 := ih
                  have hUU : ∀ s, s < 64 → u (64 * (m + 1) + s) = Wt (deedM I cb ce) nh na pr r s := fun s hs => by rw [hu (m + 1) (by omega) (by omega) s hs, show nh - (m + 1) = r by omega]
                  refine p_iload_n k188_82 rfl ?_
                  refine p_bipush (v := nI 64) k188_83 (by decide) ?_
                  refine p_icmp_geN (tgt := 144) k188_85 (by decide) (by omega) (by omega) (fun c => False.elim (by omega)) (fun _ => ?_)
                  refine p_iconst (v := (-1)) k188_88 (by decide) ?_
                  refine p_istore (ls' := [(0, _), (1, _), (2, _), (3, _), (4, _)]) k188_89 rfl ?_
                  refine p_iconst (v := (-1)) k188_91 (by decide) ?_
                  refine p_istore (ls' := [(0, _), (1, _), (2, _), (3, _), (4, _), (5, _)]) k188_92 rfl ?_
                  refine p_iload k188_94 rfl ?_
                  refine p_aload_n k188_96 rfl ?_
                  refine p_getIv k188_97 (s_98 S) f_12_13_12 hBa ?_
                  refine p_icmp_ge (tgt := 125) k188_100 (by decide) (fun c => False.elim (by exact absurd c (by rw [i_le, nI_t (by omega)]; show ¬ (_ : Int) ≤ -1; omega))) (fun _ => ?_)
                  refine p_aload_n k188_103 rfl ?_
                  refine p_iload k188_104 rfl ?_
                  refine p_aload_n k188_106 rfl ?_
                  refine p_iload_n k188_107 rfl ?_
                  refine p_iload_n k188_108 rfl ?_
                  refine p_iload k188_109 rfl ?_
                  refine p_cV3i k188_111 (s_98 S) c_12_377_12 rfl rfl rfl (Nat.le_of_ble_eq_true rfl) (M_onw0 S (I := upc B 126 u) (k := m) (s := s) (by omega) (by omega)) (fun x1 m1 hq => ?_)
                  obtain ⟨rfl, rfl⟩ := hq
                  rw [show (if (upc B 126 u) 126 (64 * (m + 1) + s) < 0 then (-1 : Int32) else (upc B 126 u) 126 (64 * (m + 1) + s) + nI 0) = wV0 (Wt (deedM I cb ce) nh na pr r) s from by
                    show (if u _ < 0 then _ else u _ + nI 0) = _
                    unfold wV0
                    rw [hUU _ (by omega)]]
                  refine p_cV2i k188_114 (s_98 S) c_12_332_12 rfl rfl (Nat.le_of_ble_eq_true rfl) (M_most S _ _) (fun x1 m1 hq => ?_)
                  obtain ⟨rfl, rfl⟩ := hq
                  refine p_istore (ls' := [(0, _), (1, _), (2, _), (3, _), (4, _), (5, _)]) k188_117 rfl ?_
                  refine p_iinc (v := (nI (0))) (ls' := [(0, _), (1, _), (2, _), (3, _), (4, _), (5, _)]) k188_119 rfl (by decide) rfl ?_
                  refine p_goto (tgt := 94) k188_122 (by decide) ?_
                  have LD : ∀ (j : Nat) (a : Nat) (x : Int32), a + j = na → fld (fWb (deedM I cb ce) (Wt (deedM I cb ce) nh na pr r) (nh - (r + 1)) s) j a x = Wt (deedM I cb ce) nh na pr (r + 1) s → EvP (d + 5) 188 94 [(0, .ref (98)), (1, .int (nI (pr))), (2, .int (nI (m))), (3, .int (nI (s))), (4, .int (x)), (5, .int (nI (a)))] [] (upc B 126 u, J, K, h) (QV (fun t => ∃ I', t = (I', J, K, h) ∧ AG I I' ∧ I' 98 40 = Wt (deedM I cb ce) nh na pr nh 0 ∧ ∀ k, k < nh → I' 124 k = optI (-1) (chs (deedM I cb ce) nh na pr (nh - (k + 1)) (stN (deedM I cb ce) nh na pr k)))) := by
                    intro j
                    induction j with
                    | zero =>
                      intro a x hk
                      intro hx
                      refine p_iload k188_94 rfl ?_
                      refine p_aload_n k188_96 rfl ?_
                      refine p_getIv k188_97 (s_98 S) f_12_13_12 hBa ?_
                      refine p_icmp_geN (tgt := 125) k188_100 (by decide) (by omega) (by omega) (fun _ => ?_) (fun c => False.elim (by omega))
                      replace hx : x = Wt (deedM I cb ce) nh na pr (r + 1) s := hx
                      refine p_aload_n k188_125 rfl ?_
                      refine p_getRv k188_126 (s_98 S) f_12_135_12 (r_98_41 S) ?_
                      refine p_bipush (v := nI 64) k188_129 (by decide) ?_
                      refine p_iload_n k188_131 rfl ?_
                      refine p_imulN k188_132 ?_
                      refine p_iload_n k188_133 rfl ?_
                      refine p_iaddN k188_134 ?_
                      refine p_iload k188_135 rfl ?_
                      refine p_iastN k188_137 (s_126 S) (by omega) (by decide) ?_
                      refine p_iincN (ls1 := [(0, _), (1, _), (2, _), (3, _), (4, _), (5, _)]) k188_138 rfl rfl ?_
                      refine p_goto (tgt := 82) k188_141 (by decide) ?_
                      refine p_drop [0, 1, 2, 3] rfl ?_
                      rw [upc_uu]
                      refine ih82 (s + 1) _ (by omega) (fun z hz => ?_) (fun q h1 h2 z hz => ?_)
                      · by_cases e : z = s
                        · subst e; exact (upc_eq _ _ _).trans hx
                        · exact (upc_ne _ _ (by omega)).trans (hs z (by omega))
                      · exact (upc_ne _ _ (by omega)).trans (hu q h1 h2 z hz)
                    | succ j ih =>
                      intro a x hk
                      intro hx
                      refine p_iload k188_94 rfl ?_
                      refine p_aload_n k188_96 rfl ?_
                      refine p_getIv k188_97 (s_98 S) f_12_13_12 hBa ?_
                      refine p_icmp_geN (tgt := 125) k188_100 (by decide) (by omega) (by omega) (fun c => False.elim (by omega)) (fun _ => ?_)
                      refine p_aload_n k188_103 rfl ?_
                      refine p_iload k188_104 rfl ?_
                      refine p_aload_n k188_106 rfl ?_
                      refine p_iload_n k188_107 rfl ?_
                      refine p_iload_n k188_108 rfl ?_
                      refine p_iload k188_109 rfl ?_
                      refine p_cV3i k188_111 (s_98 S) c_12_377_12 rfl rfl rfl (Nat.le_of_ble_eq_true rfl) (M_onwA S (I := upc B 126 u) (k := m) (s := s) (a := a) (by omega) (by omega) (by omega)) (fun x1 m1 hq => ?_)
                      obtain ⟨rfl, rfl⟩ := hq
                      rw [show (if s.testBit a = true then (-1 : Int32) else if (upc B 126 u) 126 (64 * (m + 1) + (s ||| 2 ^ a)) < 0 then -1 else (upc B 126 u) 126 (64 * (m + 1) + (s ||| 2 ^ a)) + (upc B 126 u) 125 (6 * a + m)) = byV (deedM I cb ce) (Wt (deedM I cb ce) nh na pr r) (nh - (r + 1)) s a from by
                        show (if _ then _ else if u _ < 0 then _ else u _ + B 125 _) = _
                        unfold byV
                        rw [hUU _ (or_lt64 (by omega) (by omega)), hB125 a m (by omega) (by omega), hr2]]
                      refine p_cV2i k188_114 (s_98 S) c_12_332_12 rfl rfl (Nat.le_of_ble_eq_true rfl) (M_most S _ _) (fun x1 m1 hq => ?_)
                      obtain ⟨rfl, rfl⟩ := hq
                      refine p_istore (ls' := [(0, _), (1, _), (2, _), (3, _), (4, _), (5, _)]) k188_117 rfl ?_
                      refine p_iincN (ls1 := [(0, _), (1, _), (2, _), (3, _), (4, _), (5, _)]) k188_119 rfl rfl ?_
                      refine p_goto (tgt := 94) k188_122 (by decide) ?_
                      exact ih (a + 1) _ (by omega) hx
                  exact LD na 0 _ (by omega) rfl
              exact LC 64 0 u (by omega) (fun z hz => absurd hz (Nat.not_lt_zero _)) hu
        have hb0 : (∀ q, nh ≤ q → q ≤ nh → ∀ s, s < 64 → u (64 * q + s) = Wt (deedM I cb ce) nh na pr (nh - q) s) := by
          intro q h1 h2 z hz
          have e : q = nh := by omega
          rw [e, hs z (by omega), Nat.sub_self]
        exact LB nh _ u rfl (Nat.le_refl _) hb0
      | succ j ih =>
        intro s u hk
        intro hs
        refine p_iload_n k188_29 rfl ?_
        refine p_bipush (v := nI 64) k188_30 (by decide) ?_
        refine p_icmp_geN (tgt := 69) k188_32 (by decide) (by omega) (by omega) (fun c => False.elim (by omega)) (fun _ => ?_)
        refine p_aload_n k188_35 rfl ?_
        refine p_getRv k188_36 (s_98 S) f_12_135_12 (r_98_41 S) ?_
        refine p_bipush (v := nI 64) k188_39 (by decide) ?_
        refine p_aload_n k188_41 rfl ?_
        refine p_getIv k188_42 (s_98 S) f_12_7_12 hBh ?_
        refine p_imulN k188_45 ?_
        refine p_iload_n k188_46 rfl ?_
        refine p_iaddN k188_47 ?_
        refine p_aload_n k188_48 rfl ?_
        refine p_iload_n k188_49 rfl ?_
        refine p_cV1i k188_50 (s_98 S) c_12_374_12 rfl (Nat.le_of_ble_eq_true rfl) (M_ones S (s := s) (by omega)) (fun x1 m1 hq => ?_)
        obtain ⟨rfl, rfl⟩ := hq
        have hpc := popc_le s
        refine p_iload_n k188_53 rfl ?_
        refine p_icmp_neN (tgt := 61) k188_54 (by decide) (by omega) (by omega) (fun cq54 => ?_) (fun cq54 => ?_)
        · skip
          refine p_iconst (v := (-1)) k188_61 (by decide) ?_
          refine p_iastN k188_62 (s_126 S) (by omega) (by decide) ?_
          refine p_iincN (ls1 := [(0, _), (1, _), (2, _)]) k188_63 rfl rfl ?_
          refine p_goto (tgt := 29) k188_66 (by decide) ?_
          rw [upc_uu]
          refine ih (s + 1) _ (by omega) (fun z hz => ?_)
          by_cases e : z = s
          · subst e; refine (upc_eq _ _ _).trans ?_; show _ = if _ then _ else _; first | rw [if_pos cq54] | rw [if_neg cq54]
          · exact (upc_ne _ _ (by omega)).trans (hs z (by omega))
        · skip
          refine p_iconst (v := nI 0) k188_57 (by decide) ?_
          refine p_goto (tgt := 62) k188_58 (by decide) ?_
          refine p_iastN k188_62 (s_126 S) (by omega) (by decide) ?_
          refine p_iincN (ls1 := [(0, _), (1, _), (2, _)]) k188_63 rfl rfl ?_
          refine p_goto (tgt := 29) k188_66 (by decide) ?_
          rw [upc_uu]
          refine ih (s + 1) _ (by omega) (fun z hz => ?_)
          by_cases e : z = s
          · subst e; refine (upc_eq _ _ _).trans ?_; show _ = if _ then _ else _; first | rw [if_pos cq54] | rw [if_neg cq54]
          · exact (upc_ne _ _ (by omega)).trans (hs z (by omega))
    refine p_self 126 ?_
    exact LA 64 0 _ (by omega) (fun z hz => absurd hz (Nat.not_lt_zero _))
  · skip
    refine p_aload_n k188_15 rfl ?_
    refine p_getIv k188_16 (s_98 S) f_12_7_12 hBh ?_
    refine p_goto (tgt := 26) k188_19 (by decide) ?_
    refine p_toI (z := nI pr) (congrArg nI (show nh = pr from by rw [← hprd]; unfold mnN; first | rw [if_pos cq12] | rw [if_neg (Nat.not_le.mpr cq12)])) ?_
    refine p_istore_n (ls' := [(0, _), (1, _)]) k188_26 rfl ?_
    refine p_iconst (v := nI 0) k188_27 (by decide) ?_
    refine p_istore_n (ls' := [(0, _), (1, _), (2, _)]) k188_28 rfl ?_
    have LA : ∀ (j : Nat) (s : Nat) (u : Nat → Int32), s + j = 64 → (∀ z, z < s → u (64 * nh + z) = Wt (deedM I cb ce) nh na pr 0 z) → EvP (d + 5) 188 29 [(0, .ref (98)), (1, .int (nI (pr))), (2, .int (nI (s)))] [] (upc B 126 u, J, K, h) (QV (fun t => ∃ I', t = (I', J, K, h) ∧ AG I I' ∧ I' 98 40 = Wt (deedM I cb ce) nh na pr nh 0 ∧ ∀ k, k < nh → I' 124 k = optI (-1) (chs (deedM I cb ce) nh na pr (nh - (k + 1)) (stN (deedM I cb ce) nh na pr k)))) := by
      intro j
      induction j with
      | zero =>
        intro s u hk
        intro hs
        refine p_iload_n k188_29 rfl ?_
        refine p_bipush (v := nI 64) k188_30 (by decide) ?_
        refine p_icmp_geN (tgt := 69) k188_32 (by decide) (by omega) (by omega) (fun _ => ?_) (fun c => False.elim (by omega))
        refine p_aload_n k188_69 rfl ?_
        refine p_getIv k188_70 (s_98 S) f_12_7_12 hBh ?_
        refine p_iconst (v := nI 1) k188_73 (by decide) ?_
        refine p_isub k188_74 ?_
        refine p_istore_n (ls' := [(0, _), (1, _), (2, _)]) k188_75 rfl ?_
        have LB : ∀ (j : Nat) (x : Int32) (u : Nat → Int32), x = nI j - nI 1 → j ≤ nh → (∀ q, j ≤ q → q ≤ nh → ∀ s, s < 64 → u (64 * q + s) = Wt (deedM I cb ce) nh na pr (nh - q) s) → EvP (d + 5) 188 76 [(0, .ref (98)), (1, .int (nI (pr))), (2, .int (x))] [] (upc B 126 u, J, K, h) (QV (fun t => ∃ I', t = (I', J, K, h) ∧ AG I I' ∧ I' 98 40 = Wt (deedM I cb ce) nh na pr nh 0 ∧ ∀ k, k < nh → I' 124 k = optI (-1) (chs (deedM I cb ce) nh na pr (nh - (k + 1)) (stN (deedM I cb ce) nh na pr k)))) := by
          intro j
          induction j with
          | zero =>
            intro x u hk
            intro hj hu
            · skip
              subst hk
              have hU : (∀ q, 0 ≤ q → q ≤ nh → ∀ s, s < 64 → u (64 * q + s) = Wt (deedM I cb ce) nh na pr (nh - q) s) := hu
              refine p_iload_n k188_76 rfl ?_
              refine p_if_lt (tgt := 150) k188_77 (by decide) (fun _ => ?_) (fun c => False.elim (by exact absurd (by decide) c))
              refine p_aload_n k188_150 rfl ?_
              refine p_aload_n k188_151 rfl ?_
              refine p_getRv k188_152 (s_98 S) f_12_135_12 (r_98_41 S) ?_
              refine p_iconst (v := nI 0) k188_155 (by decide) ?_
              refine p_ialdN k188_156 (s_126 S) (by omega) (by decide) (hU 0 (by omega) (by omega) 0 (by omega)) ?_
              refine p_putIv k188_157 (s_98 S) g_12_132_12 n_188_12_40 ?_
              refine p_iconst (v := nI 0) k188_160 (by decide) ?_
              refine p_istore_n (ls' := [(0, _), (1, _), (2, _)]) k188_161 rfl ?_
              refine p_iconst (v := nI 0) k188_162 (by decide) ?_
              refine p_istore_n (ls' := [(0, _), (1, _), (2, _), (3, _)]) k188_163 rfl ?_
              have LE : ∀ (j : Nat) (k st : Nat) (w : Nat → Int32), k + j = nh → st = stN (deedM I cb ce) nh na pr k → (∀ q, q < k → w q = optI (-1) (chs (deedM I cb ce) nh na pr (nh - (q + 1)) (stN (deedM I cb ce) nh na pr q))) → EvP (d + 5) 188 164 [(0, .ref (98)), (1, .int (nI (pr))), (2, .int (nI (st))), (3, .int (nI (k)))] [] (upc (upc (upc B 126 u) 98 (upc (B 98) 40 (Wt (deedM I cb ce) nh na pr nh 0))) 124 w, J, K, h) (QV (fun t => ∃ I', t = (I', J, K, h) ∧ AG I I' ∧ I' 98 40 = Wt (deedM I cb ce) nh na pr nh 0 ∧ ∀ k, k < nh → I' 124 k = optI (-1) (chs (deedM I cb ce) nh na pr (nh - (k + 1)) (stN (deedM I cb ce) nh na pr k)))) := by
                intro j
                induction j with
                | zero =>
                  intro k st w hk
                  intro hst hw
                  refine p_iload_n k188_164 rfl ?_
                  refine p_aload_n k188_165 rfl ?_
                  refine p_getIv k188_166 (s_98 S) f_12_7_12 hBh ?_
                  refine p_icmp_geN (tgt := 233) k188_169 (by decide) (by omega) (by omega) (fun _ => ?_) (fun c => False.elim (by omega))
                  refine p_return k188_233 rt_188 ?_
                  exact ⟨_, rfl, hAG u (Wt (deedM I cb ce) nh na pr nh 0) w, rfl, fun q hq => hw q (by omega)⟩
                | succ j ih =>
                  intro k st w hk
                  intro hst hw
                  subst hst
                  have ih0 := ih
                  refine p_iload_n k188_164 rfl ?_
                  refine p_aload_n k188_165 rfl ?_
                  refine p_getIv k188_166 (s_98 S) f_12_7_12 hBh ?_
                  refine p_icmp_geN (tgt := 233) k188_169 (by decide) (by omega) (by omega) (fun c => False.elim (by omega)) (fun _ => ?_)
                  refine p_iconst (v := (-1)) k188_172 (by decide) ?_
                  refine p_istore (ls' := [(0, _), (1, _), (2, _), (3, _), (4, _)]) k188_173 rfl ?_
                  obtain ⟨r, hr⟩ : ∃ r, nh = k + 1 + r := ⟨nh - (k + 1), by omega⟩
                  have hr1 : nh - (k + 1) = r := by omega
                  have hr2 : nh - (r + 1) = k := by omega
                  have hUU : ∀ s, s < 64 → u (64 * (k + 1) + s) = Wt (deedM I cb ce) nh na pr r s := fun s hs => by rw [hU (k + 1) (by omega) (by omega) s hs, hr1]
                  have hU0 : ∀ s, s < 64 → u (64 * k + s) = Wt (deedM I cb ce) nh na pr (r + 1) s := fun s hs => by rw [hU k (by omega) (by omega) s hs, show nh - k = r + 1 by omega]
                  have hst := stN_lt (D := (deedM I cb ce)) (nh := nh) (pr := pr) M.na6 k
                  refine p_aload_n k188_175 rfl ?_
                  refine p_iload_n k188_176 rfl ?_
                  refine p_iload_n k188_177 rfl ?_
                  refine p_iload k188_178 rfl ?_
                  refine p_cV3i k188_180 (s_98 S) c_12_377_12 rfl rfl rfl (Nat.le_of_ble_eq_true rfl) (M_onw0 S (I := upc (upc (upc B 126 u) 98 (upc (B 98) 40 (Wt (deedM I cb ce) nh na pr nh 0))) 124 w) (k := k) (s := stN (deedM I cb ce) nh na pr k) (by omega) hst) (fun x1 m1 hq => ?_)
                  obtain ⟨rfl, rfl⟩ := hq
                  rw [show (if (upc (upc (upc B 126 u) 98 (upc (B 98) 40 (Wt (deedM I cb ce) nh na pr nh 0))) 124 w) 126 (64 * (k + 1) + (stN (deedM I cb ce) nh na pr k)) < 0 then (-1 : Int32) else (upc (upc (upc B 126 u) 98 (upc (B 98) 40 (Wt (deedM I cb ce) nh na pr nh 0))) 124 w) 126 (64 * (k + 1) + (stN (deedM I cb ce) nh na pr k)) + nI 0) = wV0 (Wt (deedM I cb ce) nh na pr r) (stN (deedM I cb ce) nh na pr k) from by
                    show (if u _ < 0 then _ else u _ + nI 0) = _
                    unfold wV0
                    rw [hUU _ hst]]
                  refine p_aload_n k188_183 rfl ?_
                  refine p_getRv k188_184 (s_98 S) f_12_135_12 (r_98_41 S) ?_
                  refine p_bipush (v := nI 64) k188_187 (by decide) ?_
                  refine p_iload_n k188_189 rfl ?_
                  refine p_imulN k188_190 ?_
                  refine p_iload_n k188_191 rfl ?_
                  refine p_iaddN k188_192 ?_
                  refine p_ialdN k188_193 (s_126 S) (by omega) (by decide) (hU0 _ hst) ?_
                  refine p_icmp_eq (tgt := 203) k188_194 (by decide) (fun cq194 => ?_) (fun cq194 => ?_)
                  · skip
                    have hch : chs (deedM I cb ce) nh na pr r (stN (deedM I cb ce) nh na pr k) = none := if_pos cq194
                    refine p_aload_n k188_203 rfl ?_
                    refine p_getRv k188_204 (s_98 S) f_12_126_12 (r_98_38 S) ?_
                    refine p_iload_n k188_207 rfl ?_
                    refine p_iload k188_208 rfl ?_
                    refine p_iastN k188_210 (s_124 S) (by omega) (by decide) ?_
                    refine p_iload_n k188_211 rfl ?_
                    refine p_iload k188_212 rfl ?_
                    refine p_if_ge (tgt := 221) k188_214 (by decide) (fun c => False.elim (by exact absurd c (by decide))) (fun _ => ?_)
                    refine p_iconst (v := nI 0) k188_217 (by decide) ?_
                    refine p_goto (tgt := 225) k188_218 (by decide) ?_
                    refine p_iorN k188_225 ?_
                    refine p_istore_n (ls' := [(0, _), (1, _), (2, _), (3, _), (4, _)]) k188_226 rfl ?_
                    refine p_iincN (ls1 := [(0, _), (1, _), (2, _), (3, _), (4, _)]) k188_227 rfl rfl ?_
                    refine p_goto (tgt := 164) k188_230 (by decide) ?_
                    refine p_drop [0, 1, 2, 3] rfl ?_
                    rw [Nat.or_zero]
                    rw [upc_uu]
                    have hN : stN (deedM I cb ce) nh na pr (k + 1) = setN (stN (deedM I cb ce) nh na pr k) (none) := by show setN _ (chs _ _ _ _ (nh - (k + 1)) _) = _; rw [hr1, hch]
                    refine ih0 (k + 1) _ _ (by omega) (by rw [hN]; first | rfl | (show _ = _ ; simp [setN])) (fun q hq => ?_)
                    by_cases e : q = k
                    · subst e; refine (upc_eq _ _ _).trans ?_; rw [hr1, hch]; rfl
                    · exact (upc_ne _ _ e).trans (hw q (by omega))
                  · skip
                    refine p_iinc (v := (nI (0))) (ls' := [(0, _), (1, _), (2, _), (3, _), (4, _)]) k188_197 rfl (by decide) rfl ?_
                    refine p_goto (tgt := 175) k188_200 (by decide) ?_
                    obtain ⟨a0, hfa⟩ := chs_ex (D := (deedM I cb ce)) (nh := nh) (na := na) (pr := pr) (r := r) (s := stN (deedM I cb ce) nh na pr k) (fun e => cq194 e)
                    have hch : chs (deedM I cb ce) nh na pr r (stN (deedM I cb ce) nh na pr k) = some a0 := by unfold chs; rw [if_neg (fun e => cq194 e)]; exact hfa
                    have ha0 := (fnd_some hfa).2.1
                    have LF : ∀ (j : Nat) (a : Nat), a + j = na → fnd (fun a => decide (byV (deedM I cb ce) (Wt (deedM I cb ce) nh na pr r) (nh - (r + 1)) (stN (deedM I cb ce) nh na pr k) a = Wt (deedM I cb ce) nh na pr (r + 1) (stN (deedM I cb ce) nh na pr k))) j a = some a0 → EvP (d + 5) 188 175 [(0, .ref (98)), (1, .int (nI (pr))), (2, .int (nI (stN (deedM I cb ce) nh na pr k))), (3, .int (nI (k))), (4, .int (nI (a)))] [] (upc (upc (upc B 126 u) 98 (upc (B 98) 40 (Wt (deedM I cb ce) nh na pr nh 0))) 124 w, J, K, h) (QV (fun t => ∃ I', t = (I', J, K, h) ∧ AG I I' ∧ I' 98 40 = Wt (deedM I cb ce) nh na pr nh 0 ∧ ∀ k, k < nh → I' 124 k = optI (-1) (chs (deedM I cb ce) nh na pr (nh - (k + 1)) (stN (deedM I cb ce) nh na pr k)))) := by
                      intro j
                      induction j with
                      | zero =>
                        intro a hk
                        intro hf
                        exact absurd hf (by intro z; cases z)
                      | succ j ih =>
                        intro a hk
                        intro hf
                        refine p_aload_n k188_175 rfl ?_
                        refine p_iload_n k188_176 rfl ?_
                        refine p_iload_n k188_177 rfl ?_
                        refine p_iload k188_178 rfl ?_
                        refine p_cV3i k188_180 (s_98 S) c_12_377_12 rfl rfl rfl (Nat.le_of_ble_eq_true rfl) (M_onwA S (I := upc (upc (upc B 126 u) 98 (upc (B 98) 40 (Wt (deedM I cb ce) nh na pr nh 0))) 124 w) (k := k) (s := stN (deedM I cb ce) nh na pr k) (a := a) (by omega) hst (by omega)) (fun x1 m1 hq => ?_)
                        obtain ⟨rfl, rfl⟩ := hq
                        rw [show (if (stN (deedM I cb ce) nh na pr k).testBit a = true then (-1 : Int32) else if (upc (upc (upc B 126 u) 98 (upc (B 98) 40 (Wt (deedM I cb ce) nh na pr nh 0))) 124 w) 126 (64 * (k + 1) + ((stN (deedM I cb ce) nh na pr k) ||| 2 ^ a)) < 0 then -1 else (upc (upc (upc B 126 u) 98 (upc (B 98) 40 (Wt (deedM I cb ce) nh na pr nh 0))) 124 w) 126 (64 * (k + 1) + ((stN (deedM I cb ce) nh na pr k) ||| 2 ^ a)) + (upc (upc (upc B 126 u) 98 (upc (B 98) 40 (Wt (deedM I cb ce) nh na pr nh 0))) 124 w) 125 (6 * a + k)) = byV (deedM I cb ce) (Wt (deedM I cb ce) nh na pr r) k (stN (deedM I cb ce) nh na pr k) a from by
                          show (if _ then _ else if u _ < 0 then _ else u _ + B 125 _) = _
                          unfold byV
                          rw [hUU _ (or_lt64 hst (by omega)), hB125 a k (by omega) (by omega)]]
                        refine p_aload_n k188_183 rfl ?_
                        refine p_getRv k188_184 (s_98 S) f_12_135_12 (r_98_41 S) ?_
                        refine p_bipush (v := nI 64) k188_187 (by decide) ?_
                        refine p_iload_n k188_189 rfl ?_
                        refine p_imulN k188_190 ?_
                        refine p_iload_n k188_191 rfl ?_
                        refine p_iaddN k188_192 ?_
                        refine p_ialdN k188_193 (s_126 S) (by omega) (by decide) (hU0 _ hst) ?_
                        refine p_icmp_eq (tgt := 203) k188_194 (by decide) (fun cq194 => ?_) (fun cq194 => ?_)
                        · skip
                          have hpa : (fun a => decide (byV (deedM I cb ce) (Wt (deedM I cb ce) nh na pr r) (nh - (r + 1)) (stN (deedM I cb ce) nh na pr k) a = Wt (deedM I cb ce) nh na pr (r + 1) (stN (deedM I cb ce) nh na pr k))) a = true := decide_eq_true (by rw [hr2]; exact cq194)
                          have haa : a0 = a := by rw [show fnd (fun a => decide (byV (deedM I cb ce) (Wt (deedM I cb ce) nh na pr r) (nh - (r + 1)) (stN (deedM I cb ce) nh na pr k) a = Wt (deedM I cb ce) nh na pr (r + 1) (stN (deedM I cb ce) nh na pr k))) (j + 1) a = some a from if_pos hpa] at hf; exact (Option.some.inj hf).symm
                          subst haa
                          refine p_aload_n k188_203 rfl ?_
                          refine p_getRv k188_204 (s_98 S) f_12_126_12 (r_98_38 S) ?_
                          refine p_iload_n k188_207 rfl ?_
                          refine p_iload k188_208 rfl ?_
                          refine p_iastN k188_210 (s_124 S) (by omega) (by decide) ?_
                          refine p_iload_n k188_211 rfl ?_
                          refine p_iload k188_212 rfl ?_
                          refine p_if_geN (tgt := 221) k188_214 (by decide) (by omega) ?_
                          refine p_iconst (v := nI 1) k188_221 (by decide) ?_
                          refine p_iload k188_222 rfl ?_
                          refine p_ishl1 (by omega) k188_224 ?_
                          refine p_iorN k188_225 ?_
                          refine p_istore_n (ls' := [(0, _), (1, _), (2, _), (3, _), (4, _)]) k188_226 rfl ?_
                          refine p_iincN (ls1 := [(0, _), (1, _), (2, _), (3, _), (4, _)]) k188_227 rfl rfl ?_
                          refine p_goto (tgt := 164) k188_230 (by decide) ?_
                          refine p_drop [0, 1, 2, 3] rfl ?_
                          skip
                          rw [upc_uu]
                          have hN : stN (deedM I cb ce) nh na pr (k + 1) = setN (stN (deedM I cb ce) nh na pr k) (some a0) := by show setN _ (chs _ _ _ _ (nh - (k + 1)) _) = _; rw [hr1, hch]
                          refine ih0 (k + 1) _ _ (by omega) (by rw [hN]; first | rfl | (show _ = _ ; simp [setN])) (fun q hq => ?_)
                          by_cases e : q = k
                          · subst e; refine (upc_eq _ _ _).trans ?_; rw [hr1, hch]; rfl
                          · exact (upc_ne _ _ e).trans (hw q (by omega))
                        · skip
                          have hpa : ¬ (fun a => decide (byV (deedM I cb ce) (Wt (deedM I cb ce) nh na pr r) (nh - (r + 1)) (stN (deedM I cb ce) nh na pr k) a = Wt (deedM I cb ce) nh na pr (r + 1) (stN (deedM I cb ce) nh na pr k))) a = true := by show ¬ decide _ = true; rw [decide_eq_true_iff, hr2]; exact cq194
                          refine p_iincN (ls1 := [(0, _), (1, _), (2, _), (3, _), (4, _)]) k188_197 rfl rfl ?_
                          refine p_goto (tgt := 175) k188_200 (by decide) ?_
                          exact ih (a + 1) (by omega) (by rw [show fnd (fun a => decide (byV (deedM I cb ce) (Wt (deedM I cb ce) nh na pr r) (nh - (r + 1)) (stN (deedM I cb ce) nh na pr k) a = Wt (deedM I cb ce) nh na pr (r + 1) (stN (deedM I cb ce) nh na pr k))) (j + 1) a = fnd (fun a => decide (byV (deedM I cb ce) (Wt (deedM I cb ce) nh na pr r) (nh - (r + 1)) (stN (deedM I cb ce) nh na pr k) a = Wt (deedM I cb ce) nh na pr (r + 1) (stN (deedM I cb ce) nh na pr k))) j (a + 1) from if_neg hpa] at hf; exact hf)
                    exact LF na 0 (by omega) hfa
              refine p_self 124 ?_
              exact LE nh 0 0 _ (by omega) rfl (fun q hq => absurd hq (Nat.not_lt_zero _))
          | succ j ih =>
            intro x u hk
            intro hj hu
            · skip
              obtain ⟨m, hm⟩ : ∃ m, m = j := ⟨j, rfl⟩
              have hxm : x = nI m := by rw [hk, hm, pk_sub (by omega)]; rfl
              subst hxm
              rw [← hm] at ih
              subst hm
              refine p_iload_n k188_76 rfl ?_
              refine p_if_ltN (tgt := 150) k188_77 (by decide) (by omega) ?_
              refine p_iconst (v := nI 0) k188_80 (by decide) ?_
              refine p_istore_n (ls' := [(0, _), (1, _), (2, _), (3, _)]) k188_81 rfl ?_
              have ih76 := ih
              obtain ⟨r, hr⟩ : ∃ r, nh = m + 1 + r := ⟨nh - (m + 1), by omega⟩
              have hr2 : nh - (r + 1) = m := by omega
              have LC : ∀ (j : Nat) (s : Nat) (u : Nat → Int32), s + j = 64 → (∀ z, z < s → u (64 * m + z) = Wt (deedM I cb ce) nh na pr (r + 1) z) → (∀ q, m + 1 ≤ q → q ≤ nh → ∀ s, s < 64 → u (64 * q + s) = Wt (deedM I cb ce) nh na pr (nh - q) s) → EvP (d + 5) 188 82 [(0, .ref (98)), (1, .int (nI (pr))), (2, .int (nI (m))), (3, .int (nI (s)))] [] (upc B 126 u, J, K, h) (QV (fun t => ∃ I', t = (I', J, K, h) ∧ AG I I' ∧ I' 98 40 = Wt (deedM I cb ce) nh na pr nh 0 ∧ ∀ k, k < nh → I' 124 k = optI (-1) (chs (deedM I cb ce) nh na pr (nh - (k + 1)) (stN (deedM I cb ce) nh na pr k)))) := by
                intro j
                induction j with
                | zero =>
                  intro s u hk
                  intro hs hu
                  refine p_iload_n k188_82 rfl ?_
                  refine p_bipush (v := nI 64) k188_83 (by decide) ?_
                  refine p_icmp_geN (tgt := 144) k188_85 (by decide) (by omega) (by omega) (fun _ => ?_) (fun c => False.elim (by omega))
                  refine p_iinc (ls' := [(0, _), (1, _), (2, _), (3, _)]) k188_144 rfl rfl rfl ?_
                  refine p_goto (tgt := 76) k188_147 (by decide) ?_
                  refine p_drop [0, 1, 2] rfl ?_
                  refine ih76 _ u ?_ (by omega) (fun q h1 h2 z hz => ?_)
                  · exact dec_eq _
                  · by_cases e : q = m
                    · subst e; rw [hs z (by omega), show nh - q = r + 1 by omega]
                    · exact hu q (by omega) h2 z hz
                | succ j ih =>
                  intro s u hk
                  intro hs hu
                  have ih82 := ih
                  have hUU : ∀ s, s < 64 → u (64 * (m + 1) + s) = Wt (deedM I cb ce) nh na pr r s := fun s hs => by rw [hu (m + 1) (by omega) (by omega) s hs, show nh - (m + 1) = r by omega]
                  refine p_iload_n k188_82 rfl ?_
                  refine p_bipush (v := nI 64) k188_83 (by decide) ?_
                  refine p_icmp_geN (tgt := 144) k188_85 (by decide) (by omega) (by omega) (fun c => False.elim (by omega)) (fun _ => ?_)
                  refine p_iconst (v := (-1)) k188_88 (by decide) ?_
                  refine p_istore (ls' := [(0, _), (1, _), (2, _), (3, _), (4, _)]) k188_89 rfl ?_
                  refine p_iconst (v := (-1)) k188_91 (by decide) ?_
                  refine p_istore (ls' := [(0, _), (1, _), (2, _), (3, _), (4, _), (5, _)]) k188_92 rfl ?_
                  refine p_iload k188_94 rfl ?_
                  refine p_aload_n k188_96 rfl ?_
                  refine p_getIv k188_97 (s_98 S) f_12_13_12 hBa ?_
                  refine p_icmp_ge (tgt := 125) k188_100 (by decide) (fun c => False.elim (by exact absurd c (by rw [i_le, nI_t (by omega)]; show ¬ (_ : Int) ≤ -1; omega))) (fun _ => ?_)
                  refine p_aload_n k188_103 rfl ?_
                  refine p_iload k188_104 rfl ?_
                  refine p_aload_n k188_106 rfl ?_
                  refine p_iload_n k188_107 rfl ?_
                  refine p_iload_n k188_108 rfl ?_
                  refine p_iload k188_109 rfl ?_
                  refine p_cV3i k188_111 (s_98 S) c_12_377_12 rfl rfl rfl (Nat.le_of_ble_eq_true rfl) (M_onw0 S (I := upc B 126 u) (k := m) (s := s) (by omega) (by omega)) (fun x1 m1 hq => ?_)
                  obtain ⟨rfl, rfl⟩ := hq
                  rw [show (if (upc B 126 u) 126 (64 * (m + 1) + s) < 0 then (-1 : Int32) else (upc B 126 u) 126 (64 * (m + 1) + s) + nI 0) = wV0 (Wt (deedM I cb ce) nh na pr r) s from by
                    show (if u _ < 0 then _ else u _ + nI 0) = _
                    unfold wV0
                    rw [hUU _ (by omega)]]
                  refine p_cV2i k188_114 (s_98 S) c_12_332_12 rfl rfl (Nat.le_of_ble_eq_true rfl) (M_most S _ _) (fun x1 m1 hq => ?_)
                  obtain ⟨rfl, rfl⟩ := hq
                  refine p_istore (ls' := [(0, _), (1, _), (2, _), (3, _), (4, _), (5, _)]) k188_117 rfl ?_
                  refine p_iinc (v := (nI (0))) (ls' := [(0, _), (1, _), (2, _), (3, _), (4, _), (5, _)]) k188_119 rfl (by decide) rfl ?_
                  refine p_goto (tgt := 94) k188_122 (by decide) ?_
                  have LD : ∀ (j : Nat) (a : Nat) (x : Int32), a + j = na → fld (fWb (deedM I cb ce) (Wt (deedM I cb ce) nh na pr r) (nh - (r + 1)) s) j a x = Wt (deedM I cb ce) nh na pr (r + 1) s → EvP (d + 5) 188 94 [(0, .ref (98)), (1, .int (nI (pr))), (2, .int (nI (m))), (3, .int (nI (s))), (4, .int (x)), (5, .int (nI (a)))] [] (upc B 126 u, J, K, h) (QV (fun t => ∃ I', t = (I', J, K, h) ∧ AG I I' ∧ I' 98 40 = Wt (deedM I cb ce) nh na pr nh 0 ∧ ∀ k, k < nh → I' 124 k = optI (-1) (chs (deedM I cb ce) nh na pr (nh - (k + 1)) (stN (deedM I cb ce) nh na pr k)))) := by
                    intro j
                    induction j with
                    | zero =>
                      intro a x hk
                      intro hx
                      refine p_iload k188_94 rfl ?_
                      refine p_aload_n k188_96 rfl ?_
                      refine p_getIv k188_97 (s_98 S) f_12_13_12 hBa ?_
                      refine p_icmp_geN (tgt := 125) k188_100 (by decide) (by omega) (by omega) (fun _ => ?_) (fun c => False.elim (by omega))
                      replace hx : x = Wt (deedM I cb ce) nh na pr (r + 1) s := hx
                      refine p_aload_n k188_125 rfl ?_
                      refine p_getRv k188_126 (s_98 S) f_12_135_12 (r_98_41 S) ?_
                      refine p_bipush (v := nI 64) k188_129 (by decide) ?_
                      refine p_iload_n k188_131 rfl ?_
                      refine p_imulN k188_132 ?_
                      refine p_iload_n k188_133 rfl ?_
                      refine p_iaddN k188_134 ?_
                      refine p_iload k188_135 rfl ?_
                      refine p_iastN k188_137 (s_126 S) (by omega) (by decide) ?_
                      refine p_iincN (ls1 := [(0, _), (1, _), (2, _), (3, _), (4, _), (5, _)]) k188_138 rfl rfl ?_
                      refine p_goto (tgt := 82) k188_141 (by decide) ?_
                      refine p_drop [0, 1, 2, 3] rfl ?_
                      rw [upc_uu]
                      refine ih82 (s + 1) _ (by omega) (fun z hz => ?_) (fun q h1 h2 z hz => ?_)
                      · by_cases e : z = s
                        · subst e; exact (upc_eq _ _ _).trans hx
                        · exact (upc_ne _ _ (by omega)).trans (hs z (by omega))
                      · exact (upc_ne _ _ (by omega)).trans (hu q h1 h2 z hz)
                    | succ j ih =>
                      intro a x hk
                      intro hx
                      refine p_iload k188_94 rfl ?_
                      refine p_aload_n k188_96 rfl ?_
                      refine p_getIv k188_97 (s_98 S) f_12_13_12 hBa ?_
                      refine p_icmp_geN (tgt := 125) k188_100 (by decide) (by omega) (by omega) (fun c => False.elim (by omega)) (fun _ => ?_)
                      refine p_aload_n k188_103 rfl ?_
                      refine p_iload k188_104 rfl ?_
                      refine p_aload_n k188_106 rfl ?_
                      refine p_iload_n k188_107 rfl ?_
                      refine p_iload_n k188_108 rfl ?_
                      refine p_iload k188_109 rfl ?_
                      refine p_cV3i k188_111 (s_98 S) c_12_377_12 rfl rfl rfl (Nat.le_of_ble_eq_true rfl) (M_onwA S (I := upc B 126 u) (k := m) (s := s) (a := a) (by omega) (by omega) (by omega)) (fun x1 m1 hq => ?_)
                      obtain ⟨rfl, rfl⟩ := hq
                      rw [show (if s.testBit a = true then (-1 : Int32) else if (upc B 126 u) 126 (64 * (m + 1) + (s ||| 2 ^ a)) < 0 then -1 else (upc B 126 u) 126 (64 * (m + 1) + (s ||| 2 ^ a)) + (upc B 126 u) 125 (6 * a + m)) = byV (deedM I cb ce) (Wt (deedM I cb ce) nh na pr r) (nh - (r + 1)) s a from by
                        show (if _ then _ else if u _ < 0 then _ else u _ + B 125 _) = _
                        unfold byV
                        rw [hUU _ (or_lt64 (by omega) (by omega)), hB125 a m (by omega) (by omega), hr2]]
                      refine p_cV2i k188_114 (s_98 S) c_12_332_12 rfl rfl (Nat.le_of_ble_eq_true rfl) (M_most S _ _) (fun x1 m1 hq => ?_)
                      obtain ⟨rfl, rfl⟩ := hq
                      refine p_istore (ls' := [(0, _), (1, _), (2, _), (3, _), (4, _), (5, _)]) k188_117 rfl ?_
                      refine p_iincN (ls1 := [(0, _), (1, _), (2, _), (3, _), (4, _), (5, _)]) k188_119 rfl rfl ?_
                      refine p_goto (tgt := 94) k188_122 (by decide) ?_
                      exact ih (a + 1) _ (by omega) hx
                  exact LD na 0 _ (by omega) rfl
              exact LC 64 0 u (by omega) (fun z hz => absurd hz (Nat.not_lt_zero _)) hu
        have hb0 : (∀ q, nh ≤ q → q ≤ nh → ∀ s, s < 64 → u (64 * q + s) = Wt (deedM I cb ce) nh na pr (nh - q) s) := by
          intro q h1 h2 z hz
          have e : q = nh := by omega
          rw [e, hs z (by omega), Nat.sub_self]
        exact LB nh _ u rfl (Nat.le_refl _) hb0
      | succ j ih =>
        intro s u hk
        intro hs
        refine p_iload_n k188_29 rfl ?_
        refine p_bipush (v := nI 64) k188_30 (by decide) ?_
        refine p_icmp_geN (tgt := 69) k188_32 (by decide) (by omega) (by omega) (fun c => False.elim (by omega)) (fun _ => ?_)
        refine p_aload_n k188_35 rfl ?_
        refine p_getRv k188_36 (s_98 S) f_12_135_12 (r_98_41 S) ?_
        refine p_bipush (v := nI 64) k188_39 (by decide) ?_
        refine p_aload_n k188_41 rfl ?_
        refine p_getIv k188_42 (s_98 S) f_12_7_12 hBh ?_
        refine p_imulN k188_45 ?_
        refine p_iload_n k188_46 rfl ?_
        refine p_iaddN k188_47 ?_
        refine p_aload_n k188_48 rfl ?_
        refine p_iload_n k188_49 rfl ?_
        refine p_cV1i k188_50 (s_98 S) c_12_374_12 rfl (Nat.le_of_ble_eq_true rfl) (M_ones S (s := s) (by omega)) (fun x1 m1 hq => ?_)
        obtain ⟨rfl, rfl⟩ := hq
        have hpc := popc_le s
        refine p_iload_n k188_53 rfl ?_
        refine p_icmp_neN (tgt := 61) k188_54 (by decide) (by omega) (by omega) (fun cq54 => ?_) (fun cq54 => ?_)
        · skip
          refine p_iconst (v := (-1)) k188_61 (by decide) ?_
          refine p_iastN k188_62 (s_126 S) (by omega) (by decide) ?_
          refine p_iincN (ls1 := [(0, _), (1, _), (2, _)]) k188_63 rfl rfl ?_
          refine p_goto (tgt := 29) k188_66 (by decide) ?_
          rw [upc_uu]
          refine ih (s + 1) _ (by omega) (fun z hz => ?_)
          by_cases e : z = s
          · subst e; refine (upc_eq _ _ _).trans ?_; show _ = if _ then _ else _; first | rw [if_pos cq54] | rw [if_neg cq54]
          · exact (upc_ne _ _ (by omega)).trans (hs z (by omega))
        · skip
          refine p_iconst (v := nI 0) k188_57 (by decide) ?_
          refine p_goto (tgt := 62) k188_58 (by decide) ?_
          refine p_iastN k188_62 (s_126 S) (by omega) (by decide) ?_
          refine p_iincN (ls1 := [(0, _), (1, _), (2, _)]) k188_63 rfl rfl ?_
          refine p_goto (tgt := 29) k188_66 (by decide) ?_
          rw [upc_uu]
          refine ih (s + 1) _ (by omega) (fun z hz => ?_)
          by_cases e : z = s
          · subst e; refine (upc_eq _ _ _).trans ?_; show _ = if _ then _ else _; first | rw [if_pos cq54] | rw [if_neg cq54]
          · exact (upc_ne _ _ (by omega)).trans (hs z (by omega))
    refine p_self 126 ?_
    exact LA 64 0 _ (by omega) (fun z hz => absurd hz (Nat.not_lt_zero _))

def byM (I : Nat → Nat → Int32) (cb ce nh na : Nat) (v : Int32) : Int32 := if inB v (-1) (nI 5) = false then -1 else if ¬ v < nI nh then -5 else if v < 0 then Wt (deedM I cb ce) nh na (mnN nh na) nh 0 else orN (optI (-1) (chs (deedM I cb ce) nh na (mnN nh na) (nh - (v.toNatClampNeg + 1)) (stN (deedM I cb ce) nh na (mnN nh na) v.toNatClampNeg)))
theorem by_ix {v : Int32} {nh : Nat} (h1 : v < nI nh) (h0 : (0 : Int32) ≤ v) (h6 : nh ≤ 6) : ∃ k, k < nh ∧ v = nI k := by
  rw [i_lt, nI_t (by omega)] at h1
  rw [i_le] at h0
  have h2 : (0 : Int32).toInt = 0 := rfl
  refine ⟨v.toInt.toNat, by omega, ?_⟩
  rw [i_eq, nI_t (by omega)]
  omega
set_option maxRecDepth 100000 in
set_option maxHeartbeats 4000000 in
theorem M_by {d : Nat} {I : Nat → Nat → Int32} {J : Nat → Nat → Int64} {K : Nat → Nat → Option Nat} {h : List xSh} (S : St K h) {nh na dd cb ce : Nat} (M : MI I nh na dd cb ce) (g : Nat → Int32) (v : Int32) : EvP (d + 6) 189 0 [(0, .ref (98)), (1, .int (v))] [] (upc I 120 g, J, K, h) (QI (fun x t => x = byM I cb ce nh na v ∧ ∃ I', t = (I', J, K, h) ∧ AG I I')) := by
  have hnh : upc I 120 g 98 0 = nI nh := M.nh
  have hnh6 := M.nh6
  have hna : upc I 120 g 98 1 = nI na := M.na
  have hna6 := M.na6
  refine p_aload_n k189_0 rfl ?_
  refine p_iload_n k189_1 rfl ?_
  refine p_iconst (v := (-1)) k189_2 (by decide) ?_
  refine p_iconst (v := nI 5) k189_3 (by decide) ?_
  refine p_cV3i k189_4 (s_98 S) c_12_248_12 rfl rfl rfl (Nat.le_of_ble_eq_true rfl) (M_in S (v) ((-1)) (nI (5))) (fun x1 m1 hq => ?_)
  obtain ⟨rfl, rfl⟩ := hq
  refine p_if_neB (tgt := 12) k189_7 (by decide) (fun cq7 => ?_) (fun cq7 => ?_)
  · skip
    refine p_iload_n k189_12 rfl ?_
    refine p_aload_n k189_13 rfl ?_
    refine p_getIv k189_14 (s_98 S) f_12_7_12 M.nh ?_
    refine p_icmp_lt (tgt := 23) k189_17 (by decide) (fun cq17 => ?_) (fun cq17 => ?_)
    · skip
      refine p_aload_n k189_23 rfl ?_
      refine p_cV0v k189_24 (s_98 S) c_12_380_12 (Nat.le_of_ble_eq_true rfl) (M_layBest S M g rfl) (fun m1 hq => ?_)
      obtain ⟨I', rfl, hA, hb0, hb⟩ := hq
      refine p_iload_n k189_27 rfl ?_
      refine p_if_ge (tgt := 38) k189_28 (by decide) (fun cq28 => ?_) (fun cq28 => ?_)
      · skip
        have hk0 : (0 : Int32) ≤ v := by first | exact cq28 | exact Int32.not_lt.mp cq28
        obtain ⟨k, hk, rfl⟩ := by_ix cq17 hk0 hnh6
        have hck := nI_clamp (n := k) (by omega)
        refine p_aload_n k189_38 rfl ?_
        refine p_aload_n k189_39 rfl ?_
        refine p_getRv k189_40 (s_98 S) f_12_126_12 (r_98_38 S) ?_
        refine p_iload_n k189_43 rfl ?_
        refine p_ialdN k189_44 (s_124 S) (by omega) (by decide) rfl ?_
        refine p_cV1i k189_45 (s_98 S) c_12_266_12 rfl (Nat.le_of_ble_eq_true rfl) (M_orNone S (I' 124 k)) (fun x1 m1 hq => ?_)
        obtain ⟨rfl, rfl⟩ := hq
        refine p_ireturn k189_48 rt_189 ?_
        first | exact ⟨by unfold byM; rw [if_neg (by rw [cq7]; decide), if_neg (fun f => f cq17), if_neg (i_ge0 hk0), hck, hb k hk], I', rfl, hA⟩ | exact ⟨by unfold byM; rw [if_neg (by rw [cq7]; decide), if_neg (fun f => f cq17), if_pos (i_lt0 cq28), hb0], I', rfl, hA⟩
      · skip
        refine p_aload_n k189_31 rfl ?_
        refine p_getIv k189_32 (s_98 S) f_12_132_12 rfl ?_
        refine p_goto (tgt := 48) k189_35 (by decide) ?_
        refine p_ireturn k189_48 rt_189 ?_
        first | exact ⟨by unfold byM; rw [if_neg (by rw [cq7]; decide), if_neg (fun f => f cq17), if_neg (i_ge0 hk0), hck, hb k hk], I', rfl, hA⟩ | exact ⟨by unfold byM; rw [if_neg (by rw [cq7]; decide), if_neg (fun f => f cq17), if_pos (i_lt0 cq28), hb0], I', rfl, hA⟩
    · skip
      refine p_bipush (v := (-5)) k189_20 (by decide) ?_
      refine p_ireturn k189_22 rt_189 ?_
      exact ⟨by unfold byM; rw [if_neg (by rw [cq7]; decide), if_pos cq17], _, rfl, AG.up g⟩
  · skip
    refine p_iconst (v := (-1)) k189_10 (by decide) ?_
    refine p_ireturn k189_11 rt_189 ?_
    exact ⟨by unfold byM; rw [if_pos cq7], _, rfl, AG.up g⟩

