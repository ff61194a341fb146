/-! the class: can, wornByBestWay, by -/
theorem mx_ge1 (x y : Int32) : x ≤ mxI x y := by
  unfold mxI
  by_cases e : y < x
  · rw [if_pos e]; exact Int32.le_refl _
  · rw [if_neg e]; exact Int32.not_lt.mp e
theorem mx_ge2 (x y : Int32) : y ≤ mxI x y := by
  unfold mxI
  by_cases e : y < x
  · rw [if_pos e]; exact Int32.le_of_lt e
  · rw [if_neg e]; exact Int32.le_refl _
theorem mx_if (x y : Int32) : (if x < y then y else x) = mxI x y := by
  unfold mxI
  by_cases e : y < x
  · rw [if_pos e, if_neg (fun z => Int32.lt_irrefl (Int32.lt_trans e z))]
  · rw [if_neg e]
    by_cases e2 : x < y
    · exact if_pos e2
    · rw [if_neg e2]; exact Int32.le_antisymm (Int32.not_lt.mp e) (Int32.not_lt.mp e2)
theorem mx_l {x y : Int32} (h : y ≤ x) : mxI x y = x := by
  unfold mxI
  by_cases e : y < x
  · exact if_pos e
  · rw [if_neg e]; exact Int32.le_antisymm h (Int32.not_lt.mp e)
theorem fWb_ge {D : Nat → Nat → Int32} {nx : Nat → Int32} {k s : Nat} : ∀ (j i : Nat) (x : Int32), x ≤ fld (fWb D nx k s) j i x := by
  intro j
  induction j with
  | zero => intro i x; exact Int32.le_refl _
  | succ j ih => intro i x; exact Int32.le_trans (mx_ge1 _ _) (ih (i + 1) _)
theorem Wt_ge (D : Nat → Nat → Int32) (nh na pr : Nat) : ∀ r s, -1 ≤ Wt D nh na pr r s := by
  intro r s
  cases r with
  | zero => show (-1 : Int32) ≤ (if popc s = pr then nI 0 else -1); split <;> decide
  | succ r => exact Int32.le_trans (mx_ge1 _ _) (fWb_ge _ _ _)
theorem n1_lt0 {x : Int32} (h : -1 ≤ x) (h0 : x < 0) : x = -1 := by
  rw [i_le] at h; rw [i_lt] at h0; rw [i_eq]
  have h1 : (-1 : Int32).toInt = -1 := rfl
  have h2 : (0 : Int32).toInt = 0 := rfl
  omega
theorem wV0_Wt (D : Nat → Nat → Int32) (nh na pr r s : Nat) : wV0 (Wt D nh na pr r) s = Wt D nh na pr r s := by
  unfold wV0
  by_cases h : Wt D nh na pr r s < 0
  · rw [if_pos h]; exact (n1_lt0 (Wt_ge D nh na pr r s) h).symm
  · rw [if_neg h]; exact Int32.add_zero _
theorem full_and {s na : Nat} (h : s < 2 ^ na) : s &&& (2 ^ na - 1) = s := by rw [Nat.and_two_pow_sub_one_eq_mod, Nat.mod_eq_of_lt h]
theorem or_ltp {s a na : Nat} (hs : s < 2 ^ na) (ha : a < na) : s ||| 2 ^ a < 2 ^ na := Nat.or_lt_two_pow hs (Nat.pow_lt_pow_right (by decide) ha)
theorem p64 {na : Nat} (h : na ≤ 6) : 2 ^ na ≤ 64 := Nat.pow_le_pow_right (show 0 < 2 by decide) h
theorem mwC_by {D : Nat → Nat → Int32} {w V : Nat → Int32} {k s a : Nat} (h : w ((k + 1) * 64 + (s ||| 2 ^ a)) = V (s ||| 2 ^ a)) (hb : s.testBit a = false) : mwC D w k s a = byV D V k s a := by
  unfold mwC byV
  rw [h, if_neg (show ¬ s.testBit a = true by rw [hb]; decide)]
theorem WtA_full {D : Nat → Nat → Int32} {nh na pr : Nat} (hna : na ≤ 6) : ∀ r s, s < 2 ^ na → WtA D (2 ^ na - 1) nh na pr r s = Wt D nh na pr r s := by
  intro r
  induction r with
  | zero => intro s hs; rfl
  | succ r ih =>
    intro s hs
    have h64 := p64 hna
    have e : ∀ z, z < 64 → ((nh - (r + 1) + 1) * 64 + z) % 64 = z := fun z hz => by omega
    show mfC D (fun i => WtA D (2 ^ na - 1) nh na pr r (i % 64)) na (nh - (r + 1)) s (2 ^ na - 1) = fld (fWb D (Wt D nh na pr r) (nh - (r + 1)) s) na 0 (mxI (-1) (wV0 (Wt D nh na pr r) s))
    unfold mfC
    show fld _ na 0 (WtA D (2 ^ na - 1) nh na pr r (((nh - (r + 1) + 1) * 64 + s) % 64)) = _
    rw [e s (by omega), ih s hs, mx_n1 (wV0_ge _ _), wV0_Wt]
    have L : ∀ (j k : Nat) (x : Int32), k + j = na → -1 ≤ x → fld (fMf D (fun i => WtA D (2 ^ na - 1) nh na pr r (i % 64)) (nh - (r + 1)) s (2 ^ na - 1)) j k x = fld (fWb D (Wt D nh na pr r) (nh - (r + 1)) s) j k x := by
      intro j
      induction j with
      | zero => intro k x _ _; rfl
      | succ j ih2 =>
        intro k x hk hx
        have hkn : k < na := by omega
        have hs1 : fMf D (fun i => WtA D (2 ^ na - 1) nh na pr r (i % 64)) (nh - (r + 1)) s (2 ^ na - 1) k x = fWb D (Wt D nh na pr r) (nh - (r + 1)) s k x := by
          unfold fMf fWb
          rcases hb : s.testBit k with _ | _
          · rw [if_pos ⟨by rw [Nat.testBit_two_pow_sub_one]; exact decide_eq_true hkn, rfl⟩, mwC_by (V := Wt D nh na pr r) (by show WtA D (2 ^ na - 1) nh na pr r (((nh - (r + 1) + 1) * 64 + (s ||| 2 ^ k)) % 64) = _; have ho := or_ltp hs hkn; rw [e _ (by omega), ih _ ho]) hb, mx_if]
          · rw [if_neg (fun z => by cases z.2)]
            unfold byV
            rw [if_pos hb, mx_l hx]
        show fld _ j (k + 1) _ = fld _ j (k + 1) _
        rw [hs1]
        exact ih2 (k + 1) _ (by omega) (Int32.le_trans hx (mx_ge1 _ _))
    exact L na 0 _ (by omega) (Wt_ge _ _ _ _ _ _)
theorem fnd_congr {p q : Nat → Bool} : ∀ {j k : Nat}, (∀ i, k ≤ i → i < k + j → p i = q i) → fnd p j k = fnd q j k := by
  intro j
  induction j with
  | zero => intro k _; rfl
  | succ j ih =>
    intro k h
    unfold fnd
    rw [h k (Nat.le_refl _) (by omega), ih (fun i h1 h2 => h i (by omega) (by omega))]
theorem foC_chs {D : Nat → Nat → Int32} {w : Nat → Int32} {nh na pr k s : Nat} (hna : na ≤ 6) (hW : ROWA D (2 ^ na - 1) nh na pr w 0) (hk : k < nh) (hs : s < 2 ^ na) : foC D w na k s = optI (-1) (chs D nh na pr (nh - (k + 1)) s) := by
  have h64 := p64 hna
  have w1 : ∀ z, z < 2 ^ na → w ((k + 1) * 64 + z) = Wt D nh na pr (nh - (k + 1)) z := fun z hz => by rw [hW (k + 1) (by omega) (by omega) z (by omega) (full_and hz), WtA_full hna _ _ hz]
  have hr : nh - (k + 1) + 1 = nh - k := by omega
  have hr2 : nh - (nh - (k + 1) + 1) = k := by omega
  have w0 : w (k * 64 + s) = Wt D nh na pr (nh - (k + 1) + 1) s := by rw [hW k (by omega) (by omega) s (by omega) (full_and hs), WtA_full hna _ _ hs, hr]
  unfold foC chs
  rw [w1 s hs, w0, wV0_Wt]
  by_cases e : Wt D nh na pr (nh - (k + 1)) s = Wt D nh na pr (nh - (k + 1) + 1) s
  · rw [if_pos e, if_pos e]; rfl
  · rw [if_neg e, if_neg e]
    refine congrArg (optI (-1)) (fnd_congr (fun a _ ha => ?_))
    have hge : ¬ (-1 : Int32) = Wt D nh na pr (nh - (k + 1) + 1) s := by
      intro z
      have h1 : Wt D nh na pr (nh - (k + 1)) s ≤ Wt D nh na pr (nh - (k + 1) + 1) s := by
        have h2 := fWb_ge (D := D) (nx := Wt D nh na pr (nh - (k + 1))) (k := nh - (nh - (k + 1) + 1)) (s := s) na 0 (mxI (-1) (wV0 (Wt D nh na pr (nh - (k + 1))) s))
        refine Int32.le_trans ?_ h2
        rw [mx_n1 (wV0_ge _ _), wV0_Wt]
        exact Int32.le_refl _
      rw [← z] at h1
      exact e ((Int32.le_antisymm h1 (Wt_ge D nh na pr _ _)).trans z)
    unfold foP
    rcases hb : s.testBit a with _ | _
    · have ho := or_ltp hs (show a < na by omega)
      rw [mwC_by (V := Wt D nh na pr (nh - (k + 1))) (w1 _ ho) hb, w0, hr2]
      rfl
    · show false = decide _
      refine (decide_eq_false ?_).symm
      unfold byV
      rw [if_pos hb]
      exact hge
theorem popc_full {na : Nat} (h : na ≤ 6) : popc (2 ^ na - 1) = na := by
  rcases (show na = 0 ∨ na = 1 ∨ na = 2 ∨ na = 3 ∨ na = 4 ∨ na = 5 ∨ na = 6 by omega) with rfl | rfl | rfl | rfl | rfl | rfl | rfl <;> decide
theorem hof_lt {R : Nat → Nat → Int32} {q : Int32} : ∀ (j k n : Nat), k + j ≤ 6 → n < 64 → fld (fHof R q) j k n < 64 := by
  intro j
  induction j with
  | zero => intro k n _ h; exact h
  | succ j ih =>
    intro k n hk h
    refine ih (k + 1) _ (by omega) ?_
    unfold fHof
    split
    · exact or_lt64 h (by omega)
    · exact h
/-- the hats of trade k; what the class finds that they can do most; the works that can be done -/
def hofN (R : Nat → Nat → Int32) (na k : Nat) : Nat := fld (fHof R (nI k)) na 0 0
def moC (R : Nat → Nat → Int32) (cb ce nh na k : Nat) : Int32 := WtA (fun a k => deedM R cb ce a k) (hofN R na k) nh na (mnN nh (popc (hofN R na k))) nh 0
def fCanC (R : Nat → Nat → Int32) (cb ce nh na : Nat) (k n : Nat) : Nat := if moC R cb ce nh na k < workF R cb ce (nI k) then n else n ||| 2 ^ k
theorem chs_lt {D : Nat → Nat → Int32} {nh na pr r s a : Nat} (hc : chs D nh na pr r s = some a) : a < na := by
  unfold chs at hc
  split at hc
  · cases hc
  · have := (fnd_some hc).2.1; omega
theorem stN_ltp {D : Nat → Nat → Int32} {nh na pr : Nat} : ∀ k, stN D nh na pr k < 2 ^ na := by
  intro k
  induction k with
  | zero => exact Nat.two_pow_pos na
  | succ k ih =>
    show setN _ _ < 2 ^ na
    cases hc : chs D nh na pr (nh - (k + 1)) (stN D nh na pr k) with
    | none => exact ih
    | some a =>
      unfold chs at hc
      split at hc
      · cases hc
      · exact or_ltp ih (by have := (fnd_some hc).2.1; omega)
set_option maxRecDepth 100000 in
set_option maxHeartbeats 4000000 in
theorem C_can {d : Nat} {I : Nat → Nat → Int32} {J : Nat → Nat → Int64} {K : Nat → Nat → Option Nat} {h : List xSh} (S : St K h) {R0 : Nat → Nat → Int32} {nh na dd cb ce tw : Nat} (C : CR I K h R0 na tw) (M : MI R0 nh na dd cb ce) (Q : AR R0 nh na dd) (g : Nat → Int32)  : EvP (d + 7) 76 0 [(0, .ref (0))] [] (upc I 39 g, J, K, h) (QI (fun x t => x = nI (fld (fCanC R0 cb ce nh na) 5 0 0) ∧ ∃ w u g, t = (upc (upc (upc I 41 w) 40 u) 39 g, J, K, h))) := by
  have hnh6 := M.nh6
  have hna6 := M.na6
  refine p_aload_n k76_0 rfl ?_
  refine p_cV0v k76_1 (s_0 S) c_11_228_11 (Nat.le_of_ble_eq_true rfl) (C_noteDeeds S C M Q g) (fun m1 hq => ?_)
  obtain ⟨u, g, rfl, hN⟩ := hq
  refine p_iconst (v := nI 0) k76_4 (by decide) ?_
  refine p_istore_n (ls' := [(0, _), (1, _)]) k76_5 rfl ?_
  refine p_iconst (v := nI 0) k76_6 (by decide) ?_
  refine p_istore_n (ls' := [(0, _), (1, _), (2, _)]) k76_7 rfl ?_
  have L : ∀ (j : Nat) (k n : Nat) (w : Nat → Int32), k + j = 5 → fld (fCanC R0 cb ce nh na) j k n = fld (fCanC R0 cb ce nh na) 5 0 0 → EvP (d + 7) 76 8 [(0, .ref (0)), (1, .int (nI (n))), (2, .int (nI (k)))] [] (upc (upc (upc I 41 w) 40 u) 39 g, J, K, h) (QI (fun x t => x = nI (fld (fCanC R0 cb ce nh na) 5 0 0) ∧ ∃ w u g, t = (upc (upc (upc I 41 w) 40 u) 39 g, J, K, h))) := by
    intro j
    induction j with
    | zero =>
      intro k n w hk
      intro hs
      refine p_iload_n k76_8 rfl ?_
      refine p_iconst (v := nI 5) k76_9 (by decide) ?_
      refine p_icmp_geN (tgt := 51) k76_10 (by decide) (by omega) (by omega) (fun _ => ?_) (fun c => False.elim (by omega))
      refine p_iload_n k76_51 rfl ?_
      refine p_ireturn k76_52 rt_76 ?_
      exact ⟨by rw [← hs]; rfl, w, u, g, rfl⟩
    | succ j ih =>
      intro k n w hk
      intro hs
      refine p_iload_n k76_8 rfl ?_
      refine p_iconst (v := nI 5) k76_9 (by decide) ?_
      refine p_icmp_geN (tgt := 51) k76_10 (by decide) (by omega) (by omega) (fun c => False.elim (by omega)) (fun _ => ?_)
      refine p_aload_n k76_13 rfl ?_
      refine p_aload_n k76_14 rfl ?_
      refine p_iload_n k76_15 rfl ?_
      refine p_cV1i k76_16 (s_0 S) c_11_238_11 rfl (Nat.le_of_ble_eq_true rfl) (C_hatsOf S (((C.up (by decide) w).up (by decide) u).up (by decide) g) M Q (nI k)) (fun x1 m1 hq => ?_)
      obtain ⟨rfl, rfl⟩ := hq
      have hal : hofN R0 na k < 64 := hof_lt na 0 0 (by omega) (by decide)
      refine p_cV1v k76_19 (s_0 S) c_11_231_11 rfl (Nat.le_of_ble_eq_true rfl) (C_weighWays S C M Q g hN (w := w) hal rfl) (fun m1 hq => ?_)
      obtain ⟨w, rfl, hW⟩ := hq
      refine p_aload_n k76_22 rfl ?_
      refine p_getRv k76_23 (s_0 S) f_11_75_11 (r_0_12 S) ?_
      refine p_iconst (v := nI 0) k76_26 (by decide) ?_
      refine p_ialdN k76_27 (s_41 S) (by omega) (by decide) (show w 0 = moC R0 cb ce nh na k from hW 0 (Nat.zero_le _) (Nat.zero_le _) 0 (by decide) (Nat.zero_and _)) ?_
      refine p_aload_n k76_28 rfl ?_
      refine p_cV0r k76_29 (s_0 S) c_11_193_11 (Nat.le_of_ble_eq_true rfl) (C_holding S (((C.up (by decide) w).up (by decide) u).up (by decide) g) M.th) (fun x1 m1 hq => ?_)
      obtain ⟨hCU, rfl⟩ := hq
      generalize x1 = b at hCU ⊢
      have hTS := hCU.1.1
      refine p_iload_n k76_32 rfl ?_
      refine p_cV1i k76_33 hTS.1.1 c_11_203_8 rfl (Nat.le_of_ble_eq_true rfl) (C_work S hCU (nI k)) (fun x1 m1 hq => ?_)
      obtain ⟨rfl, rfl⟩ := hq
      refine p_icmp_lt (tgt := 45) k76_36 (by decide) (fun cq36 => ?_) (fun cq36 => ?_)
      · skip
        refine p_iincN (ls1 := [(0, _), (1, _), (2, _)]) k76_45 rfl rfl ?_
        refine p_goto (tgt := 8) k76_48 (by decide) ?_
        exact ih (k + 1) _ w (by omega) (by rw [← hs]; exact congrArg (fld (fCanC R0 cb ce nh na) j (k + 1)) (by unfold fCanC; first | rw [if_pos cq36] | rw [if_neg cq36] | rw [if_neg (Int32.not_lt.mpr cq36)]))
      · skip
        refine p_iload_n k76_39 rfl ?_
        refine p_iconst (v := nI 1) k76_40 (by decide) ?_
        refine p_iload_n k76_41 rfl ?_
        refine p_ishl1 (by omega) k76_42 ?_
        refine p_iorN k76_43 ?_
        refine p_istore_n (ls' := [(0, _), (1, _), (2, _)]) k76_44 rfl ?_
        refine p_iincN (ls1 := [(0, _), (1, _), (2, _)]) k76_45 rfl rfl ?_
        refine p_goto (tgt := 8) k76_48 (by decide) ?_
        exact ih (k + 1) _ w (by omega) (by rw [← hs]; exact congrArg (fld (fCanC R0 cb ce nh na) j (k + 1)) (by unfold fCanC; first | rw [if_pos cq36] | rw [if_neg cq36] | rw [if_neg (Int32.not_lt.mpr cq36)]))
  refine p_self 41 ?_
  rw [upc_sw _ (show 39 ≠ 41 by decide), upc_sw _ (show 40 ≠ 41 by decide)]
  exact L 5 0 0 (I 41) (by omega) rfl

set_option maxRecDepth 100000 in
set_option maxHeartbeats 4000000 in
theorem C_wornByBestWay {d : Nat} {I : Nat → Nat → Int32} {J : Nat → Nat → Int64} {K : Nat → Nat → Option Nat} {h : List xSh} (S : St K h) {R0 : Nat → Nat → Int32} {nh na dd cb ce tw : Nat} (C : CR I K h R0 na tw) (M : MI R0 nh na dd cb ce) (Q : AR R0 nh na dd) (g : Nat → Int32) {u w : Nat → Int32} (hN : NTD R0 cb ce nh na u) {pr : Nat} (hW : ROWA (fun a k => deedM R0 cb ce a k) (2 ^ na - 1) nh na pr w 0) (v : Int32) : EvP (d + 4) 119 0 [(0, .ref (0)), (1, .int (v))] [] (upc (upc (upc I 41 w) 40 u) 39 g, J, K, h) (QI (fun x t => x = (if ixB (v) nh = false then -1 else optI (-1) (chs (fun a k => deedM R0 cb ce a k) nh na pr (nh - ((v).toNatClampNeg + 1)) (stN (fun a k => deedM R0 cb ce a k) nh na pr (v).toNatClampNeg))) ∧ t = (upc (upc (upc I 41 w) 40 u) 39 g, J, K, h))) := by
  have hnh6 := M.nh6
  have hna6 := M.na6
  refine p_aload_n k119_0 rfl ?_
  refine p_getRv k119_1 (s_0 S) f_11_14_11 (r_0_0 S) ?_
  refine p_iload_n k119_4 rfl ?_
  refine p_cV1i k119_5 (s_1 S) c_11_173_3 rfl (Nat.le_of_ble_eq_true rfl) (C_isHead S (I := (upc (upc (upc I 41 w) 40 u) 39 g)) (n := nh) (show _ = nI nh from C.heads.trans M.nh) hnh6 v) (fun x1 m1 hq => ?_)
  obtain ⟨rfl, rfl⟩ := hq
  refine p_if_neB (tgt := 13) k119_8 (by decide) (fun cq8 => ?_) (fun cq8 => ?_)
  · skip
    refine p_iconst (v := nI 0) k119_13 (by decide) ?_
    refine p_istore_n (ls' := [(0, _), (1, _), (2, _)]) k119_14 rfl ?_
    refine p_iconst (v := (-1)) k119_15 (by decide) ?_
    refine p_istore_n (ls' := [(0, _), (1, _), (2, _), (3, _)]) k119_16 rfl ?_
    refine p_iconst (v := nI 0) k119_17 (by decide) ?_
    refine p_istore (ls' := [(0, _), (1, _), (2, _), (3, _), (4, _)]) k119_18 rfl ?_
    obtain ⟨m, hm, rfl⟩ := ixB_of (n := nh) (by omega) cq8
    have hcm := nI_clamp (n := m) (by omega)
    have L : ∀ (j : Nat) (k s : Nat) (o : Int32), k + j = m + 1 → s = stN (fun a k => deedM R0 cb ce a k) nh na pr k → (∀ q, k = q + 1 → o = optI (-1) (chs (fun a k => deedM R0 cb ce a k) nh na pr (nh - (q + 1)) (stN (fun a k => deedM R0 cb ce a k) nh na pr q))) → EvP (d + 4) 119 20 [(0, .ref (0)), (1, .int (nI (m))), (2, .int (nI (s))), (3, .int (o)), (4, .int (nI (k)))] [] (upc (upc (upc I 41 w) 40 u) 39 g, J, K, h) (QI (fun x t => x = (if ixB (nI m) nh = false then -1 else optI (-1) (chs (fun a k => deedM R0 cb ce a k) nh na pr (nh - ((nI m).toNatClampNeg + 1)) (stN (fun a k => deedM R0 cb ce a k) nh na pr (nI m).toNatClampNeg))) ∧ t = (upc (upc (upc I 41 w) 40 u) 39 g, J, K, h))) := by
      intro j
      induction j with
      | zero =>
        intro k s o hk
        intro hst ho
        refine p_iload k119_20 rfl ?_
        refine p_iload_n k119_22 rfl ?_
        refine p_icmp_gtN (tgt := 51) k119_23 (by decide) (by omega) (by omega) (fun _ => ?_) (fun c => False.elim (by omega))
        refine p_iload_n k119_51 rfl ?_
        refine p_ireturn k119_52 rt_119 ?_
        refine ⟨?_, rfl⟩
        rw [cq8, if_neg (by decide), hcm]
        exact ho m (by omega)
      | succ j ih =>
        intro k s o hk
        intro hst ho
        have hs9 : s < 2 ^ na := by rw [hst]; exact stN_ltp k
        have hfo := foC_chs hna6 hW (show k < nh by omega) hs9
        refine p_iload k119_20 rfl ?_
        refine p_iload_n k119_22 rfl ?_
        refine p_icmp_gtN (tgt := 51) k119_23 (by decide) (by omega) (by omega) (fun c => False.elim (by omega)) (fun _ => ?_)
        refine p_aload_n k119_26 rfl ?_
        refine p_iload k119_27 rfl ?_
        refine p_iload_n k119_29 rfl ?_
        refine p_cV2i k119_30 (s_0 S) c_11_361_11 rfl rfl (Nat.le_of_ble_eq_true rfl) (C_firstOfBest S C M Q g hN (w := w) (k := k) (s := s) (by omega) (by have := p64 hna6; omega)) (fun x1 m1 hq => ?_)
        obtain ⟨rfl, rfl⟩ := hq
        refine p_istore_n (ls' := [(0, _), (1, _), (2, _), (3, _), (4, _)]) k119_33 rfl ?_
        refine p_iload_n k119_34 rfl ?_
        refine p_iconst (v := (-1)) k119_35 (by decide) ?_
        refine p_icmp_eq (tgt := 45) k119_36 (by decide) (fun cq36 => ?_) (fun cq36 => ?_)
        · skip
          refine p_iincN (ls1 := [(0, _), (1, _), (2, _), (3, _), (4, _)]) k119_45 rfl rfl ?_
          refine p_goto (tgt := 20) k119_48 (by decide) ?_
          refine ih (k + 1) _ _ (by omega) ?_ (fun q hq2 => ?_)
          · show _ = setN (stN (fun a k => deedM R0 cb ce a k) nh na pr k) (chs (fun a k => deedM R0 cb ce a k) nh na pr (nh - (k + 1)) (stN (fun a k => deedM R0 cb ce a k) nh na pr k))
            rw [← hst]
            first | (rw [hca]; rfl) | (cases hc : chs (fun a k => deedM R0 cb ce a k) nh na pr (nh - (k + 1)) s with
              | none => rfl
              | some a => exact absurd (cq36.symm.trans (hfo.trans (by rw [hc]))) (fun z => by
                  have := chs_lt hc
                  exact nI_neg (v := a) (by omega) (by decide) z.symm))
          · have hqk : q = k := by omega
            subst hqk
            rw [hfo, hst]
        · skip
          obtain ⟨a, ha, hca⟩ : ∃ a, a < na ∧ chs (fun a k => deedM R0 cb ce a k) nh na pr (nh - (k + 1)) s = some a := by
            cases hc : chs (fun a k => deedM R0 cb ce a k) nh na pr (nh - (k + 1)) s with
            | none => exact absurd (hfo.trans (by rw [hc]; rfl)) cq36
            | some a =>
              exact ⟨a, chs_lt hc, rfl⟩
          have hfa : foC (fun a k => deedM R0 cb ce a k) w na k s = nI a := by rw [hfo, hca]; rfl
          refine p_iload_n k119_39 rfl ?_
          refine p_iconst (v := nI 1) k119_40 (by decide) ?_
          refine p_iload_n k119_41 rfl ?_
          refine p_toI (z := (nI (a))) hfa ?_
          refine p_ishl1 (by omega) k119_42 ?_
          refine p_iorN k119_43 ?_
          refine p_istore_n (ls' := [(0, _), (1, _), (2, _), (3, _), (4, _)]) k119_44 rfl ?_
          refine p_iincN (ls1 := [(0, _), (1, _), (2, _), (3, _), (4, _)]) k119_45 rfl rfl ?_
          refine p_goto (tgt := 20) k119_48 (by decide) ?_
          refine ih (k + 1) _ _ (by omega) ?_ (fun q hq2 => ?_)
          · show _ = setN (stN (fun a k => deedM R0 cb ce a k) nh na pr k) (chs (fun a k => deedM R0 cb ce a k) nh na pr (nh - (k + 1)) (stN (fun a k => deedM R0 cb ce a k) nh na pr k))
            rw [← hst]
            first | (rw [hca]; rfl) | (cases hc : chs (fun a k => deedM R0 cb ce a k) nh na pr (nh - (k + 1)) s with
              | none => rfl
              | some a => exact absurd (cq36.symm.trans (hfo.trans (by rw [hc]))) (fun z => by
                  have := chs_lt hc
                  exact nI_neg (v := a) (by omega) (by decide) z.symm))
          · have hqk : q = k := by omega
            subst hqk
            rw [hfo, hst]
    exact L (m + 1) 0 0 _ (by omega) rfl (fun q hq2 => absurd hq2 (by omega))
  · skip
    refine p_iconst (v := (-1)) k119_11 (by decide) ?_
    refine p_ireturn k119_12 rt_119 ?_
    exact ⟨by rw [if_pos cq8], rfl⟩

theorem orA_N9 {x : Int32} (h : -1 ≤ x) : orA x = orN x := by
  unfold orA orN
  by_cases e : x = -1
  · subst e; rfl
  · rw [if_neg e, if_neg (fun z => e (n1_lt0 h z))]
theorem by_eq {R : Nat → Nat → Int32} {cb ce nh na : Nat} {v : Int32} (hnh : nh ≤ 6) (hna : na ≤ 6) (hv : inB v (-1) (nI 5) = true) (hne : v ≠ -1) : orA (if ixB v nh = false then -1 else optI (-1) (chs (fun a k => deedM R cb ce a k) nh na (mnN nh na) (nh - (v.toNatClampNeg + 1)) (stN (fun a k => deedM R cb ce a k) nh na (mnN nh na) v.toNatClampNeg))) = byM R cb ce nh na v := by
  have h0 : ¬ v < 0 := by
    intro z
    refine hne (n1_lt0 ?_ z)
    exact (of_decide_eq_true hv).1
  have hv2 : ¬ inB v (-1) (nI 5) = false := by rw [hv]; decide
  by_cases e : ixB v nh = false
  · rw [if_pos e]
    unfold byM
    have h3 : ¬ v < nI nh := by
      intro z
      have h1 := of_decide_eq_false e
      rw [i_lt, nI_t (by omega)] at z
      rw [i_lt] at h0
      have h2 : (0 : Int32).toInt = 0 := rfl
      exact h1 ⟨by omega, z⟩
    rw [if_neg hv2, if_pos h3]
    rfl
  · have e2 : ixB v nh = true := by cases z : ixB v nh; exact absurd z e; rfl
    obtain ⟨k, hk, rfl⟩ := ixB_of (by omega) e2
    unfold byM
    rw [if_neg e, if_neg hv2, if_neg (show ¬ ¬ nI k < nI nh from fun z => z (by rw [i_lt, nI_t (by omega), nI_t (by omega)]; omega)), if_neg h0]
    cases hc : chs (fun a k => deedM R cb ce a k) nh na (mnN nh na) (nh - ((nI k).toNatClampNeg + 1)) (stN (fun a k => deedM R cb ce a k) nh na (mnN nh na) (nI k).toNatClampNeg) with
    | none => rfl
    | some a =>
      have ha := chs_lt hc
      show orA (nI a) = orN (nI a)
      exact orA_N9 (by rw [i_le, nI_t (by omega)]; show (-1 : Int) ≤ _; omega)
set_option maxRecDepth 100000 in
set_option maxHeartbeats 4000000 in
theorem C_by {d : Nat} {I : Nat → Nat → Int32} {J : Nat → Nat → Int64} {K : Nat → Nat → Option Nat} {h : List xSh} (S : St K h) {R0 : Nat → Nat → Int32} {nh na dd cb ce tw : Nat} (C : CR I K h R0 na tw) (M : MI R0 nh na dd cb ce) (Q : AR R0 nh na dd) (g : Nat → Int32) (v : Int32) : EvP (d + 7) 75 0 [(0, .ref (0)), (1, .int (v))] [] (upc I 39 g, J, K, h) (QI (fun x t => x = byM R0 cb ce nh na v ∧ (t = (upc I 39 g, J, K, h) ∨ ∃ w u g, t = (upc (upc (upc I 41 w) 40 u) 39 g, J, K, h)))) := by
  have hnh6 := M.nh6
  have hna6 := M.na6
  refine p_iload_n k75_0 rfl ?_
  refine p_iconst (v := (-1)) k75_1 (by decide) ?_
  refine p_iconst (v := nI 5) k75_2 (by decide) ?_
  refine p_cS3i k75_3 c_11_101 rfl rfl rfl (Nat.le_of_ble_eq_true rfl) (C_within S (v) ((-1)) (nI (5))) (fun x1 m1 hq => ?_)
  obtain ⟨rfl, rfl⟩ := hq
  refine p_if_neB (tgt := 11) k75_6 (by decide) (fun cq6 => ?_) (fun cq6 => ?_)
  · skip
    refine p_aload_n k75_11 rfl ?_
    refine p_cV0v k75_12 (s_0 S) c_11_228_11 (Nat.le_of_ble_eq_true rfl) (C_noteDeeds S C M Q g) (fun m1 hq => ?_)
    obtain ⟨u, g, rfl, hN⟩ := hq
    refine p_self 41 ?_
    rw [upc_sw _ (show 39 ≠ 41 by decide), upc_sw _ (show 40 ≠ 41 by decide)]
    obtain ⟨w, hw⟩ : ∃ w, w = upc (upc I 40 u) 39 g 41 := ⟨_, rfl⟩
    rw [← hw]
    have h2p : 1 ≤ 2 ^ na := Nat.one_le_two_pow
    have h264 := p64 hna6
    refine p_aload_n k75_15 rfl ?_
    refine p_iconst (v := nI 1) k75_16 (by decide) ?_
    refine p_aload_n k75_17 rfl ?_
    refine p_getRv k75_18 (s_0 S) f_11_14_11 (r_0_0 S) ?_
    refine p_getIv k75_21 (s_1 S) f_11_108_3 (show _ = nI na from C.hats.trans M.na) ?_
    refine p_ishl7 (by omega) k75_24 ?_
    refine p_iconst (v := nI 1) k75_25 (by decide) ?_
    refine p_isubN (by omega) k75_26 ?_
    refine p_cV1v k75_27 (s_0 S) c_11_231_11 rfl (Nat.le_of_ble_eq_true rfl) (C_weighWays S C M Q g hN (w := w) (al := 2 ^ na - 1) (by omega) (show mnN nh (popc (2 ^ na - 1)) = mnN nh na by rw [popc_full hna6])) (fun m1 hq => ?_)
    obtain ⟨w, rfl, hW⟩ := hq
    refine p_iload_n k75_30 rfl ?_
    refine p_iconst (v := (-1)) k75_31 (by decide) ?_
    refine p_icmp_ne (tgt := 44) k75_32 (by decide) (fun cq32 => ?_) (fun cq32 => ?_)
    · skip
      refine p_aload_n k75_44 rfl ?_
      refine p_iload_n k75_45 rfl ?_
      refine p_cV1i k75_46 (s_0 S) c_11_235_11 rfl (Nat.le_of_ble_eq_true rfl) (C_wornByBestWay S C M Q g hN (pr := mnN nh na) hW v) (fun x1 m1 hq => ?_)
      obtain ⟨rfl, rfl⟩ := hq
      refine p_cS1i k75_49 c_11_170 rfl (Nat.le_of_ble_eq_true rfl) (C_orNotAny S ((if ixB v nh = false then -1 else optI (-1) (chs (fun a k => deedM R0 cb ce a k) nh na (mnN nh na) (nh - (v.toNatClampNeg + 1)) (stN (fun a k => deedM R0 cb ce a k) nh na (mnN nh na) v.toNatClampNeg))))) (fun x1 m1 hq => ?_)
      obtain ⟨rfl, rfl⟩ := hq
      refine p_ireturn k75_52 rt_75 ?_
      first | exact ⟨by_eq hnh6 hna6 cq6 cq32, Or.inr ⟨w, u, g, rfl⟩⟩ | exact ⟨by unfold byM; subst cq32; rw [if_neg (by rw [cq6]; decide), if_neg (fun z => z (by rw [i_lt, nI_t (by omega)]; show (-1 : Int) < _; omega)), if_pos (by decide)]; rfl, Or.inr ⟨w, u, g, rfl⟩⟩
    · skip
      refine p_aload_n k75_35 rfl ?_
      refine p_getRv k75_36 (s_0 S) f_11_75_11 (r_0_12 S) ?_
      refine p_iconst (v := nI 0) k75_39 (by decide) ?_
      refine p_ialdN k75_40 (s_41 S) (by omega) (by decide) (show w 0 = _ from (hW 0 (Nat.zero_le _) (Nat.zero_le _) 0 (by decide) (Nat.zero_and _)).trans (WtA_full hna6 _ _ (Nat.two_pow_pos _))) ?_
      refine p_goto (tgt := 52) k75_41 (by decide) ?_
      refine p_ireturn k75_52 rt_75 ?_
      first | exact ⟨by_eq hnh6 hna6 cq6 cq32, Or.inr ⟨w, u, g, rfl⟩⟩ | exact ⟨by unfold byM; subst cq32; rw [if_neg (by rw [cq6]; decide), if_neg (fun z => z (by rw [i_lt, nI_t (by omega)]; show (-1 : Int) < _; omega)), if_pos (by decide)]; rfl, Or.inr ⟨w, u, g, rfl⟩⟩
  · skip
    refine p_iconst (v := (-1)) k75_9 (by decide) ?_
    refine p_ireturn k75_10 rt_75 ?_
    exact ⟨by unfold byM; rw [if_pos cq6], Or.inl rfl⟩

