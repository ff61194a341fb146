/-! the class: weighWays -/
theorem bit_s {s al : Nat} (hs : s < 64) (hal : al < 64) : (nI s &&& (nI al ^^^ -1) = 0) ↔ s &&& al = s := by
  have H : ∀ s : Fin 64, ∀ al : Fin 64, decide (nI s.1 &&& (nI al.1 ^^^ -1) = 0) = decide (s.1 &&& al.1 = s.1) := by decide +kernel
  exact decide_eq_decide.mp (H ⟨s, hs⟩ ⟨al, hal⟩)
/-- the most from the last r heads, of the hats of al, those of s being on others, as the class weighs it -/
def WtA (D : Nat → Nat → Int32) (al nh na pr : Nat) : Nat → Nat → Int32
  | 0, s => if popc s = pr then nI 0 else -1
  | r + 1, s => mfC D (fun i => WtA D al nh na pr r (i % 64)) na (nh - (r + 1)) s al
theorem sub_or {s al a : Nat} (h : s &&& al = s) (ha : al.testBit a = true) : (s ||| 2 ^ a) &&& al = s ||| 2 ^ a := by
  apply Nat.eq_of_testBit_eq
  intro i
  have hi : (s &&& al).testBit i = s.testBit i := by rw [h]
  rw [Nat.testBit_and] at hi
  rw [Nat.testBit_and, Nat.testBit_or, Nat.testBit_two_pow]
  by_cases e : a = i
  · subst e; rw [ha, decide_eq_true (rfl : a = a), Bool.or_true]; rfl
  · rw [decide_eq_false e, Bool.or_false]; exact hi
theorem mfC_wt {D : Nat → Nat → Int32} {w : Nat → Int32} {V : Nat → Int32} {na k s al : Nat} (hna : na ≤ 6) (hs : s < 64) (hsa : s &&& al = s) (h : ∀ z, z < 64 → z &&& al = z → w ((k + 1) * 64 + z) = V z) : mfC D w na k s al = mfC D (fun i => V (i % 64)) na k s al := by
  have e : ∀ z, z < 64 → ((k + 1) * 64 + z) % 64 = z := fun z hz => by omega
  unfold mfC
  rw [h s hs hsa]
  show _ = fld _ na 0 (V (((k + 1) * 64 + s) % 64))
  rw [e s hs]
  refine fld_congr (fun i _ hi x => ?_)
  unfold fMf
  by_cases hb : al.testBit i = true ∧ s.testBit i = false
  · rw [if_pos hb, if_pos hb]
    have hm : mwC D w k s i = mwC D (fun i => V (i % 64)) k s i := by
      have ho := or_lt64 hs (show i < 6 by omega)
      unfold mwC
      rw [h _ ho (sub_or hsa hb.1)]
      show _ = if V (((k + 1) * 64 + (s ||| 2 ^ i)) % 64) < 0 then _ else V (((k + 1) * 64 + (s ||| 2 ^ i)) % 64) + _
      rw [e _ ho]
    rw [hm]
  · rw [if_neg hb, if_neg hb]
def ROWA (D : Nat → Nat → Int32) (al nh na pr : Nat) (w : Nat → Int32) (j : Nat) : Prop := ∀ q, j ≤ q → q ≤ nh → ∀ s, s < 64 → s &&& al = s → w (q * 64 + s) = WtA D al nh na pr (nh - q) s
theorem mn_i {nh b : Nat} (h1 : nh ≤ 6) (h2 : b ≤ 6) : (if nI b ≤ nI nh then nI b else nI nh) = nI (mnN nh b) := by
  have e : ∀ x : Fin 7, ∀ y : Fin 7, (if nI y.1 ≤ nI x.1 then nI y.1 else nI x.1) = nI (mnN x.1 y.1) := by decide
  exact e ⟨nh, by omega⟩ ⟨b, by omega⟩
theorem mn_j {nh b : Nat} (h1 : nh ≤ 6) (h2 : b ≤ 6) : (if nI nh ≤ nI b then nI nh else nI b) = nI (mnN nh b) := by
  have e : ∀ x : Fin 7, ∀ y : Fin 7, (if nI x.1 ≤ nI y.1 then nI x.1 else nI y.1) = nI (mnN x.1 y.1) := by decide
  exact e ⟨nh, by omega⟩ ⟨b, by omega⟩
theorem mn_k {nh b : Nat} (h1 : nh ≤ 6) (h2 : b ≤ 6) : (if nI b < nI nh then nI b else nI nh) = nI (mnN nh b) := by
  have e : ∀ x : Fin 7, ∀ y : Fin 7, (if nI y.1 < nI x.1 then nI y.1 else nI x.1) = nI (mnN x.1 y.1) := by decide
  exact e ⟨nh, by omega⟩ ⟨b, by omega⟩
theorem mn_6 {nh b : Nat} (h1 : nh ≤ 6) (h2 : b ≤ 6) : mnN nh b ≤ 6 := by unfold mnN; split <;> omega
set_option maxRecDepth 100000 in
set_option maxHeartbeats 4000000 in
theorem C_weighWays {d : Nat} {I : Nat → Nat → Int32} {J : Nat → Nat → Int64} {K : Nat → Nat → Option Nat} {h : List xSh} (S : St K h) {R0 : Nat → Nat → Int32} {nh na dd cb ce tw : Nat} (C : CR I K h R0 na tw) (M : MI R0 nh na dd cb ce) (Q : AR R0 nh na dd) (g : Nat → Int32) {u w : Nat → Int32} (hN : NTD R0 cb ce nh na u) {al pr : Nat} (hal : al < 64) (hpr : mnN nh (popc al) = pr) : EvP (d + 4) 116 0 [(0, .ref (0)), (1, .int (nI (al)))] [] (upc (upc (upc I 41 w) 40 u) 39 g, J, K, h) (QV (fun t => ∃ w2, t = (upc (upc (upc I 41 w2) 40 u) 39 g, J, K, h) ∧ ROWA (fun a k => deedM R0 cb ce a k) al nh na pr w2 0)) := by
  have hnh6 := M.nh6
  have hna6 := M.na6
  have hpr6 : pr ≤ 6 := by rw [← hpr]; exact mn_6 hnh6 (popc_le al)
  refine p_aload_n k116_0 rfl ?_
  refine p_getRv k116_1 (s_0 S) f_11_14_11 (r_0_0 S) ?_
  refine p_getIv k116_4 (s_1 S) f_11_89_3 (show _ = nI nh from C.heads.trans M.nh) ?_
  refine p_iload_n k116_7 rfl ?_
  refine p_cS1i k116_8 c_11_347 rfl (Nat.le_of_ble_eq_true rfl) (C_bitCount S (s := al) hal) (fun x1 m1 hq => ?_)
  obtain ⟨rfl, rfl⟩ := hq
  have hpa := popc_le al
  refine p_min k116_11 (by decide) (Nat.le_of_ble_eq_true rfl) ?_
  refine p_toI (z := (nI (pr))) (by rw [← hpr]; first | exact mn_i hnh6 hpa | exact mn_j hnh6 hpa | exact mn_k hnh6 hpa) ?_
  refine p_istore_n (ls' := [(0, _), (1, _), (2, _)]) k116_14 rfl ?_
  refine p_iconst (v := nI 0) k116_15 (by decide) ?_
  refine p_istore_n (ls' := [(0, _), (1, _), (2, _), (3, _)]) k116_16 rfl ?_
  have LA : ∀ (j : Nat) (s : Nat) (w : Nat → Int32), s + j = 64 → (∀ z, z < s → w (nh * 64 + z) = WtA (fun a k => deedM R0 cb ce a k) al nh na pr 0 z) → EvP (d + 4) 116 17 [(0, .ref (0)), (1, .int (nI (al))), (2, .int (nI (pr))), (3, .int (nI (s)))] [] (upc (upc (upc I 41 w) 40 u) 39 g, J, K, h) (QV (fun t => ∃ w2, t = (upc (upc (upc I 41 w2) 40 u) 39 g, J, K, h) ∧ ROWA (fun a k => deedM R0 cb ce a k) al nh na pr w2 0)) := by
    intro j
    induction j with
    | zero =>
      intro s w hk
      intro hs
      refine p_iload_n k116_17 rfl ?_
      refine p_bipush (v := nI 64) k116_18 (by decide) ?_
      refine p_icmp_geN (tgt := 59) k116_20 (by decide) (by omega) (by omega) (fun _ => ?_) (fun c => False.elim (by omega))
      refine p_aload_n k116_59 rfl ?_
      refine p_getRv k116_60 (s_0 S) f_11_14_11 (r_0_0 S) ?_
      refine p_getIv k116_63 (s_1 S) f_11_89_3 (show _ = nI nh from C.heads.trans M.nh) ?_
      refine p_iconst (v := nI 1) k116_66 (by decide) ?_
      refine p_isub k116_67 ?_
      refine p_istore_n (ls' := [(0, _), (1, _), (2, _), (3, _)]) k116_68 rfl ?_
      have LB : ∀ (j : Nat) (x : Int32) (w : Nat → Int32), x = nI j - nI 1 → j ≤ nh → ROWA (fun a k => deedM R0 cb ce a k) al nh na pr w j → EvP (d + 4) 116 69 [(0, .ref (0)), (1, .int (nI (al))), (2, .int (nI (pr))), (3, .int (x))] [] (upc (upc (upc I 41 w) 40 u) 39 g, J, K, h) (QV (fun t => ∃ w2, t = (upc (upc (upc I 41 w2) 40 u) 39 g, J, K, h) ∧ ROWA (fun a k => deedM R0 cb ce a k) al nh na pr w2 0)) := by
        intro j
        induction j with
        | zero =>
          intro x w hk
          intro hj hu
          · skip
            subst hk
            refine p_iload_n k116_69 rfl ?_
            refine p_if_lt (tgt := 124) k116_70 (by decide) (fun _ => ?_) (fun c => False.elim (by exact absurd (by decide) c))
            refine p_return k116_124 rt_116 ?_
            exact ⟨w, rfl, hu⟩
        | succ j ih =>
          intro x w hk
          intro hj hu
          · skip
            obtain ⟨m, hm⟩ : ∃ m, m = j := ⟨j, rfl⟩
            have hxm : x = nI m := by rw [hk, hm, pk_sub (by omega)]; rfl
            subst hxm
            rw [← hm] at ih
            subst hm
            refine p_iload_n k116_69 rfl ?_
            refine p_if_ltN (tgt := 124) k116_70 (by decide) (by omega) ?_
            refine p_iconst (v := nI 0) k116_73 (by decide) ?_
            refine p_istore (ls' := [(0, _), (1, _), (2, _), (3, _), (4, _)]) k116_74 rfl ?_
            have ih69 := ih
            obtain ⟨r, hr⟩ : ∃ r, nh = m + 1 + r := ⟨nh - (m + 1), by omega⟩
            have hr2 : nh - (r + 1) = m := by omega
            have LC : ∀ (j : Nat) (s : Nat) (w : Nat → Int32), s + j = 64 → (∀ z, z < s → z &&& al = z → w (m * 64 + z) = WtA (fun a k => deedM R0 cb ce a k) al nh na pr (r + 1) z) → ROWA (fun a k => deedM R0 cb ce a k) al nh na pr w (m + 1) → EvP (d + 4) 116 76 [(0, .ref (0)), (1, .int (nI (al))), (2, .int (nI (pr))), (3, .int (nI (m))), (4, .int (nI (s)))] [] (upc (upc (upc I 41 w) 40 u) 39 g, J, K, h) (QV (fun t => ∃ w2, t = (upc (upc (upc I 41 w2) 40 u) 39 g, J, K, h) ∧ ROWA (fun a k => deedM R0 cb ce a k) al nh na pr w2 0)) := by
              intro j
              induction j with
              | zero =>
                intro s w hk
                intro hs hu
                refine p_iload k116_76 rfl ?_
                refine p_bipush (v := nI 64) k116_78 (by decide) ?_
                refine p_icmp_geN (tgt := 118) k116_80 (by decide) (by omega) (by omega) (fun _ => ?_) (fun c => False.elim (by omega))
                refine p_iinc (v := ((nI m - nI 1))) (ls' := [(0, _), (1, _), (2, _), (3, _), (4, _)]) k116_118 rfl (dec_eq _) rfl ?_
                refine p_goto (tgt := 69) k116_121 (by decide) ?_
                refine p_drop [0, 1, 2, 3] rfl ?_
                refine ih69 _ w rfl (by omega) (fun q h1 h2 z hz hza => ?_)
                by_cases e : q = m
                · subst e; rw [hs z (by omega) hza, show nh - q = r + 1 by omega]
                · exact hu q (by omega) h2 z hz hza
              | succ j ih =>
                intro s w hk
                intro hs hu
                have hUU : ∀ z, z < 64 → z &&& al = z → w ((m + 1) * 64 + z) = WtA (fun a k => deedM R0 cb ce a k) al nh na pr r z := fun z hz hza => by rw [hu (m + 1) (by omega) (by omega) z hz hza, show nh - (m + 1) = r by omega]
                refine p_iload k116_76 rfl ?_
                refine p_bipush (v := nI 64) k116_78 (by decide) ?_
                refine p_icmp_geN (tgt := 118) k116_80 (by decide) (by omega) (by omega) (fun c => False.elim (by omega)) (fun _ => ?_)
                refine p_iload k116_83 rfl ?_
                refine p_iload_n k116_85 rfl ?_
                refine p_iconst (v := (-1)) k116_86 (by decide) ?_
                refine p_ixor k116_87 ?_
                refine p_iand k116_88 ?_
                refine p_if_ne (tgt := 112) k116_89 (by decide) (fun cq89 => ?_) (fun cq89 => ?_)
                · skip
                  refine p_iincN (ls1 := [(0, _), (1, _), (2, _), (3, _), (4, _)]) k116_112 rfl rfl ?_
                  refine p_goto (tgt := 76) k116_115 (by decide) ?_
                  refine ih (s + 1) w (by omega) (fun z hz hza => ?_) hu
                  by_cases e : z = s
                  · subst e; exact absurd ((bit_s (by omega) hal).2 hza) cq89
                  · exact hs z (by omega) hza
                · skip
                  refine p_aload_n k116_92 rfl ?_
                  refine p_getRv k116_93 (s_0 S) f_11_75_11 (r_0_12 S) ?_
                  refine p_iload_n k116_96 rfl ?_
                  refine p_bipush (v := nI 64) k116_97 (by decide) ?_
                  refine p_imulN k116_99 ?_
                  refine p_iload k116_100 rfl ?_
                  refine p_iaddN k116_102 ?_
                  refine p_aload_n k116_103 rfl ?_
                  refine p_iload_n k116_104 rfl ?_
                  refine p_iload k116_105 rfl ?_
                  refine p_iload_n k116_107 rfl ?_
                  refine p_cV3i k116_108 (s_0 S) c_11_352_11 rfl rfl rfl (Nat.le_of_ble_eq_true rfl) (C_mostFrom S C M Q g hN (w := w) (k := m) (s := s) (al := al) (by omega) (by omega) hal) (fun x1 m1 hq => ?_)
                  obtain ⟨rfl, rfl⟩ := hq
                  have hsa : s &&& al = s := (bit_s (by omega) hal).1 (by first | exact cq89 | exact Decidable.of_not_not cq89)
                  rw [show mfC (fun a k => deedM R0 cb ce a k) w na m s al = WtA (fun a k => deedM R0 cb ce a k) al nh na pr (r + 1) s from by
                    rw [mfC_wt hna6 (by omega) hsa hUU]
                    show _ = mfC _ _ na (nh - (r + 1)) s al
                    rw [hr2]]
                  refine p_iastN k116_111 (s_41 S) (by omega) (by decide) ?_
                  refine p_iincN (ls1 := [(0, _), (1, _), (2, _), (3, _), (4, _)]) k116_112 rfl rfl ?_
                  refine p_goto (tgt := 76) k116_115 (by decide) ?_
                  rw [upc_sw _ (show 39 ≠ 41 by decide), upc_sw _ (show 40 ≠ 41 by decide), upc_uu]
                  refine ih (s + 1) _ (by omega) (fun z hz hza => ?_) (fun q h1 h2 z hz hza => ?_)
                  · by_cases e : z = s
                    · subst e; exact upc_eq _ _ _
                    · exact (upc_ne _ _ (by omega)).trans (hs z (by omega) hza)
                  · exact (upc_ne _ _ (by omega)).trans (hu q h1 h2 z hz hza)
            exact LC 64 0 w (by omega) (fun z hz => absurd hz (Nat.not_lt_zero _)) hu
      refine LB nh _ w rfl (Nat.le_refl _) (fun q h1 h2 z hz _ => ?_)
      have e : q = nh := by omega
      rw [e, hs z (by omega), Nat.sub_self]
    | succ j ih =>
      intro s w hk
      intro hs
      refine p_iload_n k116_17 rfl ?_
      refine p_bipush (v := nI 64) k116_18 (by decide) ?_
      refine p_icmp_geN (tgt := 59) k116_20 (by decide) (by omega) (by omega) (fun c => False.elim (by omega)) (fun _ => ?_)
      refine p_aload_n k116_23 rfl ?_
      refine p_getRv k116_24 (s_0 S) f_11_75_11 (r_0_12 S) ?_
      refine p_aload_n k116_27 rfl ?_
      refine p_getRv k116_28 (s_0 S) f_11_14_11 (r_0_0 S) ?_
      refine p_getIv k116_31 (s_1 S) f_11_89_3 (show _ = nI nh from C.heads.trans M.nh) ?_
      refine p_bipush (v := nI 64) k116_34 (by decide) ?_
      refine p_imulN k116_36 ?_
      refine p_iload_n k116_37 rfl ?_
      refine p_iaddN k116_38 ?_
      refine p_iload_n k116_39 rfl ?_
      refine p_cS1i k116_40 c_11_347 rfl (Nat.le_of_ble_eq_true rfl) (C_bitCount S (s := s) (by omega)) (fun x1 m1 hq => ?_)
      obtain ⟨rfl, rfl⟩ := hq
      have hpc := popc_le s
      refine p_iload_n k116_43 rfl ?_
      refine p_icmp_neN (tgt := 51) k116_44 (by decide) (by omega) (by omega) (fun cq44 => ?_) (fun cq44 => ?_)
      · skip
        refine p_iconst (v := (-1)) k116_51 (by decide) ?_
        refine p_iastN k116_52 (s_41 S) (by omega) (by decide) ?_
        refine p_iincN (ls1 := [(0, _), (1, _), (2, _), (3, _)]) k116_53 rfl rfl ?_
        refine p_goto (tgt := 17) k116_56 (by decide) ?_
        rw [upc_sw _ (show 39 ≠ 41 by decide), upc_sw _ (show 40 ≠ 41 by decide), upc_uu]
        refine ih (s + 1) _ (by omega) (fun z hz => ?_)
        by_cases e : z = s
        · subst e; refine (upc_eq _ _ _).trans ?_; show _ = if _ then _ else _; first | rw [if_pos cq44] | rw [if_neg cq44]
        · exact (upc_ne _ _ (by omega)).trans (hs z (by omega))
      · skip
        refine p_iconst (v := nI 0) k116_47 (by decide) ?_
        refine p_goto (tgt := 52) k116_48 (by decide) ?_
        refine p_iastN k116_52 (s_41 S) (by omega) (by decide) ?_
        refine p_iincN (ls1 := [(0, _), (1, _), (2, _), (3, _)]) k116_53 rfl rfl ?_
        refine p_goto (tgt := 17) k116_56 (by decide) ?_
        rw [upc_sw _ (show 39 ≠ 41 by decide), upc_sw _ (show 40 ≠ 41 by decide), upc_uu]
        refine ih (s + 1) _ (by omega) (fun z hz => ?_)
        by_cases e : z = s
        · subst e; refine (upc_eq _ _ _).trans ?_; show _ = if _ then _ else _; first | rw [if_pos cq44] | rw [if_neg cq44]
        · exact (upc_ne _ _ (by omega)).trans (hs z (by omega))
  exact LA 64 0 w (by omega) (fun z hz => absurd hz (Nat.not_lt_zero _))

