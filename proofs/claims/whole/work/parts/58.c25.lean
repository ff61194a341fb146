/-! the class: firstOfBest -/
theorem bit_1 {s a : Nat} (hs : s < 64) (ha : a < 6) : (nI s &&& nI (2 ^ a) = 0) ↔ s.testBit a = false := by
  have H : ∀ s : Fin 64, ∀ a : Fin 6, decide (nI s.1 &&& nI (2 ^ a.1) = 0) = !s.1.testBit a.1 := by decide +kernel
  have h := H ⟨s, hs⟩ ⟨a, ha⟩
  by_cases e : nI s &&& nI (2 ^ a) = 0
  · rw [decide_eq_true e] at h
    refine ⟨fun _ => ?_, fun _ => e⟩
    rcases h2 : s.testBit a with _ | _
    · rfl
    · rw [h2] at h; cases h
  · rw [decide_eq_false e] at h
    refine ⟨fun z => absurd z e, fun z => ?_⟩
    rw [z] at h
    cases h
def foP (D : Nat → Nat → Int32) (w : Nat → Int32) (k s a : Nat) : Bool := !s.testBit a && decide (mwC D w k s a = w (k * 64 + s))
def foC (D : Nat → Nat → Int32) (w : Nat → Int32) (na k s : Nat) : Int32 := if w ((k + 1) * 64 + s) = w (k * 64 + s) then -1 else optI (-1) (fnd (foP D w k s) na 0)
set_option maxRecDepth 100000 in
set_option maxHeartbeats 4000000 in
theorem C_firstOfBest {d : Nat} {I : Nat → Nat → Int32} {J : Nat → Nat → Int64} {K : Nat → Nat → Option Nat} {h : List xSh} (S : St K h) {R0 : Nat → Nat → Int32} {nh na dd cb ce tw : Nat} (C : CR I K h R0 na tw) (M : MI R0 nh na dd cb ce) (Q : AR R0 nh na dd) (g : Nat → Int32) {u w : Nat → Int32} (hu : NTD R0 cb ce nh na u) {k s : Nat} (hkn : k < nh) (hs : s < 64) : EvP (d + 3) 120 0 [(0, .ref (0)), (1, .int (nI (k))), (2, .int (nI (s)))] [] (upc (upc (upc I 41 w) 40 u) 39 g, J, K, h) (QI (fun x t => x = foC (fun a k => deedM R0 cb ce a k) w na k s ∧ t = (upc (upc (upc I 41 w) 40 u) 39 g, J, K, h))) := by
  have hnh6 := M.nh6
  have hna6 := M.na6
  refine p_aload_n k120_0 rfl ?_
  refine p_getRv k120_1 (s_0 S) f_11_75_11 (r_0_12 S) ?_
  refine p_iload_n k120_4 rfl ?_
  refine p_bipush (v := nI 64) k120_5 (by decide) ?_
  refine p_imulN k120_7 ?_
  refine p_iload_n k120_8 rfl ?_
  refine p_iaddN k120_9 ?_
  refine p_ialdN k120_10 (s_41 S) (by omega) (by decide) rfl ?_
  refine p_istore_n (ls' := [(0, _), (1, _), (2, _), (3, _)]) k120_11 rfl ?_
  refine p_aload_n k120_12 rfl ?_
  refine p_iload_n k120_13 rfl ?_
  refine p_iload_n k120_14 rfl ?_
  refine p_iconst (v := (-1)) k120_15 (by decide) ?_
  refine p_cV3i k120_16 (s_0 S) c_11_355_11 rfl rfl rfl (Nat.le_of_ble_eq_true rfl) (C_mostWith0 S C M Q g (k := k) (s := s) (by omega) hs) (fun x1 m1 hq => ?_)
  obtain ⟨rfl, rfl⟩ := hq
  refine p_iload_n k120_19 rfl ?_
  refine p_icmp_ne (tgt := 25) k120_20 (by decide) (fun cq20 => ?_) (fun cq20 => ?_)
  · skip
    refine p_iconst (v := nI 0) k120_25 (by decide) ?_
    refine p_istore (ls' := [(0, _), (1, _), (2, _), (3, _), (4, _)]) k120_26 rfl ?_
    have L : ∀ (j : Nat) (a : Nat), a + j = na → foC (fun a k => deedM R0 cb ce a k) w na k s = optI (-1) (fnd (foP (fun a k => deedM R0 cb ce a k) w k s) j a) → EvP (d + 3) 120 28 [(0, .ref (0)), (1, .int (nI (k))), (2, .int (nI (s))), (3, .int (w (k * 64 + s))), (4, .int (nI (a)))] [] (upc (upc (upc I 41 w) 40 u) 39 g, J, K, h) (QI (fun x t => x = foC (fun a k => deedM R0 cb ce a k) w na k s ∧ t = (upc (upc (upc I 41 w) 40 u) 39 g, J, K, h))) := by
      intro j
      induction j with
      | zero =>
        intro a hk
        intro hs2
        refine p_iload k120_28 rfl ?_
        refine p_aload_n k120_30 rfl ?_
        refine p_getRv k120_31 (s_0 S) f_11_14_11 (r_0_0 S) ?_
        refine p_getIv k120_34 (s_1 S) f_11_108_3 (show _ = nI na from C.hats.trans M.na) ?_
        refine p_icmp_geN (tgt := 70) k120_37 (by decide) (by omega) (by omega) (fun _ => ?_) (fun c => False.elim (by omega))
        refine p_iconst (v := (-1)) k120_70 (by decide) ?_
        refine p_ireturn k120_71 rt_120 ?_
        exact ⟨hs2.symm, rfl⟩
      | succ j ih =>
        intro a hk
        intro hs2
        refine p_iload k120_28 rfl ?_
        refine p_aload_n k120_30 rfl ?_
        refine p_getRv k120_31 (s_0 S) f_11_14_11 (r_0_0 S) ?_
        refine p_getIv k120_34 (s_1 S) f_11_108_3 (show _ = nI na from C.hats.trans M.na) ?_
        refine p_icmp_geN (tgt := 70) k120_37 (by decide) (by omega) (by omega) (fun c => False.elim (by omega)) (fun _ => ?_)
        refine p_iload_n k120_40 rfl ?_
        refine p_iconst (v := nI 1) k120_41 (by decide) ?_
        refine p_iload k120_42 rfl ?_
        refine p_ishl1 (by omega) k120_44 ?_
        refine p_iand k120_45 ?_
        refine p_if_ne (tgt := 64) k120_46 (by decide) (fun cq46 => ?_) (fun cq46 => ?_)
        · skip
          refine p_iincN (ls1 := [(0, _), (1, _), (2, _), (3, _), (4, _)]) k120_64 rfl rfl ?_
          refine p_goto (tgt := 28) k120_67 (by decide) ?_
          have hP : (foP (fun a k => deedM R0 cb ce a k) w k s) a = false := by
            unfold foP
            first | (rw [(bit_1 hs (by omega)).1 cq46, decide_eq_false (show ¬ mwC (fun a k => deedM R0 cb ce a k) w k s a = w (k * 64 + s) from cq58)]; rfl) | (rcases hb : s.testBit a with _ | _; exact absurd ((bit_1 hs (by omega)).2 hb) cq46; rfl)
          exact ih (a + 1) (by omega) (by rw [hs2]; exact congrArg (optI (-1)) (if_neg (by rw [hP]; decide)))
        · skip
          refine p_aload_n k120_49 rfl ?_
          refine p_iload_n k120_50 rfl ?_
          refine p_iload_n k120_51 rfl ?_
          refine p_iload k120_52 rfl ?_
          refine p_cV3i k120_54 (s_0 S) c_11_355_11 rfl rfl rfl (Nat.le_of_ble_eq_true rfl) (C_mostWith S C M Q g hu (k := k) (s := s) (a := a) hkn hs (by omega)) (fun x1 m1 hq => ?_)
          obtain ⟨rfl, rfl⟩ := hq
          refine p_iload_n k120_57 rfl ?_
          refine p_icmp_ne (tgt := 64) k120_58 (by decide) (fun cq58 => ?_) (fun cq58 => ?_)
          · skip
            refine p_iincN (ls1 := [(0, _), (1, _), (2, _), (3, _), (4, _)]) k120_64 rfl rfl ?_
            refine p_goto (tgt := 28) k120_67 (by decide) ?_
            have hP : (foP (fun a k => deedM R0 cb ce a k) w k s) a = false := by
              unfold foP
              first | (rw [(bit_1 hs (by omega)).1 cq46, decide_eq_false (show ¬ mwC (fun a k => deedM R0 cb ce a k) w k s a = w (k * 64 + s) from cq58)]; rfl) | (rcases hb : s.testBit a with _ | _; exact absurd ((bit_1 hs (by omega)).2 hb) cq46; rfl)
            exact ih (a + 1) (by omega) (by rw [hs2]; exact congrArg (optI (-1)) (if_neg (by rw [hP]; decide)))
          · skip
            refine p_iload k120_61 rfl ?_
            refine p_ireturn k120_63 rt_120 ?_
            have hP : (foP (fun a k => deedM R0 cb ce a k) w k s) a = true := by unfold foP; rw [(bit_1 hs (by omega)).1 cq46, decide_eq_true (show mwC (fun a k => deedM R0 cb ce a k) w k s a = w (k * 64 + s) from cq58)]; rfl
            exact ⟨by rw [hs2, show fnd (foP (fun a k => deedM R0 cb ce a k) w k s) (j + 1) a = some a from if_pos hP]; rfl, rfl⟩
    exact L na 0 (by omega) (if_neg cq20)
  · skip
    refine p_iconst (v := (-1)) k120_23 (by decide) ?_
    refine p_ireturn k120_24 rt_120 ?_
    exact ⟨(if_pos cq20).symm, rfl⟩

