/-! the class: mostFrom -/
theorem bit_e {al s a : Nat} (hal : al < 64) (hs : s < 64) (ha : a < 6) : (nI al &&& (nI s ^^^ -1) &&& nI (2 ^ a) = 0) ↔ ¬ (al.testBit a = true ∧ s.testBit a = false) := by
  have H : ∀ al : Fin 64, ∀ s : Fin 64, ∀ a : Fin 6, decide (nI al.1 &&& (nI s.1 ^^^ -1) &&& nI (2 ^ a.1) = 0) = !(al.1.testBit a.1 && !s.1.testBit a.1) := by decide +kernel
  have h := H ⟨al, hal⟩ ⟨s, hs⟩ ⟨a, ha⟩
  by_cases e : nI al &&& (nI s ^^^ -1) &&& nI (2 ^ a) = 0
  · rw [decide_eq_true e] at h
    refine ⟨fun _ z => ?_, fun _ => e⟩
    rw [z.1, z.2] at h
    cases h
  · rw [decide_eq_false e] at h
    refine ⟨fun z => absurd z e, fun z => absurd ?_ z⟩
    rcases h1 : al.testBit a with _ | _ <;> rcases h2 : s.testBit a with _ | _ <;> rw [h1, h2] at h <;> first | exact ⟨rfl, rfl⟩ | cases h
def mwC (D : Nat → Nat → Int32) (w : Nat → Int32) (k s a : Nat) : Int32 := if w ((k + 1) * 64 + (s ||| 2 ^ a)) < 0 then -1 else w ((k + 1) * 64 + (s ||| 2 ^ a)) + D a k
def fMf (D : Nat → Nat → Int32) (w : Nat → Int32) (k s al a : Nat) (x : Int32) : Int32 := if al.testBit a = true ∧ s.testBit a = false then (if x < mwC D w k s a then mwC D w k s a else x) else x
def mfC (D : Nat → Nat → Int32) (w : Nat → Int32) (na k s al : Nat) : Int32 := fld (fMf D w k s al) na 0 (w ((k + 1) * 64 + s))
set_option maxRecDepth 100000 in
set_option maxHeartbeats 4000000 in
theorem C_mostFrom {d : Nat} {I : Nat → Nat → Int32} {J : Nat → Nat → Int64} {K : Nat → Nat → Option Nat} {h : List xSh} (S : St K h) {R0 : Nat → Nat → Int32} {nh na dd cb ce tw : Nat} (C : CR I K h R0 na tw) (M : MI R0 nh na dd cb ce) (Q : AR R0 nh na dd) (g : Nat → Int32) {u w : Nat → Int32} (hu : NTD R0 cb ce nh na u) {k s al : Nat} (hkn : k < nh) (hs : s < 64) (hal : al < 64) : EvP (d + 3) 117 0 [(0, .ref (0)), (1, .int (nI (k))), (2, .int (nI (s))), (3, .int (nI (al)))] [] (upc (upc (upc I 41 w) 40 u) 39 g, J, K, h) (QI (fun x t => x = mfC (fun a k => deedM R0 cb ce a k) w na k s al ∧ t = (upc (upc (upc I 41 w) 40 u) 39 g, J, K, h))) := by
  have hnh6 := M.nh6
  have hna6 := M.na6
  refine p_aload_n k117_0 rfl ?_
  refine p_iload_n k117_1 rfl ?_
  refine p_iload_n k117_2 rfl ?_
  refine p_iconst (v := (-1)) k117_3 (by decide) ?_
  refine p_cV3i k117_4 (s_0 S) c_11_355_11 rfl rfl rfl (Nat.le_of_ble_eq_true rfl) (C_mostWith0 S C M Q g (k := k) (s := s) (by omega) hs) (fun x1 m1 hq => ?_)
  obtain ⟨rfl, rfl⟩ := hq
  refine p_istore (ls' := [(0, _), (1, _), (2, _), (3, _), (4, _)]) k117_7 rfl ?_
  refine p_iconst (v := nI 0) k117_9 (by decide) ?_
  refine p_istore (ls' := [(0, _), (1, _), (2, _), (3, _), (4, _), (5, _)]) k117_10 rfl ?_
  have L : ∀ (j : Nat) (a : Nat) (x : Int32), a + j = na → fld (fMf (fun a k => deedM R0 cb ce a k) w k s al) j a x = mfC (fun a k => deedM R0 cb ce a k) w na k s al → EvP (d + 3) 117 12 [(0, .ref (0)), (1, .int (nI (k))), (2, .int (nI (s))), (3, .int (nI (al))), (4, .int (x)), (5, .int (nI (a)))] [] (upc (upc (upc I 41 w) 40 u) 39 g, J, K, h) (QI (fun x t => x = mfC (fun a k => deedM R0 cb ce a k) w na k s al ∧ t = (upc (upc (upc I 41 w) 40 u) 39 g, J, K, h))) := by
    intro j
    induction j with
    | zero =>
      intro a x hk
      intro hs2
      refine p_iload k117_12 rfl ?_
      refine p_aload_n k117_14 rfl ?_
      refine p_getRv k117_15 (s_0 S) f_11_14_11 (r_0_0 S) ?_
      refine p_getIv k117_18 (s_1 S) f_11_108_3 (show _ = nI na from C.hats.trans M.na) ?_
      refine p_icmp_geN (tgt := 58) k117_21 (by decide) (by omega) (by omega) (fun _ => ?_) (fun c => False.elim (by omega))
      refine p_iload k117_58 rfl ?_
      refine p_ireturn k117_60 rt_117 ?_
      exact ⟨hs2, rfl⟩
    | succ j ih =>
      intro a x hk
      intro hs2
      refine p_iload k117_12 rfl ?_
      refine p_aload_n k117_14 rfl ?_
      refine p_getRv k117_15 (s_0 S) f_11_14_11 (r_0_0 S) ?_
      refine p_getIv k117_18 (s_1 S) f_11_108_3 (show _ = nI na from C.hats.trans M.na) ?_
      refine p_icmp_geN (tgt := 58) k117_21 (by decide) (by omega) (by omega) (fun c => False.elim (by omega)) (fun _ => ?_)
      refine p_iload_n k117_24 rfl ?_
      refine p_iload_n k117_25 rfl ?_
      refine p_iconst (v := (-1)) k117_26 (by decide) ?_
      refine p_ixor k117_27 ?_
      refine p_iand k117_28 ?_
      refine p_iconst (v := nI 1) k117_29 (by decide) ?_
      refine p_iload k117_30 rfl ?_
      refine p_ishl1 (by omega) k117_32 ?_
      refine p_iand k117_33 ?_
      refine p_if_eq (tgt := 52) k117_34 (by decide) (fun cq34 => ?_) (fun cq34 => ?_)
      · skip
        refine p_iincN (ls1 := [(0, _), (1, _), (2, _), (3, _), (4, _), (5, _)]) k117_52 rfl rfl ?_
        refine p_goto (tgt := 12) k117_55 (by decide) ?_
        exact ih (a + 1) _ (by omega) (by rw [← hs2]; exact congrArg (fld (fMf (fun a k => deedM R0 cb ce a k) w k s al) j (a + 1)) (by unfold fMf; first | exact (if_neg ((bit_e hal hs (by omega)).1 cq34)).symm | exact (if_pos (Decidable.of_not_not (fun z => cq34 ((bit_e hal hs (by omega)).2 z)))).symm | exact if_neg ((bit_e hal hs (by omega)).1 cq34) | exact if_pos (Decidable.of_not_not (fun z => cq34 ((bit_e hal hs (by omega)).2 z)))))
      · skip
        refine p_iload k117_37 rfl ?_
        refine p_aload_n k117_39 rfl ?_
        refine p_iload_n k117_40 rfl ?_
        refine p_iload_n k117_41 rfl ?_
        refine p_iload k117_42 rfl ?_
        refine p_cV3i k117_44 (s_0 S) c_11_355_11 rfl rfl rfl (Nat.le_of_ble_eq_true rfl) (C_mostWith S C M Q g hu (k := k) (s := s) (a := a) hkn hs (by omega)) (fun x1 m1 hq => ?_)
        obtain ⟨rfl, rfl⟩ := hq
        refine p_max k117_47 (by decide) (Nat.le_of_ble_eq_true rfl) ?_
        refine p_istore (ls' := [(0, _), (1, _), (2, _), (3, _), (4, _), (5, _)]) k117_50 rfl ?_
        refine p_iincN (ls1 := [(0, _), (1, _), (2, _), (3, _), (4, _), (5, _)]) k117_52 rfl rfl ?_
        refine p_goto (tgt := 12) k117_55 (by decide) ?_
        exact ih (a + 1) _ (by omega) (by rw [← hs2]; exact congrArg (fld (fMf (fun a k => deedM R0 cb ce a k) w k s al) j (a + 1)) (by unfold fMf; first | exact (if_neg ((bit_e hal hs (by omega)).1 cq34)).symm | exact (if_pos (Decidable.of_not_not (fun z => cq34 ((bit_e hal hs (by omega)).2 z)))).symm | exact if_neg ((bit_e hal hs (by omega)).1 cq34) | exact if_pos (Decidable.of_not_not (fun z => cq34 ((bit_e hal hs (by omega)).2 z)))))
  exact L na 0 _ (by omega) rfl

