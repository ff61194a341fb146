/-! the reference: methods that only read -/

set_option maxRecDepth 100000 in
set_option maxHeartbeats 4000000 in
theorem M_in {d : Nat} {I : Nat → Nat → Int32} {J : Nat → Nat → Int64} {K : Nat → Nat → Option Nat} {h : List xSh} (S : St K h) (v lo hi : Int32) : EvP d 129 0 [(0, .ref (98)), (1, .int (v)), (2, .int (lo)), (3, .int (hi))] [] (I, J, K, h) (QI (fun x t => x = bI (inB v lo hi) ∧ t = (I, J, K, h))) := by
  refine p_iload_n k129_0 rfl ?_
  refine p_iload_n k129_1 rfl ?_
  refine p_icmp_lt (tgt := 14) k129_2 (by decide) (fun c2 => ?_) (fun c2 => ?_)
  · skip
    refine p_iconst (v := bI false) k129_14 (by decide) ?_
    refine p_returnB k129_15 rt_129 ?_
    exact ⟨by first | rw [inB_f1 (by assumption)] | rw [inB_f2 (by assumption)] | rw [inB_t (by assumption) (by assumption)], rfl⟩
  · skip
    refine p_iload_n k129_5 rfl ?_
    refine p_iload_n k129_6 rfl ?_
    refine p_icmp_gt (tgt := 14) k129_7 (by decide) (fun c7 => ?_) (fun c7 => ?_)
    · skip
      refine p_iconst (v := bI false) k129_14 (by decide) ?_
      refine p_returnB k129_15 rt_129 ?_
      exact ⟨by first | rw [inB_f1 (by assumption)] | rw [inB_f2 (by assumption)] | rw [inB_t (by assumption) (by assumption)], rfl⟩
    · skip
      refine p_iconst (v := bI true) k129_10 (by decide) ?_
      refine p_goto (tgt := 15) k129_11 (by decide) ?_
      refine p_returnB k129_15 rt_129 ?_
      exact ⟨by first | rw [inB_f1 (by assumption)] | rw [inB_f2 (by assumption)] | rw [inB_t (by assumption) (by assumption)], rfl⟩

theorem hasB {s k : Nat} : ((s / 2 ^ k) &&& 1 = 1) ↔ s.testBit k = true := by
  rw [Nat.testBit_eq_decide_div_mod_eq, decide_eq_true_iff, Nat.and_one_is_mod]
set_option maxRecDepth 100000 in
set_option maxHeartbeats 4000000 in
theorem M_has {d : Nat} {I : Nat → Nat → Int32} {J : Nat → Nat → Int64} {K : Nat → Nat → Option Nat} {h : List xSh} (S : St K h) {s k : Nat} (hs : s < 2 ^ 31) (hk : k < 6) : EvP d 130 0 [(0, .ref (98)), (1, .int (nI (s))), (2, .int (nI (k)))] [] (I, J, K, h) (QI (fun x t => x = bI (s.testBit k) ∧ t = (I, J, K, h))) := by
  refine p_iload_n k130_0 rfl ?_
  refine p_iload_n k130_1 rfl ?_
  refine p_ishrN hs hk k130_2 ?_
  refine p_iconst (v := nI 1) k130_3 (by decide) ?_
  refine p_iandN k130_4 ?_
  refine p_iconst (v := nI 1) k130_5 (by decide) ?_
  have hb2 : (s / 2 ^ k) &&& 1 < 2 ^ 31 := by rw [Nat.and_one_is_mod]; omega
  refine p_icmp_neN (tgt := 13) k130_6 (by decide) (by omega) (by omega) (fun c6 => ?_) (fun c6 => ?_)
  · skip
    refine p_iconst (v := bI false) k130_13 (by decide) ?_
    refine p_returnB k130_14 rt_130 ?_
    exact ⟨by congr 1; first | exact (hasB.mp (by omega)).symm | exact (Bool.eq_false_iff.mpr (fun z => by have := hasB.mpr z; omega)).symm, rfl⟩
  · skip
    refine p_iconst (v := bI true) k130_9 (by decide) ?_
    refine p_goto (tgt := 14) k130_10 (by decide) ?_
    refine p_returnB k130_14 rt_130 ?_
    exact ⟨by congr 1; first | exact (hasB.mp (by omega)).symm | exact (Bool.eq_false_iff.mpr (fun z => by have := hasB.mpr z; omega)).symm, rfl⟩

def mxI (a b : Int32) : Int32 := if b < a then a else b
set_option maxRecDepth 100000 in
set_option maxHeartbeats 4000000 in
theorem M_most {d : Nat} {I : Nat → Nat → Int32} {J : Nat → Nat → Int64} {K : Nat → Nat → Option Nat} {h : List xSh} (S : St K h) (a b : Int32) : EvP d 131 0 [(0, .ref (98)), (1, .int (a)), (2, .int (b))] [] (I, J, K, h) (QI (fun x t => x = mxI a b ∧ t = (I, J, K, h))) := by
  refine p_iload_n k131_0 rfl ?_
  refine p_iload_n k131_1 rfl ?_
  refine p_icmp_le (tgt := 9) k131_2 (by decide) (fun c2 => ?_) (fun c2 => ?_)
  · skip
    refine p_iload_n k131_9 rfl ?_
    refine p_ireturn k131_10 rt_131 ?_
    exact ⟨by unfold mxI; first | rw [if_pos (by first | assumption | (rw [i_lt]; rw [i_le] at *; omega))] | rw [if_neg (by first | assumption | (rw [i_lt]; rw [i_le] at *; omega))], rfl⟩
  · skip
    refine p_iload_n k131_5 rfl ?_
    refine p_goto (tgt := 10) k131_6 (by decide) ?_
    refine p_ireturn k131_10 rt_131 ?_
    exact ⟨by unfold mxI; first | rw [if_pos (by first | assumption | (rw [i_lt]; rw [i_le] at *; omega))] | rw [if_neg (by first | assumption | (rw [i_lt]; rw [i_le] at *; omega))], rfl⟩

set_option maxRecDepth 100000 in
set_option maxHeartbeats 4000000 in
theorem M_isHead {d : Nat} {I : Nat → Nat → Int32} {J : Nat → Nat → Int64} {K : Nat → Nat → Option Nat} {h : List xSh} (S : St K h) {n : Nat} (hn : I 98 0 = nI n) (hn6 : n ≤ 6) (v : Int32) : EvP (d + 1) 132 0 [(0, .ref (98)), (1, .int (v))] [] (I, J, K, h) (QI (fun x t => x = bI (ixB v n) ∧ t = (I, J, K, h))) := by
  refine p_aload_n k132_0 rfl ?_
  refine p_iload_n k132_1 rfl ?_
  refine p_iconst (v := nI 0) k132_2 (by decide) ?_
  refine p_aload_n k132_3 rfl ?_
  refine p_getIv k132_4 (s_98 S) f_12_7_12 hn ?_
  refine p_iconst (v := nI 1) k132_7 (by decide) ?_
  refine p_isub k132_8 ?_
  refine p_cV3i k132_9 (s_98 S) c_12_248_12 rfl rfl rfl (Nat.le_of_ble_eq_true rfl) (M_in S (v) (nI (0)) (_)) (fun x1 m1 hq => ?_)
  obtain ⟨rfl, rfl⟩ := hq
  refine p_returnB k132_12 rt_132 ?_
  exact ⟨by rw [← ixB_in (show n < 2 ^ 31 by omega)]; rfl, rfl⟩

set_option maxRecDepth 100000 in
set_option maxHeartbeats 4000000 in
theorem M_isHat {d : Nat} {I : Nat → Nat → Int32} {J : Nat → Nat → Int64} {K : Nat → Nat → Option Nat} {h : List xSh} (S : St K h) {n : Nat} (hn : I 98 1 = nI n) (hn6 : n ≤ 6) (v : Int32) : EvP (d + 1) 133 0 [(0, .ref (98)), (1, .int (v))] [] (I, J, K, h) (QI (fun x t => x = bI (ixB v n) ∧ t = (I, J, K, h))) := by
  refine p_aload_n k133_0 rfl ?_
  refine p_iload_n k133_1 rfl ?_
  refine p_iconst (v := nI 0) k133_2 (by decide) ?_
  refine p_aload_n k133_3 rfl ?_
  refine p_getIv k133_4 (s_98 S) f_12_13_12 hn ?_
  refine p_iconst (v := nI 1) k133_7 (by decide) ?_
  refine p_isub k133_8 ?_
  refine p_cV3i k133_9 (s_98 S) c_12_248_12 rfl rfl rfl (Nat.le_of_ble_eq_true rfl) (M_in S (v) (nI (0)) (_)) (fun x1 m1 hq => ?_)
  obtain ⟨rfl, rfl⟩ := hq
  refine p_returnB k133_12 rt_133 ?_
  exact ⟨by rw [← ixB_in (show n < 2 ^ 31 by omega)]; rfl, rfl⟩

set_option maxRecDepth 100000 in
set_option maxHeartbeats 4000000 in
theorem M_isTrade {d : Nat} {I : Nat → Nat → Int32} {J : Nat → Nat → Int64} {K : Nat → Nat → Option Nat} {h : List xSh} (S : St K h) (v : Int32) : EvP (d + 1) 134 0 [(0, .ref (98)), (1, .int (v))] [] (I, J, K, h) (QI (fun x t => x = bI (ixB v 5) ∧ t = (I, J, K, h))) := by
  refine p_aload_n k134_0 rfl ?_
  refine p_iload_n k134_1 rfl ?_
  refine p_iconst (v := nI 0) k134_2 (by decide) ?_
  refine p_iconst (v := nI 4) k134_3 (by decide) ?_
  refine p_cV3i k134_4 (s_98 S) c_12_248_12 rfl rfl rfl (Nat.le_of_ble_eq_true rfl) (M_in S (v) (nI (0)) (nI (4))) (fun x1 m1 hq => ?_)
  obtain ⟨rfl, rfl⟩ := hq
  refine p_returnB k134_7 rt_134 ?_
  exact ⟨by rw [← ixB_in0 (m := 4) (by decide)], rfl⟩

set_option maxRecDepth 100000 in
set_option maxHeartbeats 4000000 in
theorem M_isTape {d : Nat} {I : Nat → Nat → Int32} {J : Nat → Nat → Int64} {K : Nat → Nat → Option Nat} {h : List xSh} (S : St K h) (v : Int32) : EvP (d + 1) 227 0 [(0, .ref (98)), (1, .int (v))] [] (I, J, K, h) (QI (fun x t => x = bI (ixB v 6) ∧ t = (I, J, K, h))) := by
  refine p_aload_n k227_0 rfl ?_
  refine p_iload_n k227_1 rfl ?_
  refine p_iconst (v := nI 0) k227_2 (by decide) ?_
  refine p_iconst (v := nI 5) k227_3 (by decide) ?_
  refine p_cV3i k227_4 (s_98 S) c_12_248_12 rfl rfl rfl (Nat.le_of_ble_eq_true rfl) (M_in S (v) (nI (0)) (nI (5))) (fun x1 m1 hq => ?_)
  obtain ⟨rfl, rfl⟩ := hq
  refine p_returnB k227_7 rt_227 ?_
  exact ⟨by rw [← ixB_in0 (m := 5) (by decide)], rfl⟩

def orN (x : Int32) : Int32 := if x < 0 then -5 else x
set_option maxRecDepth 100000 in
set_option maxHeartbeats 4000000 in
theorem M_orNone {d : Nat} {I : Nat → Nat → Int32} {J : Nat → Nat → Int64} {K : Nat → Nat → Option Nat} {h : List xSh} (S : St K h) (v : Int32) : EvP d 135 0 [(0, .ref (98)), (1, .int (v))] [] (I, J, K, h) (QI (fun x t => x = orN v ∧ t = (I, J, K, h))) := by
  refine p_iload_n k135_0 rfl ?_
  refine p_if_ge (tgt := 9) k135_1 (by decide) (fun c1 => ?_) (fun c1 => ?_)
  · skip
    refine p_iload_n k135_9 rfl ?_
    refine p_ireturn k135_10 rt_135 ?_
    exact ⟨by unfold orN; first | rw [if_pos (by first | assumption | (rw [i_lt]; rw [i_le] at *; exact Int.not_le.mp (by assumption)))] | rw [if_neg (by first | assumption | (rw [i_lt]; rw [i_le] at *; exact Int.not_lt.mpr (by assumption)))], rfl⟩
  · skip
    refine p_bipush (v := (-5)) k135_4 (by decide) ?_
    refine p_goto (tgt := 10) k135_6 (by decide) ?_
    refine p_ireturn k135_10 rt_135 ?_
    exact ⟨by unfold orN; first | rw [if_pos (by first | assumption | (rw [i_lt]; rw [i_le] at *; exact Int.not_le.mp (by assumption)))] | rw [if_neg (by first | assumption | (rw [i_lt]; rw [i_le] at *; exact Int.not_lt.mpr (by assumption)))], rfl⟩

def optI (d : Int32) : Option Nat → Int32
  | some k => nI k
  | none => d
def isI (f : Nat → Int32) (a : Int32) : Nat → Bool := fun k => decide (f k = a)
set_option maxRecDepth 100000 in
set_option maxHeartbeats 4000000 in
theorem M_headOf {d : Nat} {I : Nat → Nat → Int32} {J : Nat → Nat → Int64} {K : Nat → Nat → Option Nat} {h : List xSh} (S : St K h) {n : Nat} (hn : I 98 0 = nI n) (hn6 : n ≤ 6) (a : Int32) : EvP d 138 0 [(0, .ref (98)), (1, .int (a))] [] (I, J, K, h) (QI (fun x t => x = optI (-5) (fnd (isI (I 101) a) n 0) ∧ t = (I, J, K, h))) := by
  refine p_iconst (v := nI 0) k138_0 (by decide) ?_
  refine p_istore_n (ls' := [(0, _), (1, _), (2, _)]) k138_1 rfl ?_
  have L : ∀ (j : Nat) (k : Nat), k + j = n → EvP d 138 2 [(0, .ref (98)), (1, .int (a)), (2, .int (nI (k)))] [] (I, J, K, h) (QI (fun x t => x = optI (-5) (fnd (isI (I 101) a) j k) ∧ t = (I, J, K, h))) := by
    intro j
    induction j with
    | zero =>
      intro k hk
      refine p_iload_n k138_2 rfl ?_
      refine p_aload_n k138_3 rfl ?_
      refine p_getIv k138_4 (s_98 S) f_12_7_12 hn ?_
      refine p_icmp_geN (tgt := 28) k138_7 (by decide) (by omega) (by omega) (fun _ => ?_) (fun c => False.elim (by omega))
      refine p_bipush (v := (-5)) k138_28 (by decide) ?_
      refine p_ireturn k138_30 rt_138 ?_
      exact ⟨rfl, rfl⟩
    | succ j ih =>
      intro k hk
      refine p_iload_n k138_2 rfl ?_
      refine p_aload_n k138_3 rfl ?_
      refine p_getIv k138_4 (s_98 S) f_12_7_12 hn ?_
      refine p_icmp_geN (tgt := 28) k138_7 (by decide) (by omega) (by omega) (fun c => False.elim (by omega)) (fun _ => ?_)
      refine p_aload_n k138_10 rfl ?_
      refine p_getRv k138_11 (s_98 S) f_12_26_12 (r_98_5 S) ?_
      refine p_iload_n k138_14 rfl ?_
      refine p_ialdN k138_15 (s_101 S) (by omega) (by decide) rfl ?_
      refine p_iload_n k138_16 rfl ?_
      refine p_icmp_ne (tgt := 22) k138_17 (by decide) (fun c17 => ?_) (fun c17 => ?_)
      · skip
        refine p_iincN (ls1 := [(0, _), (1, _), (2, _)]) k138_22 rfl rfl ?_
        refine p_goto (tgt := 2) k138_25 (by decide) ?_
        rw [show fnd (isI (I 101) a) (j + 1) k = fnd (isI (I 101) a) j (k + 1) from if_neg (by unfold isI; rw [decide_eq_true_iff]; exact c17)]
        exact ih (k + 1) (by omega)
      · skip
        refine p_iload_n k138_20 rfl ?_
        refine p_ireturn k138_21 rt_138 ?_
        exact ⟨by rw [show fnd (isI (I 101) a) (j + 1) k = some k from if_pos (by unfold isI; rw [decide_eq_true_iff]; exact c17)]; rfl, rfl⟩
  exact L n 0 (by omega)

