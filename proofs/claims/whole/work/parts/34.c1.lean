/-! the reference: change, gust; the class: numbers, scenes, deeds by kinds, acts -/
set_option maxRecDepth 100000 in
set_option maxHeartbeats 4000000 in
theorem M_change {d : Nat} {I : Nat → Nat → Int32} {J : Nat → Nat → Int64} {K : Nat → Nat → Option Nat} {h : List xSh} (S : St K h) {nh na dd cb ce : Nat} (M : MI I nh na dd cb ce) (v w : Int32) : EvP (d + 2) 177 0 [(0, .ref (98)), (1, .int (v)), (2, .int (w))] [] (I, J, K, h) (QI (fun x t => x = (changeM I nh v w).1 ∧ t = ((changeM I nh v w).2, J, K, h))) := by
  have hnh := M.nh
  have hnh6 := M.nh6
  have hna := M.na
  have hna6 := M.na6
  refine p_aload_n k177_0 rfl ?_
  refine p_iload_n k177_1 rfl ?_
  refine p_cV1i k177_2 (s_98 S) c_12_259_12 rfl (Nat.le_of_ble_eq_true rfl) (M_isHead S hnh hnh6 (v)) (fun x1 m1 hq => ?_)
  obtain ⟨rfl, rfl⟩ := hq
  refine p_if_eqB (tgt := 16) k177_5 (by decide) (fun cq5 => ?_) (fun cq5 => ?_)
  · skip
    refine p_iconst (v := (-1)) k177_16 (by decide) ?_
    refine p_ireturn k177_17 rt_177 ?_
    exact ⟨by simp [changeM, *], by simp [changeM, *]⟩
  · skip
    refine p_aload_n k177_8 rfl ?_
    refine p_iload_n k177_9 rfl ?_
    refine p_cV1i k177_10 (s_98 S) c_12_259_12 rfl (Nat.le_of_ble_eq_true rfl) (M_isHead S hnh hnh6 (w)) (fun x1 m1 hq => ?_)
    obtain ⟨rfl, rfl⟩ := hq
    refine p_if_neB (tgt := 18) k177_13 (by decide) (fun cq13 => ?_) (fun cq13 => ?_)
    · skip
      obtain ⟨a, ha, rfl⟩ := ixB_of (n := nh) (by omega) cq5
      have hca := nI_clamp (n := a) (by omega)
      obtain ⟨b, hb, rfl⟩ := ixB_of (n := nh) (by omega) cq13
      have hcb := nI_clamp (n := b) (by omega)
      refine p_iload_n k177_18 rfl ?_
      refine p_iload_n k177_19 rfl ?_
      refine p_icmp_ne (tgt := 26) k177_20 (by decide) (fun cq20 => ?_) (fun cq20 => ?_)
      · skip
        refine p_aload_n k177_26 rfl ?_
        refine p_iload_n k177_27 rfl ?_
        refine p_iload_n k177_28 rfl ?_
        refine p_cV2v k177_29 (s_98 S) c_12_357_12 rfl rfl (Nat.le_of_ble_eq_true rfl) (M_swaps S (a := a) (b := b) (by omega) (by omega)) (fun m1 hq => ?_)
        obtain rfl := hq
        refine p_iconst (v := nI 1) k177_32 (by decide) ?_
        refine p_ireturn k177_33 rt_177 ?_
        exact ⟨by simp [changeM, *], by simp [changeM, *]⟩
      · skip
        refine p_bipush (v := (-2)) k177_23 (by decide) ?_
        refine p_ireturn k177_25 rt_177 ?_
        exact ⟨by simp [changeM, *], by simp [changeM, *]⟩
    · skip
      refine p_iconst (v := (-1)) k177_16 (by decide) ?_
      refine p_ireturn k177_17 rt_177 ?_
      exact ⟨by simp [changeM, *], by simp [changeM, *]⟩

set_option maxRecDepth 100000 in
set_option maxHeartbeats 4000000 in
theorem M_gust {d : Nat} {I : Nat → Nat → Int32} {J : Nat → Nat → Int64} {K : Nat → Nat → Option Nat} {h : List xSh} (S : St K h) {nh na dd cb ce : Nat} (M : MI I nh na dd cb ce) (v : Int32) : EvP (d + 1) 175 0 [(0, .ref (98)), (1, .int (v))] [] (I, J, K, h) (QI (fun x t => x = (gustM I nh v).1 ∧ t = ((gustM I nh v).2, J, K, h))) := by
  have hnh := M.nh
  have hnh6 := M.nh6
  have hna := M.na
  have hna6 := M.na6
  refine p_aload_n k175_0 rfl ?_
  refine p_iload_n k175_1 rfl ?_
  refine p_iconst (v := nI 0) k175_2 (by decide) ?_
  refine p_iconst (v := nI 5) k175_3 (by decide) ?_
  refine p_cV3i k175_4 (s_98 S) c_12_248_12 rfl rfl rfl (Nat.le_of_ble_eq_true rfl) (M_in S (v) (nI (0)) (nI (5))) (fun x1 m1 hq => ?_)
  obtain ⟨rfl, rfl⟩ := hq
  refine p_if_eqB (tgt := 18) k175_7 (by decide) (fun cq7 => ?_) (fun cq7 => ?_)
  · skip
    refine p_bipush (v := (-2)) k175_18 (by decide) ?_
    refine p_ireturn k175_20 rt_175 ?_
    exact ⟨by simp [gustM, *], by simp [gustM, *]⟩
  · skip
    obtain ⟨g, hg, rfl⟩ := inB_of (by decide) (by decide) cq7
    rw [Nat.zero_add] at *
    have hcg := nI_clamp (n := g) (by omega)
    refine p_aload_n k175_10 rfl ?_
    refine p_iload_n k175_11 rfl ?_
    refine p_cV1i k175_12 (s_98 S) c_12_354_12 rfl (Nat.le_of_ble_eq_true rfl) (M_goGust S M (gg := g) (by omega)) (fun x1 m1 hq => ?_)
    obtain ⟨rfl, rfl⟩ := hq
    refine p_goto (tgt := 20) k175_15 (by decide) ?_
    refine p_ireturn k175_20 rt_175 ?_
    exact ⟨by simp [gustM, *], by simp [gustM, *]⟩

set_option maxRecDepth 100000 in
set_option maxHeartbeats 4000000 in
theorem C_within {d : Nat} {I : Nat → Nat → Int32} {J : Nat → Nat → Int64} {K : Nat → Nat → Option Nat} {h : List xSh} (S : St K h) (v lo hi : Int32) : EvP d 101 0 [(0, .int (v)), (1, .int (lo)), (2, .int (hi))] [] (I, J, K, h) (QI (fun x t => x = bI (inB v lo hi) ∧ t = (I, J, K, h))) := by
  refine p_iload_n k101_0 rfl ?_
  refine p_iload_n k101_1 rfl ?_
  refine p_icmp_lt (tgt := 14) k101_2 (by decide) (fun cq2 => ?_) (fun cq2 => ?_)
  · skip
    refine p_iconst (v := bI false) k101_14 (by decide) ?_
    refine p_returnB k101_15 rt_101 ?_
    exact ⟨by first | rw [inB_f1 (by assumption)] | rw [inB_f2 (by assumption)] | rw [inB_t (by assumption) (by assumption)], rfl⟩
  · skip
    refine p_iload_n k101_5 rfl ?_
    refine p_iload_n k101_6 rfl ?_
    refine p_icmp_gt (tgt := 14) k101_7 (by decide) (fun cq7 => ?_) (fun cq7 => ?_)
    · skip
      refine p_iconst (v := bI false) k101_14 (by decide) ?_
      refine p_returnB k101_15 rt_101 ?_
      exact ⟨by first | rw [inB_f1 (by assumption)] | rw [inB_f2 (by assumption)] | rw [inB_t (by assumption) (by assumption)], rfl⟩
    · skip
      refine p_iconst (v := bI true) k101_10 (by decide) ?_
      refine p_goto (tgt := 15) k101_11 (by decide) ?_
      refine p_returnB k101_15 rt_101 ?_
      exact ⟨by first | rw [inB_f1 (by assumption)] | rw [inB_f2 (by assumption)] | rw [inB_t (by assumption) (by assumption)], rfl⟩

set_option maxRecDepth 100000 in
set_option maxHeartbeats 4000000 in
theorem C_isDigit {d : Nat} {I : Nat → Nat → Int32} {J : Nat → Nat → Int64} {K : Nat → Nat → Option Nat} {h : List xSh} (S : St K h) (v : Int32) : EvP (d + 1) 102 0 [(0, .int (v))] [] (I, J, K, h) (QI (fun x t => x = bI (inB v (nI 0) (nI 9)) ∧ t = (I, J, K, h))) := by
  refine p_iload_n k102_0 rfl ?_
  refine p_iconst (v := nI 0) k102_1 (by decide) ?_
  refine p_bipush (v := nI 9) k102_2 (by decide) ?_
  refine p_cS3i k102_4 c_11_101 rfl rfl rfl (Nat.le_of_ble_eq_true rfl) (C_within S (v) (nI (0)) (nI (9))) (fun x1 m1 hq => ?_)
  obtain ⟨rfl, rfl⟩ := hq
  refine p_returnB k102_7 rt_102 ?_
  exact ⟨rfl, rfl⟩

set_option maxRecDepth 100000 in
set_option maxHeartbeats 4000000 in
theorem C_isTrade {d : Nat} {I : Nat → Nat → Int32} {J : Nat → Nat → Int64} {K : Nat → Nat → Option Nat} {h : List xSh} (S : St K h) (v : Int32) : EvP (d + 1) 103 0 [(0, .int (v))] [] (I, J, K, h) (QI (fun x t => x = bI (ixB v 5) ∧ t = (I, J, K, h))) := by
  refine p_iload_n k103_0 rfl ?_
  refine p_iconst (v := nI 0) k103_1 (by decide) ?_
  refine p_iconst (v := nI 4) k103_2 (by decide) ?_
  refine p_cS3i k103_3 c_11_101 rfl rfl rfl (Nat.le_of_ble_eq_true rfl) (C_within S (v) (nI (0)) (nI (4))) (fun x1 m1 hq => ?_)
  obtain ⟨rfl, rfl⟩ := hq
  refine p_returnB k103_6 rt_103 ?_
  exact ⟨by rw [← ixB_in0 (m := 4) (by decide)], rfl⟩

set_option maxRecDepth 100000 in
set_option maxHeartbeats 4000000 in
theorem C_isGust {d : Nat} {I : Nat → Nat → Int32} {J : Nat → Nat → Int64} {K : Nat → Nat → Option Nat} {h : List xSh} (S : St K h) (v : Int32) : EvP (d + 1) 104 0 [(0, .int (v))] [] (I, J, K, h) (QI (fun x t => x = bI (inB v (nI 0) (nI 5)) ∧ t = (I, J, K, h))) := by
  refine p_iload_n k104_0 rfl ?_
  refine p_iconst (v := nI 0) k104_1 (by decide) ?_
  refine p_iconst (v := nI 5) k104_2 (by decide) ?_
  refine p_cS3i k104_3 c_11_101 rfl rfl rfl (Nat.le_of_ble_eq_true rfl) (C_within S (v) (nI (0)) (nI (5))) (fun x1 m1 hq => ?_)
  obtain ⟨rfl, rfl⟩ := hq
  refine p_returnB k104_6 rt_104 ?_
  exact ⟨rfl, rfl⟩

set_option maxRecDepth 100000 in
set_option maxHeartbeats 4000000 in
theorem C_isTape {d : Nat} {I : Nat → Nat → Int32} {J : Nat → Nat → Int64} {K : Nat → Nat → Option Nat} {h : List xSh} (S : St K h) (v : Int32) : EvP (d + 1) 105 0 [(0, .int (v))] [] (I, J, K, h) (QI (fun x t => x = bI (ixB v 6) ∧ t = (I, J, K, h))) := by
  refine p_iload_n k105_0 rfl ?_
  refine p_iconst (v := nI 0) k105_1 (by decide) ?_
  refine p_iconst (v := nI 5) k105_2 (by decide) ?_
  refine p_cS3i k105_3 c_11_101 rfl rfl rfl (Nat.le_of_ble_eq_true rfl) (C_within S (v) (nI (0)) (nI (5))) (fun x1 m1 hq => ?_)
  obtain ⟨rfl, rfl⟩ := hq
  refine p_returnB k105_6 rt_105 ?_
  exact ⟨by rw [← ixB_in0 (m := 5) (by decide)], rfl⟩

theorem ix_n1 {v : Int32} {n : Nat} (c : v < 0) : ixB v n = false := by
  unfold ixB
  rw [i_lt] at c
  have h0 : (0 : Int32).toInt = 0 := rfl
  exact decide_eq_false (by omega)
theorem ix_n2 {v : Int32} {n : Nat} (h6 : n ≤ 6) (c : ¬ v < 0) (cq2 : nI n ≤ v) : ixB v n = false := by
  unfold ixB
  rw [i_le, nI_t (by omega)] at cq2
  exact decide_eq_false (by omega)
theorem ix_y {v : Int32} {n : Nat} (h6 : n ≤ 6) (c : ¬ v < 0) (cq2 : ¬ nI n ≤ v) : ixB v n = true := by
  unfold ixB
  rw [i_le, nI_t (by omega)] at cq2
  rw [i_lt] at c
  have h0 : (0 : Int32).toInt = 0 := rfl
  exact decide_eq_true (by omega)
set_option maxRecDepth 100000 in
set_option maxHeartbeats 4000000 in
theorem C_isHead {d : Nat} {I : Nat → Nat → Int32} {J : Nat → Nat → Int64} {K : Nat → Nat → Option Nat} {h : List xSh} (S : St K h) {n : Nat} (hn : I 1 0 = nI n) (hn6 : n ≤ 6) (v : Int32) : EvP d 12 0 [(0, .ref (1)), (1, .int (v))] [] (I, J, K, h) (QI (fun x t => x = bI (ixB v n) ∧ t = (I, J, K, h))) := by
  refine p_iload_n k12_0 rfl ?_
  refine p_if_lt (tgt := 16) k12_1 (by decide) (fun cq1 => ?_) (fun cq1 => ?_)
  · skip
    refine p_iconst (v := bI false) k12_16 (by decide) ?_
    refine p_returnB k12_17 rt_12 ?_
    exact ⟨by first | rw [ix_n1 cq1] | rw [ix_n2 hn6 cq1 cq9] | rw [ix_y hn6 cq1 cq9], rfl⟩
  · skip
    refine p_iload_n k12_4 rfl ?_
    refine p_aload_n k12_5 rfl ?_
    refine p_getIv k12_6 (s_1 S) f_3_9_3 hn ?_
    refine p_icmp_ge (tgt := 16) k12_9 (by decide) (fun cq9 => ?_) (fun cq9 => ?_)
    · skip
      refine p_iconst (v := bI false) k12_16 (by decide) ?_
      refine p_returnB k12_17 rt_12 ?_
      exact ⟨by first | rw [ix_n1 cq1] | rw [ix_n2 hn6 cq1 cq9] | rw [ix_y hn6 cq1 cq9], rfl⟩
    · skip
      refine p_iconst (v := bI true) k12_12 (by decide) ?_
      refine p_goto (tgt := 17) k12_13 (by decide) ?_
      refine p_returnB k12_17 rt_12 ?_
      exact ⟨by first | rw [ix_n1 cq1] | rw [ix_n2 hn6 cq1 cq9] | rw [ix_y hn6 cq1 cq9], rfl⟩

set_option maxRecDepth 100000 in
set_option maxHeartbeats 4000000 in
theorem C_isHat {d : Nat} {I : Nat → Nat → Int32} {J : Nat → Nat → Int64} {K : Nat → Nat → Option Nat} {h : List xSh} (S : St K h) {n : Nat} (hn : I 1 4 = nI n) (hn6 : n ≤ 6) (v : Int32) : EvP d 13 0 [(0, .ref (1)), (1, .int (v))] [] (I, J, K, h) (QI (fun x t => x = bI (ixB v n) ∧ t = (I, J, K, h))) := by
  refine p_iload_n k13_0 rfl ?_
  refine p_if_lt (tgt := 16) k13_1 (by decide) (fun cq1 => ?_) (fun cq1 => ?_)
  · skip
    refine p_iconst (v := bI false) k13_16 (by decide) ?_
    refine p_returnB k13_17 rt_13 ?_
    exact ⟨by first | rw [ix_n1 cq1] | rw [ix_n2 hn6 cq1 cq9] | rw [ix_y hn6 cq1 cq9], rfl⟩
  · skip
    refine p_iload_n k13_4 rfl ?_
    refine p_aload_n k13_5 rfl ?_
    refine p_getIv k13_6 (s_1 S) f_3_25_3 hn ?_
    refine p_icmp_ge (tgt := 16) k13_9 (by decide) (fun cq9 => ?_) (fun cq9 => ?_)
    · skip
      refine p_iconst (v := bI false) k13_16 (by decide) ?_
      refine p_returnB k13_17 rt_13 ?_
      exact ⟨by first | rw [ix_n1 cq1] | rw [ix_n2 hn6 cq1 cq9] | rw [ix_y hn6 cq1 cq9], rfl⟩
    · skip
      refine p_iconst (v := bI true) k13_12 (by decide) ?_
      refine p_goto (tgt := 17) k13_13 (by decide) ?_
      refine p_returnB k13_17 rt_13 ?_
      exact ⟨by first | rw [ix_n1 cq1] | rw [ix_n2 hn6 cq1 cq9] | rw [ix_y hn6 cq1 cq9], rfl⟩

def orA (x : Int32) : Int32 := if x = -1 then -5 else x
set_option maxRecDepth 100000 in
set_option maxHeartbeats 4000000 in
theorem C_orNotAny {d : Nat} {I : Nat → Nat → Int32} {J : Nat → Nat → Int64} {K : Nat → Nat → Option Nat} {h : List xSh} (S : St K h) (v : Int32) : EvP d 107 0 [(0, .int (v))] [] (I, J, K, h) (QI (fun x t => x = orA v ∧ t = (I, J, K, h))) := by
  refine p_iload_n k107_0 rfl ?_
  refine p_iconst (v := (-1)) k107_1 (by decide) ?_
  refine p_icmp_ne (tgt := 10) k107_2 (by decide) (fun cq2 => ?_) (fun cq2 => ?_)
  · skip
    refine p_iload_n k107_10 rfl ?_
    refine p_ireturn k107_11 rt_107 ?_
    exact ⟨by unfold orA; first | rw [if_pos cq2] | rw [if_neg cq2], rfl⟩
  · skip
    refine p_bipush (v := (-5)) k107_5 (by decide) ?_
    refine p_goto (tgt := 11) k107_7 (by decide) ?_
    refine p_ireturn k107_11 rt_107 ?_
    exact ⟨by unfold orA; first | rw [if_pos cq2] | rw [if_neg cq2], rfl⟩

set_option maxRecDepth 100000 in
set_option maxHeartbeats 4000000 in
theorem C_wearer {d : Nat} {I : Nat → Nat → Int32} {J : Nat → Nat → Int64} {K : Nat → Nat → Option Nat} {h : List xSh} (S : St K h) {n : Nat} (hn : I 1 0 = nI n) (hn6 : n ≤ 6) (a : Int32) : EvP d 14 0 [(0, .ref (1)), (1, .int (a))] [] (I, J, K, h) (QI (fun x t => x = optI (-1) (fnd (isI (I 4) a) n 0) ∧ t = (I, J, K, h))) := by
  refine p_iconst (v := nI 0) k14_0 (by decide) ?_
  refine p_istore_n (ls' := [(0, _), (1, _), (2, _)]) k14_1 rfl ?_
  have L : ∀ (j : Nat) (k : Nat), k + j = n → EvP d 14 2 [(0, .ref (1)), (1, .int (a)), (2, .int (nI (k)))] [] (I, J, K, h) (QI (fun x t => x = optI (-1) (fnd (isI (I 4) a) j k) ∧ t = (I, J, K, h))) := by
    intro j
    induction j with
    | zero =>
      intro k hk
      refine p_iload_n k14_2 rfl ?_
      refine p_aload_n k14_3 rfl ?_
      refine p_getIv k14_4 (s_1 S) f_3_9_3 hn ?_
      refine p_icmp_geN (tgt := 28) k14_7 (by decide) (by omega) (by omega) (fun _ => ?_) (fun c => False.elim (by omega))
      refine p_iconst (v := (-1)) k14_28 (by decide) ?_
      refine p_ireturn k14_29 rt_14 ?_
      exact ⟨rfl, rfl⟩
    | succ j ih =>
      intro k hk
      refine p_iload_n k14_2 rfl ?_
      refine p_aload_n k14_3 rfl ?_
      refine p_getIv k14_4 (s_1 S) f_3_9_3 hn ?_
      refine p_icmp_geN (tgt := 28) k14_7 (by decide) (by omega) (by omega) (fun c => False.elim (by omega)) (fun _ => ?_)
      refine p_aload_n k14_10 rfl ?_
      refine p_getRv k14_11 (s_1 S) f_3_22_3 (r_1_3 S) ?_
      refine p_iload_n k14_14 rfl ?_
      refine p_ialdN k14_15 (s_4 S) (by omega) (by decide) rfl ?_
      refine p_iload_n k14_16 rfl ?_
      refine p_icmp_ne (tgt := 22) k14_17 (by decide) (fun cq17 => ?_) (fun cq17 => ?_)
      · skip
        refine p_iincN (ls1 := [(0, _), (1, _), (2, _)]) k14_22 rfl rfl ?_
        refine p_goto (tgt := 2) k14_25 (by decide) ?_
        rw [show fnd (isI (I 4) a) (j + 1) k = fnd (isI (I 4) a) j (k + 1) from if_neg (by unfold isI; rw [decide_eq_true_iff]; exact cq17)]
        exact ih (k + 1) (by omega)
      · skip
        refine p_iload_n k14_20 rfl ?_
        refine p_ireturn k14_21 rt_14 ?_
        exact ⟨by rw [show fnd (isI (I 4) a) (j + 1) k = some k from if_pos (by unfold isI; rw [decide_eq_true_iff]; exact cq17)]; rfl, rfl⟩
  exact L n 0 (by omega)

set_option maxRecDepth 100000 in
set_option maxHeartbeats 4000000 in
theorem C_isHeadOrEmpty {d : Nat} {I : Nat → Nat → Int32} {J : Nat → Nat → Int64} {K : Nat → Nat → Option Nat} {h : List xSh} (S : St K h) {n : Nat} (hn : I 1 0 = nI n) (hn6 : n ≤ 6) (v : Int32) : EvP (d + 1) 106 0 [(0, .ref (0)), (1, .int (v))] [] (I, J, K, h) (QI (fun x t => x = bI (decide (v = -1) || ixB v n) ∧ t = (I, J, K, h))) := by
  refine p_iload_n k106_0 rfl ?_
  refine p_iconst (v := (-1)) k106_1 (by decide) ?_
  refine p_icmp_eq (tgt := 16) k106_2 (by decide) (fun cq2 => ?_) (fun cq2 => ?_)
  · skip
    refine p_iconst (v := bI true) k106_16 (by decide) ?_
    refine p_goto (tgt := 21) k106_17 (by decide) ?_
    refine p_returnB k106_21 rt_106 ?_
    exact ⟨by first | (rw [decide_eq_true cq2]; rfl) | (rw [decide_eq_false cq2, cq13]; rfl), rfl⟩
  · skip
    refine p_aload_n k106_5 rfl ?_
    refine p_getRv k106_6 (s_0 S) f_11_14_11 (r_0_0 S) ?_
    refine p_iload_n k106_9 rfl ?_
    refine p_cV1i k106_10 (s_1 S) c_11_173_3 rfl (Nat.le_of_ble_eq_true rfl) (C_isHead S hn hn6 v) (fun x1 m1 hq => ?_)
    obtain ⟨rfl, rfl⟩ := hq
    refine p_if_eqB (tgt := 20) k106_13 (by decide) (fun cq13 => ?_) (fun cq13 => ?_)
    · skip
      refine p_iconst (v := bI false) k106_20 (by decide) ?_
      refine p_returnB k106_21 rt_106 ?_
      exact ⟨by first | (rw [decide_eq_true cq2]; rfl) | (rw [decide_eq_false cq2, cq13]; rfl), rfl⟩
    · skip
      refine p_iconst (v := bI true) k106_16 (by decide) ?_
      refine p_goto (tgt := 21) k106_17 (by decide) ?_
      refine p_returnB k106_21 rt_106 ?_
      exact ⟨by first | (rw [decide_eq_true cq2]; rfl) | (rw [decide_eq_false cq2, cq13]; rfl), rfl⟩

def mx0 (x : Int32) : Int32 := if nI 0 < x then x else nI 0
/-- a deed by the class of a hat -/
def dC (ci : Nat) (s ap ea tl v : Int32) : Int32 := match ci with
  | 0 => mx0 s + v
  | 1 => mx0 (mx0 (mx0 s - ea) - v)
  | 4 => if ap = 0 then mx0 (mx0 s - nI 2 * ap) else nI 0
  | 6 => mx0 (mx0 s - nI 2 * ap)
  | 7 => mx0 s + v + tl
  | 10 => mx0 (mx0 s - ea)
  | _ => mx0 s
set_option maxRecDepth 100000 in
set_option maxHeartbeats 4000000 in
theorem C_deed7_0 {d : Nat} {I : Nat → Nat → Int32} {J : Nat → Nat → Int64} {K : Nat → Nat → Option Nat} {h : List xSh} (S : St K h) {r : Nat} {v : Int32} (hr : h[r]? = some (.inl 0)) (hv : I r 2 = v) (s ap ea tl : Int32) : EvP (d + 1) 7 0 [(0, .ref (r)), (1, .int (s)), (2, .int (ap)), (3, .int (ea)), (4, .int (tl))] [] (I, J, K, h) (QI (fun x t => x = dC 2 s ap ea tl v ∧ t = (I, J, K, h))) := by
  refine p_iconst (v := nI 0) k7_0 (by decide) ?_
  refine p_iload_n k7_1 rfl ?_
  refine p_max k7_2 (by decide) (Nat.le_of_ble_eq_true rfl) ?_
  refine p_ireturn k7_5 rt_7 ?_
  exact ⟨rfl, rfl⟩

set_option maxRecDepth 100000 in
set_option maxHeartbeats 4000000 in
theorem C_deed7_1 {d : Nat} {I : Nat → Nat → Int32} {J : Nat → Nat → Int64} {K : Nat → Nat → Option Nat} {h : List xSh} (S : St K h) {r : Nat} {v : Int32} (hr : h[r]? = some (.inl 1)) (hv : I r 2 = v) (s ap ea tl : Int32) : EvP (d + 1) 7 0 [(0, .ref (r)), (1, .int (s)), (2, .int (ap)), (3, .int (ea)), (4, .int (tl))] [] (I, J, K, h) (QI (fun x t => x = dC 2 s ap ea tl v ∧ t = (I, J, K, h))) := by
  refine p_iconst (v := nI 0) k7_0 (by decide) ?_
  refine p_iload_n k7_1 rfl ?_
  refine p_max k7_2 (by decide) (Nat.le_of_ble_eq_true rfl) ?_
  refine p_ireturn k7_5 rt_7 ?_
  exact ⟨rfl, rfl⟩

set_option maxRecDepth 100000 in
set_option maxHeartbeats 4000000 in
theorem C_deed7_2 {d : Nat} {I : Nat → Nat → Int32} {J : Nat → Nat → Int64} {K : Nat → Nat → Option Nat} {h : List xSh} (S : St K h) {r : Nat} {v : Int32} (hr : h[r]? = some (.inl 2)) (hv : I r 2 = v) (s ap ea tl : Int32) : EvP (d + 1) 7 0 [(0, .ref (r)), (1, .int (s)), (2, .int (ap)), (3, .int (ea)), (4, .int (tl))] [] (I, J, K, h) (QI (fun x t => x = dC 2 s ap ea tl v ∧ t = (I, J, K, h))) := by
  refine p_iconst (v := nI 0) k7_0 (by decide) ?_
  refine p_iload_n k7_1 rfl ?_
  refine p_max k7_2 (by decide) (Nat.le_of_ble_eq_true rfl) ?_
  refine p_ireturn k7_5 rt_7 ?_
  exact ⟨rfl, rfl⟩

set_option maxRecDepth 100000 in
set_option maxHeartbeats 4000000 in
theorem C_deed7_4 {d : Nat} {I : Nat → Nat → Int32} {J : Nat → Nat → Int64} {K : Nat → Nat → Option Nat} {h : List xSh} (S : St K h) {r : Nat} {v : Int32} (hr : h[r]? = some (.inl 4)) (hv : I r 2 = v) (s ap ea tl : Int32) : EvP (d + 1) 7 0 [(0, .ref (r)), (1, .int (s)), (2, .int (ap)), (3, .int (ea)), (4, .int (tl))] [] (I, J, K, h) (QI (fun x t => x = dC 2 s ap ea tl v ∧ t = (I, J, K, h))) := by
  refine p_iconst (v := nI 0) k7_0 (by decide) ?_
  refine p_iload_n k7_1 rfl ?_
  refine p_max k7_2 (by decide) (Nat.le_of_ble_eq_true rfl) ?_
  refine p_ireturn k7_5 rt_7 ?_
  exact ⟨rfl, rfl⟩

set_option maxRecDepth 100000 in
set_option maxHeartbeats 4000000 in
theorem C_deed7_6 {d : Nat} {I : Nat → Nat → Int32} {J : Nat → Nat → Int64} {K : Nat → Nat → Option Nat} {h : List xSh} (S : St K h) {r : Nat} {v : Int32} (hr : h[r]? = some (.inl 6)) (hv : I r 2 = v) (s ap ea tl : Int32) : EvP (d + 1) 7 0 [(0, .ref (r)), (1, .int (s)), (2, .int (ap)), (3, .int (ea)), (4, .int (tl))] [] (I, J, K, h) (QI (fun x t => x = dC 2 s ap ea tl v ∧ t = (I, J, K, h))) := by
  refine p_iconst (v := nI 0) k7_0 (by decide) ?_
  refine p_iload_n k7_1 rfl ?_
  refine p_max k7_2 (by decide) (Nat.le_of_ble_eq_true rfl) ?_
  refine p_ireturn k7_5 rt_7 ?_
  exact ⟨rfl, rfl⟩

set_option maxRecDepth 100000 in
set_option maxHeartbeats 4000000 in
theorem C_deed7_7 {d : Nat} {I : Nat → Nat → Int32} {J : Nat → Nat → Int64} {K : Nat → Nat → Option Nat} {h : List xSh} (S : St K h) {r : Nat} {v : Int32} (hr : h[r]? = some (.inl 7)) (hv : I r 2 = v) (s ap ea tl : Int32) : EvP (d + 1) 7 0 [(0, .ref (r)), (1, .int (s)), (2, .int (ap)), (3, .int (ea)), (4, .int (tl))] [] (I, J, K, h) (QI (fun x t => x = dC 2 s ap ea tl v ∧ t = (I, J, K, h))) := by
  refine p_iconst (v := nI 0) k7_0 (by decide) ?_
  refine p_iload_n k7_1 rfl ?_
  refine p_max k7_2 (by decide) (Nat.le_of_ble_eq_true rfl) ?_
  refine p_ireturn k7_5 rt_7 ?_
  exact ⟨rfl, rfl⟩

set_option maxRecDepth 100000 in
set_option maxHeartbeats 4000000 in
theorem C_deed7_10 {d : Nat} {I : Nat → Nat → Int32} {J : Nat → Nat → Int64} {K : Nat → Nat → Option Nat} {h : List xSh} (S : St K h) {r : Nat} {v : Int32} (hr : h[r]? = some (.inl 10)) (hv : I r 2 = v) (s ap ea tl : Int32) : EvP (d + 1) 7 0 [(0, .ref (r)), (1, .int (s)), (2, .int (ap)), (3, .int (ea)), (4, .int (tl))] [] (I, J, K, h) (QI (fun x t => x = dC 2 s ap ea tl v ∧ t = (I, J, K, h))) := by
  refine p_iconst (v := nI 0) k7_0 (by decide) ?_
  refine p_iload_n k7_1 rfl ?_
  refine p_max k7_2 (by decide) (Nat.le_of_ble_eq_true rfl) ?_
  refine p_ireturn k7_5 rt_7 ?_
  exact ⟨rfl, rfl⟩

set_option maxRecDepth 100000 in
set_option maxHeartbeats 4000000 in
theorem C_deed26_6 {d : Nat} {I : Nat → Nat → Int32} {J : Nat → Nat → Int64} {K : Nat → Nat → Option Nat} {h : List xSh} (S : St K h) {r : Nat} {v : Int32} (hr : h[r]? = some (.inl 6)) (hv : I r 2 = v) (s ap ea tl : Int32) : EvP (d + 2) 26 0 [(0, .ref (r)), (1, .int (s)), (2, .int (ap)), (3, .int (ea)), (4, .int (tl))] [] (I, J, K, h) (QI (fun x t => x = dC 6 s ap ea tl v ∧ t = (I, J, K, h))) := by
  refine p_iconst (v := nI 0) k26_0 (by decide) ?_
  refine p_aload_n k26_1 rfl ?_
  refine p_iload_n k26_2 rfl ?_
  refine p_iload_n k26_3 rfl ?_
  refine p_iload_n k26_4 rfl ?_
  refine p_iload k26_5 rfl ?_
  refine p_cU4i k26_7 hr c_6_7 rfl rfl rfl rfl (Nat.le_of_ble_eq_true rfl) (C_deed7_6 S hr hv s ap ea tl) (fun x1 m1 hq => ?_)
  obtain ⟨rfl, rfl⟩ := hq
  refine p_iconst (v := nI 2) k26_10 (by decide) ?_
  refine p_iload_n k26_11 rfl ?_
  refine p_imul k26_12 ?_
  refine p_isub k26_13 ?_
  refine p_max k26_14 (by decide) (Nat.le_of_ble_eq_true rfl) ?_
  refine p_ireturn k26_17 rt_26 ?_
  exact ⟨rfl, rfl⟩

set_option maxRecDepth 100000 in
set_option maxHeartbeats 4000000 in
theorem C_deed26_4 {d : Nat} {I : Nat → Nat → Int32} {J : Nat → Nat → Int64} {K : Nat → Nat → Option Nat} {h : List xSh} (S : St K h) {r : Nat} {v : Int32} (hr : h[r]? = some (.inl 4)) (hv : I r 2 = v) (s ap ea tl : Int32) : EvP (d + 2) 26 0 [(0, .ref (r)), (1, .int (s)), (2, .int (ap)), (3, .int (ea)), (4, .int (tl))] [] (I, J, K, h) (QI (fun x t => x = dC 6 s ap ea tl v ∧ t = (I, J, K, h))) := by
  refine p_iconst (v := nI 0) k26_0 (by decide) ?_
  refine p_aload_n k26_1 rfl ?_
  refine p_iload_n k26_2 rfl ?_
  refine p_iload_n k26_3 rfl ?_
  refine p_iload_n k26_4 rfl ?_
  refine p_iload k26_5 rfl ?_
  refine p_cU4i k26_7 hr c_6_7 rfl rfl rfl rfl (Nat.le_of_ble_eq_true rfl) (C_deed7_4 S hr hv s ap ea tl) (fun x1 m1 hq => ?_)
  obtain ⟨rfl, rfl⟩ := hq
  refine p_iconst (v := nI 2) k26_10 (by decide) ?_
  refine p_iload_n k26_11 rfl ?_
  refine p_imul k26_12 ?_
  refine p_isub k26_13 ?_
  refine p_max k26_14 (by decide) (Nat.le_of_ble_eq_true rfl) ?_
  refine p_ireturn k26_17 rt_26 ?_
  exact ⟨rfl, rfl⟩

set_option maxRecDepth 100000 in
set_option maxHeartbeats 4000000 in
theorem C_deed52_10 {d : Nat} {I : Nat → Nat → Int32} {J : Nat → Nat → Int64} {K : Nat → Nat → Option Nat} {h : List xSh} (S : St K h) {r : Nat} {v : Int32} (hr : h[r]? = some (.inl 10)) (hv : I r 2 = v) (s ap ea tl : Int32) : EvP (d + 2) 52 0 [(0, .ref (r)), (1, .int (s)), (2, .int (ap)), (3, .int (ea)), (4, .int (tl))] [] (I, J, K, h) (QI (fun x t => x = dC 10 s ap ea tl v ∧ t = (I, J, K, h))) := by
  refine p_iconst (v := nI 0) k52_0 (by decide) ?_
  refine p_aload_n k52_1 rfl ?_
  refine p_iload_n k52_2 rfl ?_
  refine p_iload_n k52_3 rfl ?_
  refine p_iload_n k52_4 rfl ?_
  refine p_iload k52_5 rfl ?_
  refine p_cU4i k52_7 hr c_10_7 rfl rfl rfl rfl (Nat.le_of_ble_eq_true rfl) (C_deed7_10 S hr hv s ap ea tl) (fun x1 m1 hq => ?_)
  obtain ⟨rfl, rfl⟩ := hq
  refine p_iload_n k52_10 rfl ?_
  refine p_isub k52_11 ?_
  refine p_max k52_12 (by decide) (Nat.le_of_ble_eq_true rfl) ?_
  refine p_ireturn k52_15 rt_52 ?_
  exact ⟨rfl, rfl⟩

set_option maxRecDepth 100000 in
set_option maxHeartbeats 4000000 in
theorem C_deed52_1 {d : Nat} {I : Nat → Nat → Int32} {J : Nat → Nat → Int64} {K : Nat → Nat → Option Nat} {h : List xSh} (S : St K h) {r : Nat} {v : Int32} (hr : h[r]? = some (.inl 1)) (hv : I r 2 = v) (s ap ea tl : Int32) : EvP (d + 2) 52 0 [(0, .ref (r)), (1, .int (s)), (2, .int (ap)), (3, .int (ea)), (4, .int (tl))] [] (I, J, K, h) (QI (fun x t => x = dC 10 s ap ea tl v ∧ t = (I, J, K, h))) := by
  refine p_iconst (v := nI 0) k52_0 (by decide) ?_
  refine p_aload_n k52_1 rfl ?_
  refine p_iload_n k52_2 rfl ?_
  refine p_iload_n k52_3 rfl ?_
  refine p_iload_n k52_4 rfl ?_
  refine p_iload k52_5 rfl ?_
  refine p_cU4i k52_7 hr c_10_7 rfl rfl rfl rfl (Nat.le_of_ble_eq_true rfl) (C_deed7_1 S hr hv s ap ea tl) (fun x1 m1 hq => ?_)
  obtain ⟨rfl, rfl⟩ := hq
  refine p_iload_n k52_10 rfl ?_
  refine p_isub k52_11 ?_
  refine p_max k52_12 (by decide) (Nat.le_of_ble_eq_true rfl) ?_
  refine p_ireturn k52_15 rt_52 ?_
  exact ⟨rfl, rfl⟩

set_option maxRecDepth 100000 in
set_option maxHeartbeats 4000000 in
theorem C_deed1_0 {d : Nat} {I : Nat → Nat → Int32} {J : Nat → Nat → Int64} {K : Nat → Nat → Option Nat} {h : List xSh} (S : St K h) {r : Nat} {v : Int32} (hr : h[r]? = some (.inl 0)) (hv : I r 2 = v) (s ap ea tl : Int32) : EvP (d + 2) 1 0 [(0, .ref (r)), (1, .int (s)), (2, .int (ap)), (3, .int (ea)), (4, .int (tl))] [] (I, J, K, h) (QI (fun x t => x = dC 0 s ap ea tl v ∧ t = (I, J, K, h))) := by
  refine p_aload_n k1_0 rfl ?_
  refine p_iload_n k1_1 rfl ?_
  refine p_iload_n k1_2 rfl ?_
  refine p_iload_n k1_3 rfl ?_
  refine p_iload k1_4 rfl ?_
  refine p_cU4i k1_6 hr c_0_7 rfl rfl rfl rfl (Nat.le_of_ble_eq_true rfl) (C_deed7_0 S hr hv s ap ea tl) (fun x1 m1 hq => ?_)
  obtain ⟨rfl, rfl⟩ := hq
  refine p_aload_n k1_9 rfl ?_
  refine p_getIv k1_10 hr f_0_11_0 hv ?_
  refine p_iadd k1_13 ?_
  refine p_ireturn k1_14 rt_1 ?_
  exact ⟨rfl, rfl⟩

set_option maxRecDepth 100000 in
set_option maxHeartbeats 4000000 in
theorem C_deed1_7 {d : Nat} {I : Nat → Nat → Int32} {J : Nat → Nat → Int64} {K : Nat → Nat → Option Nat} {h : List xSh} (S : St K h) {r : Nat} {v : Int32} (hr : h[r]? = some (.inl 7)) (hv : I r 2 = v) (s ap ea tl : Int32) : EvP (d + 2) 1 0 [(0, .ref (r)), (1, .int (s)), (2, .int (ap)), (3, .int (ea)), (4, .int (tl))] [] (I, J, K, h) (QI (fun x t => x = dC 0 s ap ea tl v ∧ t = (I, J, K, h))) := by
  refine p_aload_n k1_0 rfl ?_
  refine p_iload_n k1_1 rfl ?_
  refine p_iload_n k1_2 rfl ?_
  refine p_iload_n k1_3 rfl ?_
  refine p_iload k1_4 rfl ?_
  refine p_cU4i k1_6 hr c_0_7 rfl rfl rfl rfl (Nat.le_of_ble_eq_true rfl) (C_deed7_7 S hr hv s ap ea tl) (fun x1 m1 hq => ?_)
  obtain ⟨rfl, rfl⟩ := hq
  refine p_aload_n k1_9 rfl ?_
  refine p_getIv k1_10 hr f_0_11_7 hv ?_
  refine p_iadd k1_13 ?_
  refine p_ireturn k1_14 rt_1 ?_
  exact ⟨rfl, rfl⟩

set_option maxRecDepth 100000 in
set_option maxHeartbeats 4000000 in
theorem C_deed18_4 {d : Nat} {I : Nat → Nat → Int32} {J : Nat → Nat → Int64} {K : Nat → Nat → Option Nat} {h : List xSh} (S : St K h) {r : Nat} {v : Int32} (hr : h[r]? = some (.inl 4)) (hv : I r 2 = v) (s ap ea tl : Int32) : EvP (d + 3) 18 0 [(0, .ref (r)), (1, .int (s)), (2, .int (ap)), (3, .int (ea)), (4, .int (tl))] [] (I, J, K, h) (QI (fun x t => x = dC 4 s ap ea tl v ∧ t = (I, J, K, h))) := by
  refine p_iload_n k18_0 rfl ?_
  refine p_if_ne (tgt := 16) k18_1 (by decide) (fun cq1 => ?_) (fun cq1 => ?_)
  · skip
    refine p_iconst (v := nI 0) k18_16 (by decide) ?_
    refine p_ireturn k18_17 rt_18 ?_
    first | exact ⟨(if_pos cq1).symm, rfl⟩ | exact ⟨(if_neg cq1).symm, rfl⟩
  · skip
    refine p_aload_n k18_4 rfl ?_
    refine p_iload_n k18_5 rfl ?_
    refine p_iload_n k18_6 rfl ?_
    refine p_iload_n k18_7 rfl ?_
    refine p_iload k18_8 rfl ?_
    refine p_cU4i k18_10 hr c_4_7 rfl rfl rfl rfl (Nat.le_of_ble_eq_true rfl) (C_deed26_4 S hr hv s ap ea tl) (fun x1 m1 hq => ?_)
    obtain ⟨rfl, rfl⟩ := hq
    refine p_goto (tgt := 17) k18_13 (by decide) ?_
    refine p_ireturn k18_17 rt_18 ?_
    first | exact ⟨(if_pos cq1).symm, rfl⟩ | exact ⟨(if_neg cq1).symm, rfl⟩

set_option maxRecDepth 100000 in
set_option maxHeartbeats 4000000 in
theorem C_deed4_1 {d : Nat} {I : Nat → Nat → Int32} {J : Nat → Nat → Int64} {K : Nat → Nat → Option Nat} {h : List xSh} (S : St K h) {r : Nat} {v : Int32} (hr : h[r]? = some (.inl 1)) (hv : I r 2 = v) (s ap ea tl : Int32) : EvP (d + 3) 4 0 [(0, .ref (r)), (1, .int (s)), (2, .int (ap)), (3, .int (ea)), (4, .int (tl))] [] (I, J, K, h) (QI (fun x t => x = dC 1 s ap ea tl v ∧ t = (I, J, K, h))) := by
  refine p_iconst (v := nI 0) k4_0 (by decide) ?_
  refine p_aload_n k4_1 rfl ?_
  refine p_iload_n k4_2 rfl ?_
  refine p_iload_n k4_3 rfl ?_
  refine p_iload_n k4_4 rfl ?_
  refine p_iload k4_5 rfl ?_
  refine p_cU4i k4_7 hr c_1_7 rfl rfl rfl rfl (Nat.le_of_ble_eq_true rfl) (C_deed52_1 S hr hv s ap ea tl) (fun x1 m1 hq => ?_)
  obtain ⟨rfl, rfl⟩ := hq
  refine p_aload_n k4_10 rfl ?_
  refine p_getIv k4_11 hr f_1_11_1 hv ?_
  refine p_isub k4_14 ?_
  refine p_max k4_15 (by decide) (Nat.le_of_ble_eq_true rfl) ?_
  refine p_ireturn k4_18 rt_4 ?_
  exact ⟨rfl, rfl⟩

set_option maxRecDepth 100000 in
set_option maxHeartbeats 4000000 in
theorem C_deed29_7 {d : Nat} {I : Nat → Nat → Int32} {J : Nat → Nat → Int64} {K : Nat → Nat → Option Nat} {h : List xSh} (S : St K h) {r : Nat} {v : Int32} (hr : h[r]? = some (.inl 7)) (hv : I r 2 = v) (s ap ea tl : Int32) : EvP (d + 3) 29 0 [(0, .ref (r)), (1, .int (s)), (2, .int (ap)), (3, .int (ea)), (4, .int (tl))] [] (I, J, K, h) (QI (fun x t => x = dC 7 s ap ea tl v ∧ t = (I, J, K, h))) := by
  refine p_aload_n k29_0 rfl ?_
  refine p_iload_n k29_1 rfl ?_
  refine p_iload_n k29_2 rfl ?_
  refine p_iload_n k29_3 rfl ?_
  refine p_iload k29_4 rfl ?_
  refine p_cU4i k29_6 hr c_7_7 rfl rfl rfl rfl (Nat.le_of_ble_eq_true rfl) (C_deed1_7 S hr hv s ap ea tl) (fun x1 m1 hq => ?_)
  obtain ⟨rfl, rfl⟩ := hq
  refine p_iload k29_9 rfl ?_
  refine p_iadd k29_11 ?_
  refine p_ireturn k29_12 rt_29 ?_
  exact ⟨rfl, rfl⟩

/-- a body is noted, in the class -/
def nc1 (I : Nat → Nat → Int32) (r b : Nat) : Nat → Nat → Int32 := upc (upc I 37 (if r < 20 then upc (I 37) r (nI b) else I 37)) 36 (upc (I 36) 1 (nI (r + 1)))
def ncs (I : Nat → Nat → Int32) (r : Nat) : List Nat → (Nat → Nat → Int32)
  | [] => I
  | b :: L => ncs (nc1 I r b) (r + 1) L
theorem ncs_cons (I : Nat → Nat → Int32) (r b : Nat) (L : List Nat) : ncs I r (b :: L) = ncs (nc1 I r b) (r + 1) L := rfl
theorem ncs_app (L1 L2 : List Nat) : ∀ (I : Nat → Nat → Int32) (r : Nat), ncs (ncs I r L1) (r + L1.length) L2 = ncs I r (L1 ++ L2) := by
  induction L1 with
  | nil => intro I r; rfl
  | cons b L1 ih =>
    intro I r
    show ncs (ncs (nc1 I r b) (r + 1) L1) (r + (L1.length + 1)) L2 = ncs (nc1 I r b) (r + 1) (L1 ++ L2)
    rw [← ih (nc1 I r b) (r + 1), show r + 1 + L1.length = r + (L1.length + 1) by omega]
theorem nc1_at (I : Nat → Nat → Int32) (r b c : Nat) (h1 : c ≠ 36) (h2 : c ≠ 37) : nc1 I r b c = I c := by
  unfold nc1
  rw [upc_ne _ _ h1, upc_ne _ _ h2]
theorem ncs_at (L : List Nat) : ∀ (I : Nat → Nat → Int32) (r c : Nat), c ≠ 36 → c ≠ 37 → ncs I r L c = I c := by
  induction L with
  | nil => intro I r c _ _; rfl
  | cons b L ih =>
    intro I r c h1 h2
    show ncs (nc1 I r b) (r + 1) L c = I c
    rw [ih _ _ _ h1 h2, nc1_at _ _ _ _ h1 h2]
theorem ncs_36 (L : List Nat) : ∀ (I : Nat → Nat → Int32) (r : Nat), I 36 1 = nI r → ncs I r L 36 1 = nI (r + L.length) := by
  induction L with
  | nil => intro I r h; exact h
  | cons b L ih =>
    intro I r h
    show ncs (nc1 I r b) (r + 1) L 36 1 = nI (r + (L.length + 1))
    rw [ih (nc1 I r b) (r + 1) rfl, show r + 1 + L.length = r + (L.length + 1) by omega]
set_option maxRecDepth 100000 in
set_option maxHeartbeats 4000000 in
theorem C_note {d : Nat} {I : Nat → Nat → Int32} {J : Nat → Nat → Int64} {K : Nat → Nat → Option Nat} {h : List xSh} (S : St K h) {r b : Nat} (hr : I 36 1 = nI r) (hr9 : r < 100) : EvP d 50 0 [(0, .ref (36)), (1, .int (nI (b)))] [] (I, J, K, h) (QV (fun t => t = (nc1 I r b, J, K, h))) := by
  refine p_aload_n k50_0 rfl ?_
  refine p_getIv k50_1 (s_36 S) f_9_15_9 hr ?_
  refine p_bipush (v := nI 20) k50_4 (by decide) ?_
  refine p_icmp_geN (tgt := 19) k50_6 (by decide) (by omega) (by omega) (fun cq6 => ?_) (fun cq6 => ?_)
  · skip
    refine p_aload_n k50_19 rfl ?_
    refine p_dup k50_20 rfl ?_
    refine p_getIv k50_21 (s_36 S) f_9_15_9 hr ?_
    refine p_iconst (v := nI 1) k50_24 (by decide) ?_
    refine p_iaddN k50_25 ?_
    refine p_putIv k50_26 (s_36 S) g_9_15_9 n_50_9_1 ?_
    refine p_return k50_29 rt_50 ?_
    show _ = _
    unfold nc1
    first | (rw [if_pos (by omega)]; rfl) | (rw [if_neg (by omega)]; first | (rw [upc_self]; done) | (rw [upc_self]))
  · skip
    refine p_aload_n k50_9 rfl ?_
    refine p_getRv k50_10 (s_36 S) f_9_9_9 (r_36_0 S) ?_
    refine p_aload_n k50_13 rfl ?_
    refine p_getIv k50_14 (s_36 S) f_9_15_9 hr ?_
    refine p_iload_n k50_17 rfl ?_
    refine p_iastN k50_18 (s_37 S) (by omega) (by decide) ?_
    refine p_aload_n k50_19 rfl ?_
    refine p_dup k50_20 rfl ?_
    refine p_getIv k50_21 (s_36 S) f_9_15_9 hr ?_
    refine p_iconst (v := nI 1) k50_24 (by decide) ?_
    refine p_iaddN k50_25 ?_
    refine p_putIv k50_26 (s_36 S) g_9_15_9 n_50_9_1 ?_
    refine p_return k50_29 rt_50 ?_
    show _ = _
    unfold nc1
    first | (rw [if_pos (by omega)]; rfl) | (rw [if_neg (by omega)]; first | (rw [upc_self]; done) | (rw [upc_self]))

/-- what the bodies of the class's acts come to, by the method and the class of the hat -/
def a8 (i : Nat) (x : Int32) : Int32 × List Nat := (x + nI i, [10])
def a53 (i : Nat) (x : Int32) : Int32 × List Nat := ((a8 i (x * nI 3)).1, 30 :: (a8 i (x * nI 3)).2)
def a19 (i : Nat) (x : Int32) : Int32 × List Nat := (-(a8 i x).1, 50 :: (a8 i x).2)
def a31 (i : Nat) (v x : Int32) : Int32 × List Nat := ((a8 i x).1 ^^^ v, 71 :: (a8 i x).2)
def aS (ci i : Nat) (v x : Int32) : Int32 × List Nat := match ci with
  | 10 => a53 i x
  | 1 => a53 i x
  | 4 => a19 i x
  | 7 => a31 i v x
  | _ => a8 i x
def a9 (ci i : Nat) (v x : Int32) : Int32 × List Nat := ((aS ci i v x).1 - v, 11 :: (aS ci i v x).2)
def a27 (ci i : Nat) (v x : Int32) : Int32 × List Nat := ((a9 ci i v x).1 ^^^ nI 6, 20 :: (a9 ci i v x).2)
def a20 (ci i : Nat) (v x : Int32) : Int32 × List Nat := ((a27 ci i v (x + nI 1)).1, 51 :: (a27 ci i v (x + nI 1)).2)
def a30 (ci i : Nat) (v x : Int32) : Int32 × List Nat := ((a9 ci i v x).1 + (a8 i (nI 2)).1, 70 :: ((a9 ci i v x).2 ++ (a8 i (nI 2)).2))
def aD (ci i : Nat) (v x : Int32) : Int32 × List Nat := match ci with
  | 6 => a27 6 i v x
  | 4 => a20 4 i v x
  | 7 => a30 7 i v x
  | _ => a9 ci i v x
def a10 (ci i : Nat) (v x : Int32) : Int32 × List Nat := ((aD ci i v x).1 * nI 2, 12 :: (aD ci i v x).2)
def a2 (ci i : Nat) (v x : Int32) : Int32 × List Nat := ((a10 ci i v x).1 + (aD ci i v (nI 1)).1, 40 :: ((a10 ci i v x).2 ++ (aD ci i v (nI 1)).2))
def a5 (ci i : Nat) (v x : Int32) : Int32 × List Nat := ((a10 ci i v (x - nI i)).1, 60 :: (a10 ci i v (x - nI i)).2)
def aT (ci i : Nat) (v x : Int32) : Int32 × List Nat := match ci with
  | 0 => a2 0 i v x
  | 7 => a2 7 i v x
  | 1 => a5 1 i v x
  | _ => a10 ci i v x
set_option maxRecDepth 100000 in
set_option maxHeartbeats 4000000 in
theorem C_act8_0 {d : Nat} {I : Nat → Nat → Int32} {J : Nat → Nat → Int64} {K : Nat → Nat → Option Nat} {h : List xSh} (S : St K h) {q r i : Nat} {v : Int32} (hr : h[q]? = some (.inl 0)) (hr5 : K q 5 = some 36) (hi : I q 1 = nI i) (hv : I q 2 = v) (hr0 : I 36 1 = nI r) (hr9 : r < 60) (hq6 : q ≠ 36) (hq7 : q ≠ 37) (x : Int32) : EvP (d + 1) 8 0 [(0, .ref (q)), (1, .int (x))] [] (I, J, K, h) (QI (fun z t => z = (a8 i x).1 ∧ t = (ncs I r (a8 i x).2, J, K, h))) := by
  refine p_aload_n k8_0 rfl ?_
  refine p_getRv k8_1 hr f_2_25_0 hr5 ?_
  refine p_bipush (v := nI 10) k8_4 (by decide) ?_
  refine p_cV1v k8_6 (s_36 S) c_2_35_9 rfl (Nat.le_of_ble_eq_true rfl) (C_note S (I := I) (r := r) (b := 10) hr0 (by omega)) (fun m1 hq => ?_)
  obtain rfl := hq
  refine p_iload_n k8_9 rfl ?_
  refine p_aload_n k8_10 rfl ?_
  refine p_getIv k8_11 hr f_2_13_0 (show _ = nI i from (congrFun (nc1_at _ _ _ _ hq6 hq7) 1).trans hi) ?_
  refine p_iadd k8_14 ?_
  refine p_ireturn k8_15 rt_8 ?_
  exact ⟨rfl, rfl⟩

set_option maxRecDepth 100000 in
set_option maxHeartbeats 4000000 in
theorem C_act8_1 {d : Nat} {I : Nat → Nat → Int32} {J : Nat → Nat → Int64} {K : Nat → Nat → Option Nat} {h : List xSh} (S : St K h) {q r i : Nat} {v : Int32} (hr : h[q]? = some (.inl 1)) (hr5 : K q 5 = some 36) (hi : I q 1 = nI i) (hv : I q 2 = v) (hr0 : I 36 1 = nI r) (hr9 : r < 60) (hq6 : q ≠ 36) (hq7 : q ≠ 37) (x : Int32) : EvP (d + 1) 8 0 [(0, .ref (q)), (1, .int (x))] [] (I, J, K, h) (QI (fun z t => z = (a8 i x).1 ∧ t = (ncs I r (a8 i x).2, J, K, h))) := by
  refine p_aload_n k8_0 rfl ?_
  refine p_getRv k8_1 hr f_2_25_1 hr5 ?_
  refine p_bipush (v := nI 10) k8_4 (by decide) ?_
  refine p_cV1v k8_6 (s_36 S) c_2_35_9 rfl (Nat.le_of_ble_eq_true rfl) (C_note S (I := I) (r := r) (b := 10) hr0 (by omega)) (fun m1 hq => ?_)
  obtain rfl := hq
  refine p_iload_n k8_9 rfl ?_
  refine p_aload_n k8_10 rfl ?_
  refine p_getIv k8_11 hr f_2_13_1 (show _ = nI i from (congrFun (nc1_at _ _ _ _ hq6 hq7) 1).trans hi) ?_
  refine p_iadd k8_14 ?_
  refine p_ireturn k8_15 rt_8 ?_
  exact ⟨rfl, rfl⟩

set_option maxRecDepth 100000 in
set_option maxHeartbeats 4000000 in
theorem C_act8_2 {d : Nat} {I : Nat → Nat → Int32} {J : Nat → Nat → Int64} {K : Nat → Nat → Option Nat} {h : List xSh} (S : St K h) {q r i : Nat} {v : Int32} (hr : h[q]? = some (.inl 2)) (hr5 : K q 5 = some 36) (hi : I q 1 = nI i) (hv : I q 2 = v) (hr0 : I 36 1 = nI r) (hr9 : r < 60) (hq6 : q ≠ 36) (hq7 : q ≠ 37) (x : Int32) : EvP (d + 1) 8 0 [(0, .ref (q)), (1, .int (x))] [] (I, J, K, h) (QI (fun z t => z = (a8 i x).1 ∧ t = (ncs I r (a8 i x).2, J, K, h))) := by
  refine p_aload_n k8_0 rfl ?_
  refine p_getRv k8_1 hr f_2_25_2 hr5 ?_
  refine p_bipush (v := nI 10) k8_4 (by decide) ?_
  refine p_cV1v k8_6 (s_36 S) c_2_35_9 rfl (Nat.le_of_ble_eq_true rfl) (C_note S (I := I) (r := r) (b := 10) hr0 (by omega)) (fun m1 hq => ?_)
  obtain rfl := hq
  refine p_iload_n k8_9 rfl ?_
  refine p_aload_n k8_10 rfl ?_
  refine p_getIv k8_11 hr f_2_13_2 (show _ = nI i from (congrFun (nc1_at _ _ _ _ hq6 hq7) 1).trans hi) ?_
  refine p_iadd k8_14 ?_
  refine p_ireturn k8_15 rt_8 ?_
  exact ⟨rfl, rfl⟩

set_option maxRecDepth 100000 in
set_option maxHeartbeats 4000000 in
theorem C_act8_4 {d : Nat} {I : Nat → Nat → Int32} {J : Nat → Nat → Int64} {K : Nat → Nat → Option Nat} {h : List xSh} (S : St K h) {q r i : Nat} {v : Int32} (hr : h[q]? = some (.inl 4)) (hr5 : K q 5 = some 36) (hi : I q 1 = nI i) (hv : I q 2 = v) (hr0 : I 36 1 = nI r) (hr9 : r < 60) (hq6 : q ≠ 36) (hq7 : q ≠ 37) (x : Int32) : EvP (d + 1) 8 0 [(0, .ref (q)), (1, .int (x))] [] (I, J, K, h) (QI (fun z t => z = (a8 i x).1 ∧ t = (ncs I r (a8 i x).2, J, K, h))) := by
  refine p_aload_n k8_0 rfl ?_
  refine p_getRv k8_1 hr f_2_25_4 hr5 ?_
  refine p_bipush (v := nI 10) k8_4 (by decide) ?_
  refine p_cV1v k8_6 (s_36 S) c_2_35_9 rfl (Nat.le_of_ble_eq_true rfl) (C_note S (I := I) (r := r) (b := 10) hr0 (by omega)) (fun m1 hq => ?_)
  obtain rfl := hq
  refine p_iload_n k8_9 rfl ?_
  refine p_aload_n k8_10 rfl ?_
  refine p_getIv k8_11 hr f_2_13_4 (show _ = nI i from (congrFun (nc1_at _ _ _ _ hq6 hq7) 1).trans hi) ?_
  refine p_iadd k8_14 ?_
  refine p_ireturn k8_15 rt_8 ?_
  exact ⟨rfl, rfl⟩

set_option maxRecDepth 100000 in
set_option maxHeartbeats 4000000 in
theorem C_act8_6 {d : Nat} {I : Nat → Nat → Int32} {J : Nat → Nat → Int64} {K : Nat → Nat → Option Nat} {h : List xSh} (S : St K h) {q r i : Nat} {v : Int32} (hr : h[q]? = some (.inl 6)) (hr5 : K q 5 = some 36) (hi : I q 1 = nI i) (hv : I q 2 = v) (hr0 : I 36 1 = nI r) (hr9 : r < 60) (hq6 : q ≠ 36) (hq7 : q ≠ 37) (x : Int32) : EvP (d + 1) 8 0 [(0, .ref (q)), (1, .int (x))] [] (I, J, K, h) (QI (fun z t => z = (a8 i x).1 ∧ t = (ncs I r (a8 i x).2, J, K, h))) := by
  refine p_aload_n k8_0 rfl ?_
  refine p_getRv k8_1 hr f_2_25_6 hr5 ?_
  refine p_bipush (v := nI 10) k8_4 (by decide) ?_
  refine p_cV1v k8_6 (s_36 S) c_2_35_9 rfl (Nat.le_of_ble_eq_true rfl) (C_note S (I := I) (r := r) (b := 10) hr0 (by omega)) (fun m1 hq => ?_)
  obtain rfl := hq
  refine p_iload_n k8_9 rfl ?_
  refine p_aload_n k8_10 rfl ?_
  refine p_getIv k8_11 hr f_2_13_6 (show _ = nI i from (congrFun (nc1_at _ _ _ _ hq6 hq7) 1).trans hi) ?_
  refine p_iadd k8_14 ?_
  refine p_ireturn k8_15 rt_8 ?_
  exact ⟨rfl, rfl⟩

set_option maxRecDepth 100000 in
set_option maxHeartbeats 4000000 in
theorem C_act8_7 {d : Nat} {I : Nat → Nat → Int32} {J : Nat → Nat → Int64} {K : Nat → Nat → Option Nat} {h : List xSh} (S : St K h) {q r i : Nat} {v : Int32} (hr : h[q]? = some (.inl 7)) (hr5 : K q 5 = some 36) (hi : I q 1 = nI i) (hv : I q 2 = v) (hr0 : I 36 1 = nI r) (hr9 : r < 60) (hq6 : q ≠ 36) (hq7 : q ≠ 37) (x : Int32) : EvP (d + 1) 8 0 [(0, .ref (q)), (1, .int (x))] [] (I, J, K, h) (QI (fun z t => z = (a8 i x).1 ∧ t = (ncs I r (a8 i x).2, J, K, h))) := by
  refine p_aload_n k8_0 rfl ?_
  refine p_getRv k8_1 hr f_2_25_7 hr5 ?_
  refine p_bipush (v := nI 10) k8_4 (by decide) ?_
  refine p_cV1v k8_6 (s_36 S) c_2_35_9 rfl (Nat.le_of_ble_eq_true rfl) (C_note S (I := I) (r := r) (b := 10) hr0 (by omega)) (fun m1 hq => ?_)
  obtain rfl := hq
  refine p_iload_n k8_9 rfl ?_
  refine p_aload_n k8_10 rfl ?_
  refine p_getIv k8_11 hr f_2_13_7 (show _ = nI i from (congrFun (nc1_at _ _ _ _ hq6 hq7) 1).trans hi) ?_
  refine p_iadd k8_14 ?_
  refine p_ireturn k8_15 rt_8 ?_
  exact ⟨rfl, rfl⟩

set_option maxRecDepth 100000 in
set_option maxHeartbeats 4000000 in
theorem C_act8_10 {d : Nat} {I : Nat → Nat → Int32} {J : Nat → Nat → Int64} {K : Nat → Nat → Option Nat} {h : List xSh} (S : St K h) {q r i : Nat} {v : Int32} (hr : h[q]? = some (.inl 10)) (hr5 : K q 5 = some 36) (hi : I q 1 = nI i) (hv : I q 2 = v) (hr0 : I 36 1 = nI r) (hr9 : r < 60) (hq6 : q ≠ 36) (hq7 : q ≠ 37) (x : Int32) : EvP (d + 1) 8 0 [(0, .ref (q)), (1, .int (x))] [] (I, J, K, h) (QI (fun z t => z = (a8 i x).1 ∧ t = (ncs I r (a8 i x).2, J, K, h))) := by
  refine p_aload_n k8_0 rfl ?_
  refine p_getRv k8_1 hr f_2_25_10 hr5 ?_
  refine p_bipush (v := nI 10) k8_4 (by decide) ?_
  refine p_cV1v k8_6 (s_36 S) c_2_35_9 rfl (Nat.le_of_ble_eq_true rfl) (C_note S (I := I) (r := r) (b := 10) hr0 (by omega)) (fun m1 hq => ?_)
  obtain rfl := hq
  refine p_iload_n k8_9 rfl ?_
  refine p_aload_n k8_10 rfl ?_
  refine p_getIv k8_11 hr f_2_13_10 (show _ = nI i from (congrFun (nc1_at _ _ _ _ hq6 hq7) 1).trans hi) ?_
  refine p_iadd k8_14 ?_
  refine p_ireturn k8_15 rt_8 ?_
  exact ⟨rfl, rfl⟩

set_option maxRecDepth 100000 in
set_option maxHeartbeats 4000000 in
theorem C_act53_10 {d : Nat} {I : Nat → Nat → Int32} {J : Nat → Nat → Int64} {K : Nat → Nat → Option Nat} {h : List xSh} (S : St K h) {q r i : Nat} {v : Int32} (hr : h[q]? = some (.inl 10)) (hr5 : K q 5 = some 36) (hi : I q 1 = nI i) (hv : I q 2 = v) (hr0 : I 36 1 = nI r) (hr9 : r < 58) (hq6 : q ≠ 36) (hq7 : q ≠ 37) (x : Int32) : EvP (d + 2) 53 0 [(0, .ref (q)), (1, .int (x))] [] (I, J, K, h) (QI (fun z t => z = (a53 i x).1 ∧ t = (ncs I r (a53 i x).2, J, K, h))) := by
  refine p_aload_n k53_0 rfl ?_
  refine p_getRv k53_1 hr f_10_17_10 hr5 ?_
  refine p_bipush (v := nI 30) k53_4 (by decide) ?_
  refine p_cV1v k53_6 (s_36 S) c_10_23_9 rfl (Nat.le_of_ble_eq_true rfl) (C_note S (I := I) (r := r) (b := 30) hr0 (by omega)) (fun m1 hq => ?_)
  obtain rfl := hq
  refine p_aload_n k53_9 rfl ?_
  refine p_iload_n k53_10 rfl ?_
  refine p_iconst (v := nI 3) k53_11 (by decide) ?_
  refine p_imul k53_12 ?_
  refine p_cU1i k53_13 hr c_10_29 rfl (Nat.le_of_ble_eq_true rfl) (C_act8_10 S (q := q) (i := i) (v := v) (I := (nc1 I (r) 30)) (r := r + 1) hr hr5 ((congrFun (nc1_at _ _ _ _ hq6 hq7) 1).trans hi) ((congrFun (nc1_at _ _ _ _ hq6 hq7) 2).trans hv) rfl (by omega) hq6 hq7 _) (fun x1 m1 hq => ?_)
  obtain ⟨rfl, rfl⟩ := hq
  refine p_ireturn k53_16 rt_53 ?_
  exact ⟨rfl, rfl⟩

set_option maxRecDepth 100000 in
set_option maxHeartbeats 4000000 in
theorem C_act53_1 {d : Nat} {I : Nat → Nat → Int32} {J : Nat → Nat → Int64} {K : Nat → Nat → Option Nat} {h : List xSh} (S : St K h) {q r i : Nat} {v : Int32} (hr : h[q]? = some (.inl 1)) (hr5 : K q 5 = some 36) (hi : I q 1 = nI i) (hv : I q 2 = v) (hr0 : I 36 1 = nI r) (hr9 : r < 58) (hq6 : q ≠ 36) (hq7 : q ≠ 37) (x : Int32) : EvP (d + 2) 53 0 [(0, .ref (q)), (1, .int (x))] [] (I, J, K, h) (QI (fun z t => z = (a53 i x).1 ∧ t = (ncs I r (a53 i x).2, J, K, h))) := by
  refine p_aload_n k53_0 rfl ?_
  refine p_getRv k53_1 hr f_10_17_1 hr5 ?_
  refine p_bipush (v := nI 30) k53_4 (by decide) ?_
  refine p_cV1v k53_6 (s_36 S) c_10_23_9 rfl (Nat.le_of_ble_eq_true rfl) (C_note S (I := I) (r := r) (b := 30) hr0 (by omega)) (fun m1 hq => ?_)
  obtain rfl := hq
  refine p_aload_n k53_9 rfl ?_
  refine p_iload_n k53_10 rfl ?_
  refine p_iconst (v := nI 3) k53_11 (by decide) ?_
  refine p_imul k53_12 ?_
  refine p_cU1i k53_13 hr c_10_29 rfl (Nat.le_of_ble_eq_true rfl) (C_act8_1 S (q := q) (i := i) (v := v) (I := (nc1 I (r) 30)) (r := r + 1) hr hr5 ((congrFun (nc1_at _ _ _ _ hq6 hq7) 1).trans hi) ((congrFun (nc1_at _ _ _ _ hq6 hq7) 2).trans hv) rfl (by omega) hq6 hq7 _) (fun x1 m1 hq => ?_)
  obtain ⟨rfl, rfl⟩ := hq
  refine p_ireturn k53_16 rt_53 ?_
  exact ⟨rfl, rfl⟩

set_option maxRecDepth 100000 in
set_option maxHeartbeats 4000000 in
theorem C_act19_4 {d : Nat} {I : Nat → Nat → Int32} {J : Nat → Nat → Int64} {K : Nat → Nat → Option Nat} {h : List xSh} (S : St K h) {q r i : Nat} {v : Int32} (hr : h[q]? = some (.inl 4)) (hr5 : K q 5 = some 36) (hi : I q 1 = nI i) (hv : I q 2 = v) (hr0 : I 36 1 = nI r) (hr9 : r < 58) (hq6 : q ≠ 36) (hq7 : q ≠ 37) (x : Int32) : EvP (d + 2) 19 0 [(0, .ref (q)), (1, .int (x))] [] (I, J, K, h) (QI (fun z t => z = (a19 i x).1 ∧ t = (ncs I r (a19 i x).2, J, K, h))) := by
  refine p_aload_n k19_0 rfl ?_
  refine p_getRv k19_1 hr f_4_11_4 hr5 ?_
  refine p_bipush (v := nI 50) k19_4 (by decide) ?_
  refine p_cV1v k19_6 (s_36 S) c_4_17_9 rfl (Nat.le_of_ble_eq_true rfl) (C_note S (I := I) (r := r) (b := 50) hr0 (by omega)) (fun m1 hq => ?_)
  obtain rfl := hq
  refine p_aload_n k19_9 rfl ?_
  refine p_iload_n k19_10 rfl ?_
  refine p_cU1i k19_11 hr c_4_23 rfl (Nat.le_of_ble_eq_true rfl) (C_act8_4 S (q := q) (i := i) (v := v) (I := (nc1 I (r) 50)) (r := r + 1) hr hr5 ((congrFun (nc1_at _ _ _ _ hq6 hq7) 1).trans hi) ((congrFun (nc1_at _ _ _ _ hq6 hq7) 2).trans hv) rfl (by omega) hq6 hq7 _) (fun x1 m1 hq => ?_)
  obtain ⟨rfl, rfl⟩ := hq
  refine p_ineg k19_14 ?_
  refine p_ireturn k19_15 rt_19 ?_
  exact ⟨rfl, rfl⟩

set_option maxRecDepth 100000 in
set_option maxHeartbeats 4000000 in
theorem C_act31_7 {d : Nat} {I : Nat → Nat → Int32} {J : Nat → Nat → Int64} {K : Nat → Nat → Option Nat} {h : List xSh} (S : St K h) {q r i : Nat} {v : Int32} (hr : h[q]? = some (.inl 7)) (hr5 : K q 5 = some 36) (hi : I q 1 = nI i) (hv : I q 2 = v) (hr0 : I 36 1 = nI r) (hr9 : r < 58) (hq6 : q ≠ 36) (hq7 : q ≠ 37) (x : Int32) : EvP (d + 2) 31 0 [(0, .ref (q)), (1, .int (x))] [] (I, J, K, h) (QI (fun z t => z = (a31 i v x).1 ∧ t = (ncs I r (a31 i v x).2, J, K, h))) := by
  refine p_aload_n k31_0 rfl ?_
  refine p_getRv k31_1 hr f_7_11_7 hr5 ?_
  refine p_bipush (v := nI 71) k31_4 (by decide) ?_
  refine p_cV1v k31_6 (s_36 S) c_7_17_9 rfl (Nat.le_of_ble_eq_true rfl) (C_note S (I := I) (r := r) (b := 71) hr0 (by omega)) (fun m1 hq => ?_)
  obtain rfl := hq
  refine p_aload_n k31_9 rfl ?_
  refine p_iload_n k31_10 rfl ?_
  refine p_cU1i k31_11 hr c_7_27 rfl (Nat.le_of_ble_eq_true rfl) (C_act8_7 S (q := q) (i := i) (v := v) (I := (nc1 I (r) 71)) (r := r + 1) hr hr5 ((congrFun (nc1_at _ _ _ _ hq6 hq7) 1).trans hi) ((congrFun (nc1_at _ _ _ _ hq6 hq7) 2).trans hv) rfl (by omega) hq6 hq7 _) (fun x1 m1 hq => ?_)
  obtain ⟨rfl, rfl⟩ := hq
  refine p_aload_n k31_14 rfl ?_
  refine p_getIv k31_15 hr f_7_30_7 (show _ = v from (congrFun (ncs_at _ _ _ _ hq6 hq7) 2).trans ((congrFun (nc1_at _ _ _ _ hq6 hq7) 2).trans hv)) ?_
  refine p_ixor k31_18 ?_
  refine p_ireturn k31_19 rt_31 ?_
  exact ⟨rfl, rfl⟩

set_option maxRecDepth 100000 in
set_option maxHeartbeats 4000000 in
theorem C_act9_0 {d : Nat} {I : Nat → Nat → Int32} {J : Nat → Nat → Int64} {K : Nat → Nat → Option Nat} {h : List xSh} (S : St K h) {q r i : Nat} {v : Int32} (hr : h[q]? = some (.inl 0)) (hr5 : K q 5 = some 36) (hi : I q 1 = nI i) (hv : I q 2 = v) (hr0 : I 36 1 = nI r) (hr9 : r < 55) (hq6 : q ≠ 36) (hq7 : q ≠ 37) (x : Int32) : EvP (d + 3) 9 0 [(0, .ref (q)), (1, .int (x))] [] (I, J, K, h) (QI (fun z t => z = (a9 0 i v x).1 ∧ t = (ncs I r (a9 0 i v x).2, J, K, h))) := by
  refine p_aload_n k9_0 rfl ?_
  refine p_getRv k9_1 hr f_2_25_0 hr5 ?_
  refine p_bipush (v := nI 11) k9_4 (by decide) ?_
  refine p_cV1v k9_6 (s_36 S) c_2_35_9 rfl (Nat.le_of_ble_eq_true rfl) (C_note S (I := I) (r := r) (b := 11) hr0 (by omega)) (fun m1 hq => ?_)
  obtain rfl := hq
  refine p_aload_n k9_9 rfl ?_
  refine p_iload_n k9_10 rfl ?_
  refine p_cV1i k9_11 hr c_2_41_0 rfl (Nat.le_of_ble_eq_true rfl) (C_act8_0 S (q := q) (i := i) (v := v) (I := (nc1 I (r) 11)) (r := r + 1) hr hr5 ((congrFun (nc1_at _ _ _ _ hq6 hq7) 1).trans hi) ((congrFun (nc1_at _ _ _ _ hq6 hq7) 2).trans hv) rfl (by omega) hq6 hq7 _) (fun x1 m1 hq => ?_)
  obtain ⟨rfl, rfl⟩ := hq
  refine p_aload_n k9_14 rfl ?_
  refine p_getIv k9_15 hr f_2_16_0 (show _ = v from (congrFun (ncs_at _ _ _ _ hq6 hq7) 2).trans ((congrFun (nc1_at _ _ _ _ hq6 hq7) 2).trans hv)) ?_
  refine p_isub k9_18 ?_
  refine p_ireturn k9_19 rt_9 ?_
  exact ⟨rfl, rfl⟩

set_option maxRecDepth 100000 in
set_option maxHeartbeats 4000000 in
theorem C_act9_1 {d : Nat} {I : Nat → Nat → Int32} {J : Nat → Nat → Int64} {K : Nat → Nat → Option Nat} {h : List xSh} (S : St K h) {q r i : Nat} {v : Int32} (hr : h[q]? = some (.inl 1)) (hr5 : K q 5 = some 36) (hi : I q 1 = nI i) (hv : I q 2 = v) (hr0 : I 36 1 = nI r) (hr9 : r < 55) (hq6 : q ≠ 36) (hq7 : q ≠ 37) (x : Int32) : EvP (d + 3) 9 0 [(0, .ref (q)), (1, .int (x))] [] (I, J, K, h) (QI (fun z t => z = (a9 1 i v x).1 ∧ t = (ncs I r (a9 1 i v x).2, J, K, h))) := by
  refine p_aload_n k9_0 rfl ?_
  refine p_getRv k9_1 hr f_2_25_1 hr5 ?_
  refine p_bipush (v := nI 11) k9_4 (by decide) ?_
  refine p_cV1v k9_6 (s_36 S) c_2_35_9 rfl (Nat.le_of_ble_eq_true rfl) (C_note S (I := I) (r := r) (b := 11) hr0 (by omega)) (fun m1 hq => ?_)
  obtain rfl := hq
  refine p_aload_n k9_9 rfl ?_
  refine p_iload_n k9_10 rfl ?_
  refine p_cV1i k9_11 hr c_2_41_1 rfl (Nat.le_of_ble_eq_true rfl) (C_act53_1 S (q := q) (i := i) (v := v) (I := (nc1 I (r) 11)) (r := r + 1) hr hr5 ((congrFun (nc1_at _ _ _ _ hq6 hq7) 1).trans hi) ((congrFun (nc1_at _ _ _ _ hq6 hq7) 2).trans hv) rfl (by omega) hq6 hq7 _) (fun x1 m1 hq => ?_)
  obtain ⟨rfl, rfl⟩ := hq
  refine p_aload_n k9_14 rfl ?_
  refine p_getIv k9_15 hr f_2_16_1 (show _ = v from (congrFun (ncs_at _ _ _ _ hq6 hq7) 2).trans ((congrFun (nc1_at _ _ _ _ hq6 hq7) 2).trans hv)) ?_
  refine p_isub k9_18 ?_
  refine p_ireturn k9_19 rt_9 ?_
  exact ⟨rfl, rfl⟩

set_option maxRecDepth 100000 in
set_option maxHeartbeats 4000000 in
theorem C_act9_2 {d : Nat} {I : Nat → Nat → Int32} {J : Nat → Nat → Int64} {K : Nat → Nat → Option Nat} {h : List xSh} (S : St K h) {q r i : Nat} {v : Int32} (hr : h[q]? = some (.inl 2)) (hr5 : K q 5 = some 36) (hi : I q 1 = nI i) (hv : I q 2 = v) (hr0 : I 36 1 = nI r) (hr9 : r < 55) (hq6 : q ≠ 36) (hq7 : q ≠ 37) (x : Int32) : EvP (d + 3) 9 0 [(0, .ref (q)), (1, .int (x))] [] (I, J, K, h) (QI (fun z t => z = (a9 2 i v x).1 ∧ t = (ncs I r (a9 2 i v x).2, J, K, h))) := by
  refine p_aload_n k9_0 rfl ?_
  refine p_getRv k9_1 hr f_2_25_2 hr5 ?_
  refine p_bipush (v := nI 11) k9_4 (by decide) ?_
  refine p_cV1v k9_6 (s_36 S) c_2_35_9 rfl (Nat.le_of_ble_eq_true rfl) (C_note S (I := I) (r := r) (b := 11) hr0 (by omega)) (fun m1 hq => ?_)
  obtain rfl := hq
  refine p_aload_n k9_9 rfl ?_
  refine p_iload_n k9_10 rfl ?_
  refine p_cV1i k9_11 hr c_2_41_2 rfl (Nat.le_of_ble_eq_true rfl) (C_act8_2 S (q := q) (i := i) (v := v) (I := (nc1 I (r) 11)) (r := r + 1) hr hr5 ((congrFun (nc1_at _ _ _ _ hq6 hq7) 1).trans hi) ((congrFun (nc1_at _ _ _ _ hq6 hq7) 2).trans hv) rfl (by omega) hq6 hq7 _) (fun x1 m1 hq => ?_)
  obtain ⟨rfl, rfl⟩ := hq
  refine p_aload_n k9_14 rfl ?_
  refine p_getIv k9_15 hr f_2_16_2 (show _ = v from (congrFun (ncs_at _ _ _ _ hq6 hq7) 2).trans ((congrFun (nc1_at _ _ _ _ hq6 hq7) 2).trans hv)) ?_
  refine p_isub k9_18 ?_
  refine p_ireturn k9_19 rt_9 ?_
  exact ⟨rfl, rfl⟩

set_option maxRecDepth 100000 in
set_option maxHeartbeats 4000000 in
theorem C_act9_4 {d : Nat} {I : Nat → Nat → Int32} {J : Nat → Nat → Int64} {K : Nat → Nat → Option Nat} {h : List xSh} (S : St K h) {q r i : Nat} {v : Int32} (hr : h[q]? = some (.inl 4)) (hr5 : K q 5 = some 36) (hi : I q 1 = nI i) (hv : I q 2 = v) (hr0 : I 36 1 = nI r) (hr9 : r < 55) (hq6 : q ≠ 36) (hq7 : q ≠ 37) (x : Int32) : EvP (d + 3) 9 0 [(0, .ref (q)), (1, .int (x))] [] (I, J, K, h) (QI (fun z t => z = (a9 4 i v x).1 ∧ t = (ncs I r (a9 4 i v x).2, J, K, h))) := by
  refine p_aload_n k9_0 rfl ?_
  refine p_getRv k9_1 hr f_2_25_4 hr5 ?_
  refine p_bipush (v := nI 11) k9_4 (by decide) ?_
  refine p_cV1v k9_6 (s_36 S) c_2_35_9 rfl (Nat.le_of_ble_eq_true rfl) (C_note S (I := I) (r := r) (b := 11) hr0 (by omega)) (fun m1 hq => ?_)
  obtain rfl := hq
  refine p_aload_n k9_9 rfl ?_
  refine p_iload_n k9_10 rfl ?_
  refine p_cV1i k9_11 hr c_2_41_4 rfl (Nat.le_of_ble_eq_true rfl) (C_act19_4 S (q := q) (i := i) (v := v) (I := (nc1 I (r) 11)) (r := r + 1) hr hr5 ((congrFun (nc1_at _ _ _ _ hq6 hq7) 1).trans hi) ((congrFun (nc1_at _ _ _ _ hq6 hq7) 2).trans hv) rfl (by omega) hq6 hq7 _) (fun x1 m1 hq => ?_)
  obtain ⟨rfl, rfl⟩ := hq
  refine p_aload_n k9_14 rfl ?_
  refine p_getIv k9_15 hr f_2_16_4 (show _ = v from (congrFun (ncs_at _ _ _ _ hq6 hq7) 2).trans ((congrFun (nc1_at _ _ _ _ hq6 hq7) 2).trans hv)) ?_
  refine p_isub k9_18 ?_
  refine p_ireturn k9_19 rt_9 ?_
  exact ⟨rfl, rfl⟩

set_option maxRecDepth 100000 in
set_option maxHeartbeats 4000000 in
theorem C_act9_6 {d : Nat} {I : Nat → Nat → Int32} {J : Nat → Nat → Int64} {K : Nat → Nat → Option Nat} {h : List xSh} (S : St K h) {q r i : Nat} {v : Int32} (hr : h[q]? = some (.inl 6)) (hr5 : K q 5 = some 36) (hi : I q 1 = nI i) (hv : I q 2 = v) (hr0 : I 36 1 = nI r) (hr9 : r < 55) (hq6 : q ≠ 36) (hq7 : q ≠ 37) (x : Int32) : EvP (d + 3) 9 0 [(0, .ref (q)), (1, .int (x))] [] (I, J, K, h) (QI (fun z t => z = (a9 6 i v x).1 ∧ t = (ncs I r (a9 6 i v x).2, J, K, h))) := by
  refine p_aload_n k9_0 rfl ?_
  refine p_getRv k9_1 hr f_2_25_6 hr5 ?_
  refine p_bipush (v := nI 11) k9_4 (by decide) ?_
  refine p_cV1v k9_6 (s_36 S) c_2_35_9 rfl (Nat.le_of_ble_eq_true rfl) (C_note S (I := I) (r := r) (b := 11) hr0 (by omega)) (fun m1 hq => ?_)
  obtain rfl := hq
  refine p_aload_n k9_9 rfl ?_
  refine p_iload_n k9_10 rfl ?_
  refine p_cV1i k9_11 hr c_2_41_6 rfl (Nat.le_of_ble_eq_true rfl) (C_act8_6 S (q := q) (i := i) (v := v) (I := (nc1 I (r) 11)) (r := r + 1) hr hr5 ((congrFun (nc1_at _ _ _ _ hq6 hq7) 1).trans hi) ((congrFun (nc1_at _ _ _ _ hq6 hq7) 2).trans hv) rfl (by omega) hq6 hq7 _) (fun x1 m1 hq => ?_)
  obtain ⟨rfl, rfl⟩ := hq
  refine p_aload_n k9_14 rfl ?_
  refine p_getIv k9_15 hr f_2_16_6 (show _ = v from (congrFun (ncs_at _ _ _ _ hq6 hq7) 2).trans ((congrFun (nc1_at _ _ _ _ hq6 hq7) 2).trans hv)) ?_
  refine p_isub k9_18 ?_
  refine p_ireturn k9_19 rt_9 ?_
  exact ⟨rfl, rfl⟩

set_option maxRecDepth 100000 in
set_option maxHeartbeats 4000000 in
theorem C_act9_7 {d : Nat} {I : Nat → Nat → Int32} {J : Nat → Nat → Int64} {K : Nat → Nat → Option Nat} {h : List xSh} (S : St K h) {q r i : Nat} {v : Int32} (hr : h[q]? = some (.inl 7)) (hr5 : K q 5 = some 36) (hi : I q 1 = nI i) (hv : I q 2 = v) (hr0 : I 36 1 = nI r) (hr9 : r < 55) (hq6 : q ≠ 36) (hq7 : q ≠ 37) (x : Int32) : EvP (d + 3) 9 0 [(0, .ref (q)), (1, .int (x))] [] (I, J, K, h) (QI (fun z t => z = (a9 7 i v x).1 ∧ t = (ncs I r (a9 7 i v x).2, J, K, h))) := by
  refine p_aload_n k9_0 rfl ?_
  refine p_getRv k9_1 hr f_2_25_7 hr5 ?_
  refine p_bipush (v := nI 11) k9_4 (by decide) ?_
  refine p_cV1v k9_6 (s_36 S) c_2_35_9 rfl (Nat.le_of_ble_eq_true rfl) (C_note S (I := I) (r := r) (b := 11) hr0 (by omega)) (fun m1 hq => ?_)
  obtain rfl := hq
  refine p_aload_n k9_9 rfl ?_
  refine p_iload_n k9_10 rfl ?_
  refine p_cV1i k9_11 hr c_2_41_7 rfl (Nat.le_of_ble_eq_true rfl) (C_act31_7 S (q := q) (i := i) (v := v) (I := (nc1 I (r) 11)) (r := r + 1) hr hr5 ((congrFun (nc1_at _ _ _ _ hq6 hq7) 1).trans hi) ((congrFun (nc1_at _ _ _ _ hq6 hq7) 2).trans hv) rfl (by omega) hq6 hq7 _) (fun x1 m1 hq => ?_)
  obtain ⟨rfl, rfl⟩ := hq
  refine p_aload_n k9_14 rfl ?_
  refine p_getIv k9_15 hr f_2_16_7 (show _ = v from (congrFun (ncs_at _ _ _ _ hq6 hq7) 2).trans ((congrFun (nc1_at _ _ _ _ hq6 hq7) 2).trans hv)) ?_
  refine p_isub k9_18 ?_
  refine p_ireturn k9_19 rt_9 ?_
  exact ⟨rfl, rfl⟩

set_option maxRecDepth 100000 in
set_option maxHeartbeats 4000000 in
theorem C_act9_10 {d : Nat} {I : Nat → Nat → Int32} {J : Nat → Nat → Int64} {K : Nat → Nat → Option Nat} {h : List xSh} (S : St K h) {q r i : Nat} {v : Int32} (hr : h[q]? = some (.inl 10)) (hr5 : K q 5 = some 36) (hi : I q 1 = nI i) (hv : I q 2 = v) (hr0 : I 36 1 = nI r) (hr9 : r < 55) (hq6 : q ≠ 36) (hq7 : q ≠ 37) (x : Int32) : EvP (d + 3) 9 0 [(0, .ref (q)), (1, .int (x))] [] (I, J, K, h) (QI (fun z t => z = (a9 10 i v x).1 ∧ t = (ncs I r (a9 10 i v x).2, J, K, h))) := by
  refine p_aload_n k9_0 rfl ?_
  refine p_getRv k9_1 hr f_2_25_10 hr5 ?_
  refine p_bipush (v := nI 11) k9_4 (by decide) ?_
  refine p_cV1v k9_6 (s_36 S) c_2_35_9 rfl (Nat.le_of_ble_eq_true rfl) (C_note S (I := I) (r := r) (b := 11) hr0 (by omega)) (fun m1 hq => ?_)
  obtain rfl := hq
  refine p_aload_n k9_9 rfl ?_
  refine p_iload_n k9_10 rfl ?_
  refine p_cV1i k9_11 hr c_2_41_10 rfl (Nat.le_of_ble_eq_true rfl) (C_act53_10 S (q := q) (i := i) (v := v) (I := (nc1 I (r) 11)) (r := r + 1) hr hr5 ((congrFun (nc1_at _ _ _ _ hq6 hq7) 1).trans hi) ((congrFun (nc1_at _ _ _ _ hq6 hq7) 2).trans hv) rfl (by omega) hq6 hq7 _) (fun x1 m1 hq => ?_)
  obtain ⟨rfl, rfl⟩ := hq
  refine p_aload_n k9_14 rfl ?_
  refine p_getIv k9_15 hr f_2_16_10 (show _ = v from (congrFun (ncs_at _ _ _ _ hq6 hq7) 2).trans ((congrFun (nc1_at _ _ _ _ hq6 hq7) 2).trans hv)) ?_
  refine p_isub k9_18 ?_
  refine p_ireturn k9_19 rt_9 ?_
  exact ⟨rfl, rfl⟩

set_option maxRecDepth 100000 in
set_option maxHeartbeats 4000000 in
theorem C_act27_6 {d : Nat} {I : Nat → Nat → Int32} {J : Nat → Nat → Int64} {K : Nat → Nat → Option Nat} {h : List xSh} (S : St K h) {q r i : Nat} {v : Int32} (hr : h[q]? = some (.inl 6)) (hr5 : K q 5 = some 36) (hi : I q 1 = nI i) (hv : I q 2 = v) (hr0 : I 36 1 = nI r) (hr9 : r < 52) (hq6 : q ≠ 36) (hq7 : q ≠ 37) (x : Int32) : EvP (d + 4) 27 0 [(0, .ref (q)), (1, .int (x))] [] (I, J, K, h) (QI (fun z t => z = (a27 6 i v x).1 ∧ t = (ncs I r (a27 6 i v x).2, J, K, h))) := by
  refine p_aload_n k27_0 rfl ?_
  refine p_getRv k27_1 hr f_6_17_6 hr5 ?_
  refine p_bipush (v := nI 20) k27_4 (by decide) ?_
  refine p_cV1v k27_6 (s_36 S) c_6_23_9 rfl (Nat.le_of_ble_eq_true rfl) (C_note S (I := I) (r := r) (b := 20) hr0 (by omega)) (fun m1 hq => ?_)
  obtain rfl := hq
  refine p_aload_n k27_9 rfl ?_
  refine p_iload_n k27_10 rfl ?_
  refine p_cU1i k27_11 hr c_6_29 rfl (Nat.le_of_ble_eq_true rfl) (C_act9_6 S (q := q) (i := i) (v := v) (I := (nc1 I (r) 20)) (r := r + 1) hr hr5 ((congrFun (nc1_at _ _ _ _ hq6 hq7) 1).trans hi) ((congrFun (nc1_at _ _ _ _ hq6 hq7) 2).trans hv) rfl (by omega) hq6 hq7 _) (fun x1 m1 hq => ?_)
  obtain ⟨rfl, rfl⟩ := hq
  refine p_bipush (v := nI 6) k27_14 (by decide) ?_
  refine p_ixor k27_16 ?_
  refine p_ireturn k27_17 rt_27 ?_
  exact ⟨rfl, rfl⟩

set_option maxRecDepth 100000 in
set_option maxHeartbeats 4000000 in
theorem C_act27_4 {d : Nat} {I : Nat → Nat → Int32} {J : Nat → Nat → Int64} {K : Nat → Nat → Option Nat} {h : List xSh} (S : St K h) {q r i : Nat} {v : Int32} (hr : h[q]? = some (.inl 4)) (hr5 : K q 5 = some 36) (hi : I q 1 = nI i) (hv : I q 2 = v) (hr0 : I 36 1 = nI r) (hr9 : r < 52) (hq6 : q ≠ 36) (hq7 : q ≠ 37) (x : Int32) : EvP (d + 4) 27 0 [(0, .ref (q)), (1, .int (x))] [] (I, J, K, h) (QI (fun z t => z = (a27 4 i v x).1 ∧ t = (ncs I r (a27 4 i v x).2, J, K, h))) := by
  refine p_aload_n k27_0 rfl ?_
  refine p_getRv k27_1 hr f_6_17_4 hr5 ?_
  refine p_bipush (v := nI 20) k27_4 (by decide) ?_
  refine p_cV1v k27_6 (s_36 S) c_6_23_9 rfl (Nat.le_of_ble_eq_true rfl) (C_note S (I := I) (r := r) (b := 20) hr0 (by omega)) (fun m1 hq => ?_)
  obtain rfl := hq
  refine p_aload_n k27_9 rfl ?_
  refine p_iload_n k27_10 rfl ?_
  refine p_cU1i k27_11 hr c_6_29 rfl (Nat.le_of_ble_eq_true rfl) (C_act9_4 S (q := q) (i := i) (v := v) (I := (nc1 I (r) 20)) (r := r + 1) hr hr5 ((congrFun (nc1_at _ _ _ _ hq6 hq7) 1).trans hi) ((congrFun (nc1_at _ _ _ _ hq6 hq7) 2).trans hv) rfl (by omega) hq6 hq7 _) (fun x1 m1 hq => ?_)
  obtain ⟨rfl, rfl⟩ := hq
  refine p_bipush (v := nI 6) k27_14 (by decide) ?_
  refine p_ixor k27_16 ?_
  refine p_ireturn k27_17 rt_27 ?_
  exact ⟨rfl, rfl⟩

set_option maxRecDepth 100000 in
set_option maxHeartbeats 4000000 in
theorem C_act20_4 {d : Nat} {I : Nat → Nat → Int32} {J : Nat → Nat → Int64} {K : Nat → Nat → Option Nat} {h : List xSh} (S : St K h) {q r i : Nat} {v : Int32} (hr : h[q]? = some (.inl 4)) (hr5 : K q 5 = some 36) (hi : I q 1 = nI i) (hv : I q 2 = v) (hr0 : I 36 1 = nI r) (hr9 : r < 50) (hq6 : q ≠ 36) (hq7 : q ≠ 37) (x : Int32) : EvP (d + 5) 20 0 [(0, .ref (q)), (1, .int (x))] [] (I, J, K, h) (QI (fun z t => z = (a20 4 i v x).1 ∧ t = (ncs I r (a20 4 i v x).2, J, K, h))) := by
  refine p_aload_n k20_0 rfl ?_
  refine p_getRv k20_1 hr f_4_11_4 hr5 ?_
  refine p_bipush (v := nI 51) k20_4 (by decide) ?_
  refine p_cV1v k20_6 (s_36 S) c_4_17_9 rfl (Nat.le_of_ble_eq_true rfl) (C_note S (I := I) (r := r) (b := 51) hr0 (by omega)) (fun m1 hq => ?_)
  obtain rfl := hq
  refine p_aload_n k20_9 rfl ?_
  refine p_iload_n k20_10 rfl ?_
  refine p_iconst (v := nI 1) k20_11 (by decide) ?_
  refine p_iadd k20_12 ?_
  refine p_cU1i k20_13 hr c_4_27 rfl (Nat.le_of_ble_eq_true rfl) (C_act27_4 S (q := q) (i := i) (v := v) (I := (nc1 I (r) 51)) (r := r + 1) hr hr5 ((congrFun (nc1_at _ _ _ _ hq6 hq7) 1).trans hi) ((congrFun (nc1_at _ _ _ _ hq6 hq7) 2).trans hv) rfl (by omega) hq6 hq7 _) (fun x1 m1 hq => ?_)
  obtain ⟨rfl, rfl⟩ := hq
  refine p_ireturn k20_16 rt_20 ?_
  exact ⟨rfl, rfl⟩

set_option maxRecDepth 100000 in
set_option maxHeartbeats 4000000 in
theorem C_act30_7 {d : Nat} {I : Nat → Nat → Int32} {J : Nat → Nat → Int64} {K : Nat → Nat → Option Nat} {h : List xSh} (S : St K h) {q r i : Nat} {v : Int32} (hr : h[q]? = some (.inl 7)) (hr5 : K q 5 = some 36) (hi : I q 1 = nI i) (hv : I q 2 = v) (hr0 : I 36 1 = nI r) (hr9 : r < 45) (hq6 : q ≠ 36) (hq7 : q ≠ 37) (x : Int32) : EvP (d + 4) 30 0 [(0, .ref (q)), (1, .int (x))] [] (I, J, K, h) (QI (fun z t => z = (a30 7 i v x).1 ∧ t = (ncs I r (a30 7 i v x).2, J, K, h))) := by
  refine p_aload_n k30_0 rfl ?_
  refine p_getRv k30_1 hr f_7_11_7 hr5 ?_
  refine p_bipush (v := nI 70) k30_4 (by decide) ?_
  refine p_cV1v k30_6 (s_36 S) c_7_17_9 rfl (Nat.le_of_ble_eq_true rfl) (C_note S (I := I) (r := r) (b := 70) hr0 (by omega)) (fun m1 hq => ?_)
  obtain rfl := hq
  refine p_aload_n k30_9 rfl ?_
  refine p_iload_n k30_10 rfl ?_
  refine p_cU1i k30_11 hr c_7_23 rfl (Nat.le_of_ble_eq_true rfl) (C_act9_7 S (q := q) (i := i) (v := v) (I := (nc1 I (r) 70)) (r := r + 1) hr hr5 ((congrFun (nc1_at _ _ _ _ hq6 hq7) 1).trans hi) ((congrFun (nc1_at _ _ _ _ hq6 hq7) 2).trans hv) rfl (by omega) hq6 hq7 _) (fun x1 m1 hq => ?_)
  obtain ⟨rfl, rfl⟩ := hq
  refine p_aload_n k30_14 rfl ?_
  refine p_iconst (v := nI 2) k30_15 (by decide) ?_
  refine p_cU1i k30_16 hr c_7_27 rfl (Nat.le_of_ble_eq_true rfl) (C_act8_7 S (q := q) (i := i) (v := v) (I := (ncs (nc1 I r 70) (r + 1) (a9 7 i v x).2)) (r := r + 1 + (a9 7 i v x).2.length) hr hr5 ((congrFun (ncs_at _ _ _ _ hq6 hq7) 1).trans ((congrFun (nc1_at _ _ _ _ hq6 hq7) 1).trans hi)) ((congrFun (ncs_at _ _ _ _ hq6 hq7) 2).trans ((congrFun (nc1_at _ _ _ _ hq6 hq7) 2).trans hv)) (ncs_36 _ _ _ rfl) (by show r + 1 + 3 < 60; omega) hq6 hq7 (nI (2))) (fun x1 m1 hq => ?_)
  obtain ⟨rfl, rfl⟩ := hq
  refine p_iadd k30_19 ?_
  refine p_ireturn k30_20 rt_30 ?_
  refine ⟨rfl, ?_⟩
  rw [ncs_app, show (a30 7 i v x).2 = 70 :: ((a9 7 i v x).2 ++ (a8 i (nI 2)).2) from rfl, ncs_cons]

set_option maxRecDepth 100000 in
set_option maxHeartbeats 4000000 in
theorem C_act10_0 {d : Nat} {I : Nat → Nat → Int32} {J : Nat → Nat → Int64} {K : Nat → Nat → Option Nat} {h : List xSh} (S : St K h) {q r i : Nat} {v : Int32} (hr : h[q]? = some (.inl 0)) (hr5 : K q 5 = some 36) (hi : I q 1 = nI i) (hv : I q 2 = v) (hr0 : I 36 1 = nI r) (hr9 : r < 40) (hq6 : q ≠ 36) (hq7 : q ≠ 37) (x : Int32) : EvP (d + 6) 10 0 [(0, .ref (q)), (1, .int (x))] [] (I, J, K, h) (QI (fun z t => z = (a10 0 i v x).1 ∧ t = (ncs I r (a10 0 i v x).2, J, K, h))) := by
  refine p_aload_n k10_0 rfl ?_
  refine p_getRv k10_1 hr f_2_25_0 hr5 ?_
  refine p_bipush (v := nI 12) k10_4 (by decide) ?_
  refine p_cV1v k10_6 (s_36 S) c_2_35_9 rfl (Nat.le_of_ble_eq_true rfl) (C_note S (I := I) (r := r) (b := 12) hr0 (by omega)) (fun m1 hq => ?_)
  obtain rfl := hq
  refine p_aload_n k10_9 rfl ?_
  refine p_iload_n k10_10 rfl ?_
  refine p_cV1i k10_11 hr c_2_45_0 rfl (Nat.le_of_ble_eq_true rfl) (C_act9_0 S (q := q) (i := i) (v := v) (I := (nc1 I (r) 12)) (r := r + 1) hr hr5 ((congrFun (nc1_at _ _ _ _ hq6 hq7) 1).trans hi) ((congrFun (nc1_at _ _ _ _ hq6 hq7) 2).trans hv) rfl (by omega) hq6 hq7 _) (fun x1 m1 hq => ?_)
  obtain ⟨rfl, rfl⟩ := hq
  refine p_iconst (v := nI 2) k10_14 (by decide) ?_
  refine p_imul k10_15 ?_
  refine p_ireturn k10_16 rt_10 ?_
  exact ⟨rfl, rfl⟩

set_option maxRecDepth 100000 in
set_option maxHeartbeats 4000000 in
theorem C_act10_1 {d : Nat} {I : Nat → Nat → Int32} {J : Nat → Nat → Int64} {K : Nat → Nat → Option Nat} {h : List xSh} (S : St K h) {q r i : Nat} {v : Int32} (hr : h[q]? = some (.inl 1)) (hr5 : K q 5 = some 36) (hi : I q 1 = nI i) (hv : I q 2 = v) (hr0 : I 36 1 = nI r) (hr9 : r < 40) (hq6 : q ≠ 36) (hq7 : q ≠ 37) (x : Int32) : EvP (d + 6) 10 0 [(0, .ref (q)), (1, .int (x))] [] (I, J, K, h) (QI (fun z t => z = (a10 1 i v x).1 ∧ t = (ncs I r (a10 1 i v x).2, J, K, h))) := by
  refine p_aload_n k10_0 rfl ?_
  refine p_getRv k10_1 hr f_2_25_1 hr5 ?_
  refine p_bipush (v := nI 12) k10_4 (by decide) ?_
  refine p_cV1v k10_6 (s_36 S) c_2_35_9 rfl (Nat.le_of_ble_eq_true rfl) (C_note S (I := I) (r := r) (b := 12) hr0 (by omega)) (fun m1 hq => ?_)
  obtain rfl := hq
  refine p_aload_n k10_9 rfl ?_
  refine p_iload_n k10_10 rfl ?_
  refine p_cV1i k10_11 hr c_2_45_1 rfl (Nat.le_of_ble_eq_true rfl) (C_act9_1 S (q := q) (i := i) (v := v) (I := (nc1 I (r) 12)) (r := r + 1) hr hr5 ((congrFun (nc1_at _ _ _ _ hq6 hq7) 1).trans hi) ((congrFun (nc1_at _ _ _ _ hq6 hq7) 2).trans hv) rfl (by omega) hq6 hq7 _) (fun x1 m1 hq => ?_)
  obtain ⟨rfl, rfl⟩ := hq
  refine p_iconst (v := nI 2) k10_14 (by decide) ?_
  refine p_imul k10_15 ?_
  refine p_ireturn k10_16 rt_10 ?_
  exact ⟨rfl, rfl⟩

set_option maxRecDepth 100000 in
set_option maxHeartbeats 4000000 in
theorem C_act10_2 {d : Nat} {I : Nat → Nat → Int32} {J : Nat → Nat → Int64} {K : Nat → Nat → Option Nat} {h : List xSh} (S : St K h) {q r i : Nat} {v : Int32} (hr : h[q]? = some (.inl 2)) (hr5 : K q 5 = some 36) (hi : I q 1 = nI i) (hv : I q 2 = v) (hr0 : I 36 1 = nI r) (hr9 : r < 40) (hq6 : q ≠ 36) (hq7 : q ≠ 37) (x : Int32) : EvP (d + 6) 10 0 [(0, .ref (q)), (1, .int (x))] [] (I, J, K, h) (QI (fun z t => z = (a10 2 i v x).1 ∧ t = (ncs I r (a10 2 i v x).2, J, K, h))) := by
  refine p_aload_n k10_0 rfl ?_
  refine p_getRv k10_1 hr f_2_25_2 hr5 ?_
  refine p_bipush (v := nI 12) k10_4 (by decide) ?_
  refine p_cV1v k10_6 (s_36 S) c_2_35_9 rfl (Nat.le_of_ble_eq_true rfl) (C_note S (I := I) (r := r) (b := 12) hr0 (by omega)) (fun m1 hq => ?_)
  obtain rfl := hq
  refine p_aload_n k10_9 rfl ?_
  refine p_iload_n k10_10 rfl ?_
  refine p_cV1i k10_11 hr c_2_45_2 rfl (Nat.le_of_ble_eq_true rfl) (C_act9_2 S (q := q) (i := i) (v := v) (I := (nc1 I (r) 12)) (r := r + 1) hr hr5 ((congrFun (nc1_at _ _ _ _ hq6 hq7) 1).trans hi) ((congrFun (nc1_at _ _ _ _ hq6 hq7) 2).trans hv) rfl (by omega) hq6 hq7 _) (fun x1 m1 hq => ?_)
  obtain ⟨rfl, rfl⟩ := hq
  refine p_iconst (v := nI 2) k10_14 (by decide) ?_
  refine p_imul k10_15 ?_
  refine p_ireturn k10_16 rt_10 ?_
  exact ⟨rfl, rfl⟩

set_option maxRecDepth 100000 in
set_option maxHeartbeats 4000000 in
theorem C_act10_4 {d : Nat} {I : Nat → Nat → Int32} {J : Nat → Nat → Int64} {K : Nat → Nat → Option Nat} {h : List xSh} (S : St K h) {q r i : Nat} {v : Int32} (hr : h[q]? = some (.inl 4)) (hr5 : K q 5 = some 36) (hi : I q 1 = nI i) (hv : I q 2 = v) (hr0 : I 36 1 = nI r) (hr9 : r < 40) (hq6 : q ≠ 36) (hq7 : q ≠ 37) (x : Int32) : EvP (d + 6) 10 0 [(0, .ref (q)), (1, .int (x))] [] (I, J, K, h) (QI (fun z t => z = (a10 4 i v x).1 ∧ t = (ncs I r (a10 4 i v x).2, J, K, h))) := by
  refine p_aload_n k10_0 rfl ?_
  refine p_getRv k10_1 hr f_2_25_4 hr5 ?_
  refine p_bipush (v := nI 12) k10_4 (by decide) ?_
  refine p_cV1v k10_6 (s_36 S) c_2_35_9 rfl (Nat.le_of_ble_eq_true rfl) (C_note S (I := I) (r := r) (b := 12) hr0 (by omega)) (fun m1 hq => ?_)
  obtain rfl := hq
  refine p_aload_n k10_9 rfl ?_
  refine p_iload_n k10_10 rfl ?_
  refine p_cV1i k10_11 hr c_2_45_4 rfl (Nat.le_of_ble_eq_true rfl) (C_act20_4 S (q := q) (i := i) (v := v) (I := (nc1 I (r) 12)) (r := r + 1) hr hr5 ((congrFun (nc1_at _ _ _ _ hq6 hq7) 1).trans hi) ((congrFun (nc1_at _ _ _ _ hq6 hq7) 2).trans hv) rfl (by omega) hq6 hq7 _) (fun x1 m1 hq => ?_)
  obtain ⟨rfl, rfl⟩ := hq
  refine p_iconst (v := nI 2) k10_14 (by decide) ?_
  refine p_imul k10_15 ?_
  refine p_ireturn k10_16 rt_10 ?_
  exact ⟨rfl, rfl⟩

set_option maxRecDepth 100000 in
set_option maxHeartbeats 4000000 in
theorem C_act10_6 {d : Nat} {I : Nat → Nat → Int32} {J : Nat → Nat → Int64} {K : Nat → Nat → Option Nat} {h : List xSh} (S : St K h) {q r i : Nat} {v : Int32} (hr : h[q]? = some (.inl 6)) (hr5 : K q 5 = some 36) (hi : I q 1 = nI i) (hv : I q 2 = v) (hr0 : I 36 1 = nI r) (hr9 : r < 40) (hq6 : q ≠ 36) (hq7 : q ≠ 37) (x : Int32) : EvP (d + 6) 10 0 [(0, .ref (q)), (1, .int (x))] [] (I, J, K, h) (QI (fun z t => z = (a10 6 i v x).1 ∧ t = (ncs I r (a10 6 i v x).2, J, K, h))) := by
  refine p_aload_n k10_0 rfl ?_
  refine p_getRv k10_1 hr f_2_25_6 hr5 ?_
  refine p_bipush (v := nI 12) k10_4 (by decide) ?_
  refine p_cV1v k10_6 (s_36 S) c_2_35_9 rfl (Nat.le_of_ble_eq_true rfl) (C_note S (I := I) (r := r) (b := 12) hr0 (by omega)) (fun m1 hq => ?_)
  obtain rfl := hq
  refine p_aload_n k10_9 rfl ?_
  refine p_iload_n k10_10 rfl ?_
  refine p_cV1i k10_11 hr c_2_45_6 rfl (Nat.le_of_ble_eq_true rfl) (C_act27_6 S (q := q) (i := i) (v := v) (I := (nc1 I (r) 12)) (r := r + 1) hr hr5 ((congrFun (nc1_at _ _ _ _ hq6 hq7) 1).trans hi) ((congrFun (nc1_at _ _ _ _ hq6 hq7) 2).trans hv) rfl (by omega) hq6 hq7 _) (fun x1 m1 hq => ?_)
  obtain ⟨rfl, rfl⟩ := hq
  refine p_iconst (v := nI 2) k10_14 (by decide) ?_
  refine p_imul k10_15 ?_
  refine p_ireturn k10_16 rt_10 ?_
  exact ⟨rfl, rfl⟩

set_option maxRecDepth 100000 in
set_option maxHeartbeats 4000000 in
theorem C_act10_7 {d : Nat} {I : Nat → Nat → Int32} {J : Nat → Nat → Int64} {K : Nat → Nat → Option Nat} {h : List xSh} (S : St K h) {q r i : Nat} {v : Int32} (hr : h[q]? = some (.inl 7)) (hr5 : K q 5 = some 36) (hi : I q 1 = nI i) (hv : I q 2 = v) (hr0 : I 36 1 = nI r) (hr9 : r < 40) (hq6 : q ≠ 36) (hq7 : q ≠ 37) (x : Int32) : EvP (d + 6) 10 0 [(0, .ref (q)), (1, .int (x))] [] (I, J, K, h) (QI (fun z t => z = (a10 7 i v x).1 ∧ t = (ncs I r (a10 7 i v x).2, J, K, h))) := by
  refine p_aload_n k10_0 rfl ?_
  refine p_getRv k10_1 hr f_2_25_7 hr5 ?_
  refine p_bipush (v := nI 12) k10_4 (by decide) ?_
  refine p_cV1v k10_6 (s_36 S) c_2_35_9 rfl (Nat.le_of_ble_eq_true rfl) (C_note S (I := I) (r := r) (b := 12) hr0 (by omega)) (fun m1 hq => ?_)
  obtain rfl := hq
  refine p_aload_n k10_9 rfl ?_
  refine p_iload_n k10_10 rfl ?_
  refine p_cV1i k10_11 hr c_2_45_7 rfl (Nat.le_of_ble_eq_true rfl) (C_act30_7 S (q := q) (i := i) (v := v) (I := (nc1 I (r) 12)) (r := r + 1) hr hr5 ((congrFun (nc1_at _ _ _ _ hq6 hq7) 1).trans hi) ((congrFun (nc1_at _ _ _ _ hq6 hq7) 2).trans hv) rfl (by omega) hq6 hq7 _) (fun x1 m1 hq => ?_)
  obtain ⟨rfl, rfl⟩ := hq
  refine p_iconst (v := nI 2) k10_14 (by decide) ?_
  refine p_imul k10_15 ?_
  refine p_ireturn k10_16 rt_10 ?_
  exact ⟨rfl, rfl⟩

set_option maxRecDepth 100000 in
set_option maxHeartbeats 4000000 in
theorem C_act10_10 {d : Nat} {I : Nat → Nat → Int32} {J : Nat → Nat → Int64} {K : Nat → Nat → Option Nat} {h : List xSh} (S : St K h) {q r i : Nat} {v : Int32} (hr : h[q]? = some (.inl 10)) (hr5 : K q 5 = some 36) (hi : I q 1 = nI i) (hv : I q 2 = v) (hr0 : I 36 1 = nI r) (hr9 : r < 40) (hq6 : q ≠ 36) (hq7 : q ≠ 37) (x : Int32) : EvP (d + 6) 10 0 [(0, .ref (q)), (1, .int (x))] [] (I, J, K, h) (QI (fun z t => z = (a10 10 i v x).1 ∧ t = (ncs I r (a10 10 i v x).2, J, K, h))) := by
  refine p_aload_n k10_0 rfl ?_
  refine p_getRv k10_1 hr f_2_25_10 hr5 ?_
  refine p_bipush (v := nI 12) k10_4 (by decide) ?_
  refine p_cV1v k10_6 (s_36 S) c_2_35_9 rfl (Nat.le_of_ble_eq_true rfl) (C_note S (I := I) (r := r) (b := 12) hr0 (by omega)) (fun m1 hq => ?_)
  obtain rfl := hq
  refine p_aload_n k10_9 rfl ?_
  refine p_iload_n k10_10 rfl ?_
  refine p_cV1i k10_11 hr c_2_45_10 rfl (Nat.le_of_ble_eq_true rfl) (C_act9_10 S (q := q) (i := i) (v := v) (I := (nc1 I (r) 12)) (r := r + 1) hr hr5 ((congrFun (nc1_at _ _ _ _ hq6 hq7) 1).trans hi) ((congrFun (nc1_at _ _ _ _ hq6 hq7) 2).trans hv) rfl (by omega) hq6 hq7 _) (fun x1 m1 hq => ?_)
  obtain ⟨rfl, rfl⟩ := hq
  refine p_iconst (v := nI 2) k10_14 (by decide) ?_
  refine p_imul k10_15 ?_
  refine p_ireturn k10_16 rt_10 ?_
  exact ⟨rfl, rfl⟩

set_option maxRecDepth 100000 in
set_option maxHeartbeats 4000000 in
theorem C_act2_0 {d : Nat} {I : Nat → Nat → Int32} {J : Nat → Nat → Int64} {K : Nat → Nat → Option Nat} {h : List xSh} (S : St K h) {q r i : Nat} {v : Int32} (hr : h[q]? = some (.inl 0)) (hr5 : K q 5 = some 36) (hi : I q 1 = nI i) (hv : I q 2 = v) (hr0 : I 36 1 = nI r) (hr9 : r < 25) (hq6 : q ≠ 36) (hq7 : q ≠ 37) (x : Int32) : EvP (d + 7) 2 0 [(0, .ref (q)), (1, .int (x))] [] (I, J, K, h) (QI (fun z t => z = (a2 0 i v x).1 ∧ t = (ncs I r (a2 0 i v x).2, J, K, h))) := by
  refine p_aload_n k2_0 rfl ?_
  refine p_getRv k2_1 hr f_0_17_0 hr5 ?_
  refine p_bipush (v := nI 40) k2_4 (by decide) ?_
  refine p_cV1v k2_6 (s_36 S) c_0_21_9 rfl (Nat.le_of_ble_eq_true rfl) (C_note S (I := I) (r := r) (b := 40) hr0 (by omega)) (fun m1 hq => ?_)
  obtain rfl := hq
  refine p_aload_n k2_9 rfl ?_
  refine p_iload_n k2_10 rfl ?_
  refine p_cU1i k2_11 hr c_0_27 rfl (Nat.le_of_ble_eq_true rfl) (C_act10_0 S (q := q) (i := i) (v := v) (I := (nc1 I (r) 40)) (r := r + 1) hr hr5 ((congrFun (nc1_at _ _ _ _ hq6 hq7) 1).trans hi) ((congrFun (nc1_at _ _ _ _ hq6 hq7) 2).trans hv) rfl (by omega) hq6 hq7 _) (fun x1 m1 hq => ?_)
  obtain ⟨rfl, rfl⟩ := hq
  refine p_aload_n k2_14 rfl ?_
  refine p_iconst (v := nI 1) k2_15 (by decide) ?_
  refine p_cV1i k2_16 hr c_0_31_0 rfl (Nat.le_of_ble_eq_true rfl) (C_act9_0 S (q := q) (i := i) (v := v) (I := (ncs (nc1 I r 40) (r + 1) (a10 0 i v x).2)) (r := r + 1 + (a10 0 i v x).2.length) hr hr5 ((congrFun (ncs_at _ _ _ _ hq6 hq7) 1).trans ((congrFun (nc1_at _ _ _ _ hq6 hq7) 1).trans hi)) ((congrFun (ncs_at _ _ _ _ hq6 hq7) 2).trans ((congrFun (nc1_at _ _ _ _ hq6 hq7) 2).trans hv)) (ncs_36 _ _ _ rfl) (by show r + 1 + 3 < 55; omega) hq6 hq7 (nI (1))) (fun x1 m1 hq => ?_)
  obtain ⟨rfl, rfl⟩ := hq
  refine p_iadd k2_19 ?_
  refine p_ireturn k2_20 rt_2 ?_
  refine ⟨rfl, ?_⟩
  rw [ncs_app, show (a2 0 i v x).2 = 40 :: ((a10 0 i v x).2 ++ (a9 0 i v (nI 1)).2) from rfl, ncs_cons]

set_option maxRecDepth 100000 in
set_option maxHeartbeats 4000000 in
theorem C_act2_7 {d : Nat} {I : Nat → Nat → Int32} {J : Nat → Nat → Int64} {K : Nat → Nat → Option Nat} {h : List xSh} (S : St K h) {q r i : Nat} {v : Int32} (hr : h[q]? = some (.inl 7)) (hr5 : K q 5 = some 36) (hi : I q 1 = nI i) (hv : I q 2 = v) (hr0 : I 36 1 = nI r) (hr9 : r < 25) (hq6 : q ≠ 36) (hq7 : q ≠ 37) (x : Int32) : EvP (d + 7) 2 0 [(0, .ref (q)), (1, .int (x))] [] (I, J, K, h) (QI (fun z t => z = (a2 7 i v x).1 ∧ t = (ncs I r (a2 7 i v x).2, J, K, h))) := by
  refine p_aload_n k2_0 rfl ?_
  refine p_getRv k2_1 hr f_0_17_7 hr5 ?_
  refine p_bipush (v := nI 40) k2_4 (by decide) ?_
  refine p_cV1v k2_6 (s_36 S) c_0_21_9 rfl (Nat.le_of_ble_eq_true rfl) (C_note S (I := I) (r := r) (b := 40) hr0 (by omega)) (fun m1 hq => ?_)
  obtain rfl := hq
  refine p_aload_n k2_9 rfl ?_
  refine p_iload_n k2_10 rfl ?_
  refine p_cU1i k2_11 hr c_0_27 rfl (Nat.le_of_ble_eq_true rfl) (C_act10_7 S (q := q) (i := i) (v := v) (I := (nc1 I (r) 40)) (r := r + 1) hr hr5 ((congrFun (nc1_at _ _ _ _ hq6 hq7) 1).trans hi) ((congrFun (nc1_at _ _ _ _ hq6 hq7) 2).trans hv) rfl (by omega) hq6 hq7 _) (fun x1 m1 hq => ?_)
  obtain ⟨rfl, rfl⟩ := hq
  refine p_aload_n k2_14 rfl ?_
  refine p_iconst (v := nI 1) k2_15 (by decide) ?_
  refine p_cV1i k2_16 hr c_0_31_7 rfl (Nat.le_of_ble_eq_true rfl) (C_act30_7 S (q := q) (i := i) (v := v) (I := (ncs (nc1 I r 40) (r + 1) (a10 7 i v x).2)) (r := r + 1 + (a10 7 i v x).2.length) hr hr5 ((congrFun (ncs_at _ _ _ _ hq6 hq7) 1).trans ((congrFun (nc1_at _ _ _ _ hq6 hq7) 1).trans hi)) ((congrFun (ncs_at _ _ _ _ hq6 hq7) 2).trans ((congrFun (nc1_at _ _ _ _ hq6 hq7) 2).trans hv)) (ncs_36 _ _ _ rfl) (by show r + 1 + 6 < 45; omega) hq6 hq7 (nI (1))) (fun x1 m1 hq => ?_)
  obtain ⟨rfl, rfl⟩ := hq
  refine p_iadd k2_19 ?_
  refine p_ireturn k2_20 rt_2 ?_
  refine ⟨rfl, ?_⟩
  rw [ncs_app, show (a2 7 i v x).2 = 40 :: ((a10 7 i v x).2 ++ (a30 7 i v (nI 1)).2) from rfl, ncs_cons]

set_option maxRecDepth 100000 in
set_option maxHeartbeats 4000000 in
theorem C_act5_1 {d : Nat} {I : Nat → Nat → Int32} {J : Nat → Nat → Int64} {K : Nat → Nat → Option Nat} {h : List xSh} (S : St K h) {q r i : Nat} {v : Int32} (hr : h[q]? = some (.inl 1)) (hr5 : K q 5 = some 36) (hi : I q 1 = nI i) (hv : I q 2 = v) (hr0 : I 36 1 = nI r) (hr9 : r < 35) (hq6 : q ≠ 36) (hq7 : q ≠ 37) (x : Int32) : EvP (d + 7) 5 0 [(0, .ref (q)), (1, .int (x))] [] (I, J, K, h) (QI (fun z t => z = (a5 1 i v x).1 ∧ t = (ncs I r (a5 1 i v x).2, J, K, h))) := by
  refine p_aload_n k5_0 rfl ?_
  refine p_getRv k5_1 hr f_1_23_1 hr5 ?_
  refine p_bipush (v := nI 60) k5_4 (by decide) ?_
  refine p_cV1v k5_6 (s_36 S) c_1_27_9 rfl (Nat.le_of_ble_eq_true rfl) (C_note S (I := I) (r := r) (b := 60) hr0 (by omega)) (fun m1 hq => ?_)
  obtain rfl := hq
  refine p_aload_n k5_9 rfl ?_
  refine p_iload_n k5_10 rfl ?_
  refine p_aload_n k5_11 rfl ?_
  refine p_getIv k5_12 hr f_1_33_1 (show _ = nI i from (congrFun (nc1_at _ _ _ _ hq6 hq7) 1).trans hi) ?_
  refine p_isub k5_15 ?_
  refine p_cU1i k5_16 hr c_1_36 rfl (Nat.le_of_ble_eq_true rfl) (C_act10_1 S (q := q) (i := i) (v := v) (I := (nc1 I (r) 60)) (r := r + 1) hr hr5 ((congrFun (nc1_at _ _ _ _ hq6 hq7) 1).trans hi) ((congrFun (nc1_at _ _ _ _ hq6 hq7) 2).trans hv) rfl (by omega) hq6 hq7 _) (fun x1 m1 hq => ?_)
  obtain ⟨rfl, rfl⟩ := hq
  refine p_ireturn k5_19 rt_5 ?_
  exact ⟨rfl, rfl⟩

