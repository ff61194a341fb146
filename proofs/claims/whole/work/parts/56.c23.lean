/-! the class: mostWith -/
theorem ntD_in {R : Nat → Nat → Int32} {cb ce nh na a k : Nat} (ha : a < na) (hk : k < nh) (hna : na ≤ 6) (hnh : nh ≤ 6) : ntD R cb ce nh na (nI a) (nI k) = deedM R cb ce a k := by
  unfold ntD
  rw [ixB_nI (by omega), ixB_nI (by omega), decide_eq_true ha, decide_eq_true hk, if_pos ⟨rfl, rfl⟩, nI_clamp (by omega), nI_clamp (by omega)]
theorem ge_i0 {x : Int32} (h : ¬ x < 0) : 0 ≤ x := Int32.not_lt.mp h
set_option maxRecDepth 100000 in
set_option maxHeartbeats 4000000 in
theorem C_mostWith0 {d : Nat} {I : Nat → Nat → Int32} {J : Nat → Nat → Int64} {K : Nat → Nat → Option Nat} {h : List xSh} (S : St K h) {R0 : Nat → Nat → Int32} {nh na dd cb ce tw : Nat} (C : CR I K h R0 na tw) (M : MI R0 nh na dd cb ce) (Q : AR R0 nh na dd) (g : Nat → Int32) {u w : Nat → Int32} {k s : Nat} (hk : k < 6) (hs : s < 64) : EvP (d + 2) 118 0 [(0, .ref (0)), (1, .int (nI (k))), (2, .int (nI (s))), (3, .int ((-1)))] [] (upc (upc (upc I 41 w) 40 u) 39 g, J, K, h) (QI (fun x t => x = w ((k + 1) * 64 + s) ∧ t = (upc (upc (upc I 41 w) 40 u) 39 g, J, K, h))) := by
  have hnh6 := M.nh6
  have hna6 := M.na6
  refine p_iload_n k118_0 rfl ?_
  refine p_iconst (v := (-1)) k118_1 (by decide) ?_
  refine p_icmp_ne (tgt := 19) k118_2 (by decide) (fun c => False.elim (by exact absurd rfl c)) (fun _ => ?_)
  refine p_aload_n k118_5 rfl ?_
  refine p_getRv k118_6 (s_0 S) f_11_75_11 (r_0_12 S) ?_
  refine p_iload_n k118_9 rfl ?_
  refine p_iconst (v := nI 1) k118_10 (by decide) ?_
  refine p_iaddN k118_11 ?_
  refine p_bipush (v := nI 64) k118_12 (by decide) ?_
  refine p_imulN k118_14 ?_
  refine p_iload_n k118_15 rfl ?_
  refine p_iaddN k118_16 ?_
  refine p_ialdN k118_17 (s_41 S) (by omega) (by decide) rfl ?_
  refine p_ireturn k118_18 rt_118 ?_
  exact ⟨rfl, rfl⟩

set_option maxRecDepth 100000 in
set_option maxHeartbeats 4000000 in
theorem C_mostWith {d : Nat} {I : Nat → Nat → Int32} {J : Nat → Nat → Int64} {K : Nat → Nat → Option Nat} {h : List xSh} (S : St K h) {R0 : Nat → Nat → Int32} {nh na dd cb ce tw : Nat} (C : CR I K h R0 na tw) (M : MI R0 nh na dd cb ce) (Q : AR R0 nh na dd) (g : Nat → Int32) {u w : Nat → Int32} (hu : NTD R0 cb ce nh na u) {k s a : Nat} (hk : k < nh) (hs : s < 64) (ha : a < na) : EvP (d + 2) 118 0 [(0, .ref (0)), (1, .int (nI (k))), (2, .int (nI (s))), (3, .int (nI (a)))] [] (upc (upc (upc I 41 w) 40 u) 39 g, J, K, h) (QI (fun x t => x = (if w ((k + 1) * 64 + (s ||| 2 ^ a)) < 0 then -1 else w ((k + 1) * 64 + (s ||| 2 ^ a)) + deedM R0 cb ce a k) ∧ t = (upc (upc (upc I 41 w) 40 u) 39 g, J, K, h))) := by
  have hnh6 := M.nh6
  have hna6 := M.na6
  refine p_iload_n k118_0 rfl ?_
  refine p_iconst (v := (-1)) k118_1 (by decide) ?_
  refine p_icmp_ne (tgt := 19) k118_2 (by decide) (fun _ => ?_) (fun c => False.elim (by exact absurd c (nI_neg (by omega) (by decide))))
  have ho := or_lt64 hs (show a < 6 by omega)
  refine p_aload_n k118_19 rfl ?_
  refine p_getRv k118_20 (s_0 S) f_11_75_11 (r_0_12 S) ?_
  refine p_iload_n k118_23 rfl ?_
  refine p_iconst (v := nI 1) k118_24 (by decide) ?_
  refine p_iaddN k118_25 ?_
  refine p_bipush (v := nI 64) k118_26 (by decide) ?_
  refine p_imulN k118_28 ?_
  refine p_iload_n k118_29 rfl ?_
  refine p_iconst (v := nI 1) k118_30 (by decide) ?_
  refine p_iload_n k118_31 rfl ?_
  refine p_ishl1 (by omega) k118_32 ?_
  refine p_iorN k118_33 ?_
  refine p_iaddN k118_34 ?_
  refine p_ialdN k118_35 (s_41 S) (by omega) (by decide) rfl ?_
  refine p_istore (ls' := [(0, _), (1, _), (2, _), (3, _), (4, _)]) k118_36 rfl ?_
  refine p_iload k118_38 rfl ?_
  refine p_if_ge (tgt := 47) k118_40 (by decide) (fun cq40 => ?_) (fun cq40 => ?_)
  · skip
    refine p_iload k118_47 rfl ?_
    refine p_aload_n k118_49 rfl ?_
    refine p_iload_n k118_50 rfl ?_
    refine p_iload_n k118_51 rfl ?_
    refine p_cV2i k118_52 (s_0 S) c_11_248_11 rfl rfl (Nat.le_of_ble_eq_true rfl) (C_noted S (C.up (by decide) w) M Q g hu (nI a) (nI k)) (fun x1 m1 hq => ?_)
    obtain ⟨rfl, rfl⟩ := hq
    rw [ntD_in ha hk hna6 hnh6]
    refine p_iadd k118_55 ?_
    refine p_ireturn k118_56 rt_118 ?_
    exact ⟨by first | exact (if_neg (i_ge0 (show 0 ≤ w ((k + 1) * 64 + (s ||| 2 ^ a)) from cq40))).symm | exact (if_pos (i_lt0 (show ¬ 0 ≤ w ((k + 1) * 64 + (s ||| 2 ^ a)) from cq40))).symm, rfl⟩
  · skip
    refine p_iconst (v := (-1)) k118_43 (by decide) ?_
    refine p_goto (tgt := 56) k118_44 (by decide) ?_
    refine p_ireturn k118_56 rt_118 ?_
    exact ⟨by first | exact (if_neg (i_ge0 (show 0 ≤ w ((k + 1) * 64 + (s ||| 2 ^ a)) from cq40))).symm | exact (if_pos (i_lt0 (show ¬ 0 ≤ w ((k + 1) * 64 + (s ||| 2 ^ a)) from cq40))).symm, rfl⟩

