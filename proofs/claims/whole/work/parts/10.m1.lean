set_option maxRecDepth 100000 in
set_option maxHeartbeats 4000000 in
theorem M_in {d : Nat} {I : Nat → Nat → Int32} {J : Nat → Nat → Int64} {K : Nat → Nat → Option Nat} {h : List xSh} (S : St K h) (v lo hi : Int32) : EvP (d + 0) 129 0 [(0, .ref (98)), (1, .int (v)), (2, .int (lo)), (3, .int (hi))] [] (I, J, K, h) (QI (fun x t => x = bI (decide (lo ≤ v ∧ v ≤ hi)) ∧ t = (I, J, K, h))) := by
  refine p_iload_n k129_0 rfl ?_
  refine p_iload_n k129_1 rfl ?_
  refine p_icmp_lt (tgt := 14) k129_2 (by decide) (fun c2 => ?_) (fun c2 => ?_)
  · skip
    refine p_iconst (v := bI false) k129_14 (by decide) ?_
    refine p_returnB k129_15 rt_129 ?_
    exact ⟨by congr 1; simp only [*]; simp, rfl⟩
  · skip
    refine p_iload_n k129_5 rfl ?_
    refine p_iload_n k129_6 rfl ?_
    refine p_icmp_gt (tgt := 14) k129_7 (by decide) (fun c7 => ?_) (fun c7 => ?_)
    · skip
      refine p_iconst (v := bI false) k129_14 (by decide) ?_
      refine p_returnB k129_15 rt_129 ?_
      exact ⟨by congr 1; simp only [*]; simp, rfl⟩
    · skip
      refine p_iconst (v := bI true) k129_10 (by decide) ?_
      refine p_goto (tgt := 15) k129_11 (by decide) ?_
      refine p_returnB k129_15 rt_129 ?_
      exact ⟨by congr 1; simp only [*]; simp, rfl⟩

