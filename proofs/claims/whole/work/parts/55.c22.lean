/-! bitCount -/
set_option maxRecDepth 100000 in
set_option maxHeartbeats 4000000 in
theorem C_bitCount {d : Nat} {I : Nat → Nat → Int32} {J : Nat → Nat → Int64} {K : Nat → Nat → Option Nat} {h : List xSh} (S : St K h) {s : Nat} (hs : s < 64) : EvP d 234 0 [(0, .int ((nI s)))] [] (I, J, K, h) (QI (fun x t => x = nI (popc s) ∧ t = (I, J, K, h))) := by
  refine p_iload_n k234_0 rfl ?_
  refine p_iload_n k234_1 rfl ?_
  refine p_iconst (v := nI 1) k234_2 (by decide) ?_
  refine p_iushr k234_3 ?_
  refine p_ldcw (v := (1431655765)) k234_4 (by decide) ?_
  refine p_iand k234_7 ?_
  refine p_isub k234_8 ?_
  refine p_istore_n (ls' := [(0, _)]) k234_9 rfl ?_
  refine p_iload_n k234_10 rfl ?_
  refine p_ldcw (v := (858993459)) k234_11 (by decide) ?_
  refine p_iand k234_14 ?_
  refine p_iload_n k234_15 rfl ?_
  refine p_iconst (v := nI 2) k234_16 (by decide) ?_
  refine p_iushr k234_17 ?_
  refine p_ldcw (v := (858993459)) k234_18 (by decide) ?_
  refine p_iand k234_21 ?_
  refine p_iadd k234_22 ?_
  refine p_istore_n (ls' := [(0, _)]) k234_23 rfl ?_
  refine p_iload_n k234_24 rfl ?_
  refine p_iload_n k234_25 rfl ?_
  refine p_iconst (v := nI 4) k234_26 (by decide) ?_
  refine p_iushr k234_27 ?_
  refine p_iadd k234_28 ?_
  refine p_ldcw (v := (252645135)) k234_29 (by decide) ?_
  refine p_iand k234_32 ?_
  refine p_istore_n (ls' := [(0, _)]) k234_33 rfl ?_
  refine p_iload_n k234_34 rfl ?_
  refine p_iload_n k234_35 rfl ?_
  refine p_bipush (v := nI 8) k234_36 (by decide) ?_
  refine p_iushr k234_38 ?_
  refine p_iadd k234_39 ?_
  refine p_istore_n (ls' := [(0, _)]) k234_40 rfl ?_
  refine p_iload_n k234_41 rfl ?_
  refine p_iload_n k234_42 rfl ?_
  refine p_bipush (v := nI 16) k234_43 (by decide) ?_
  refine p_iushr k234_45 ?_
  refine p_iadd k234_46 ?_
  refine p_istore_n (ls' := [(0, _)]) k234_47 rfl ?_
  refine p_iload_n k234_48 rfl ?_
  refine p_bipush (v := nI 63) k234_49 (by decide) ?_
  refine p_iand k234_51 ?_
  refine p_ireturn k234_52 rt_234 ?_
  refine ⟨?_, rfl⟩
  revert s
  decide +kernel

