/-! the reference: trace, count -/
def traceM (I : Nat → Nat → Int32) (v : Int32) : Int32 := if inB v (nI 0) (nI 19) = true then (if I 98 72 ≤ v then -1 else I 148 v.toNatClampNeg) else -1
def countM (I : Nat → Nat → Int32) (w : Int32) : Int32 := if ixB w 7 = true then (match w.toNatClampNeg with
  | 0 => I 98 1
  | 1 => I 98 0
  | 2 => I 98 14
  | 3 => I 98 43
  | 4 => I 98 47
  | 5 => I 98 16
  | _ => I 98 72) else -2
set_option maxRecDepth 100000 in
set_option maxHeartbeats 4000000 in
theorem M_trace {d : Nat} {I : Nat → Nat → Int32} {J : Nat → Nat → Int64} {K : Nat → Nat → Option Nat} {h : List xSh} (S : St K h) (v : Int32) : EvP (d + 1) 224 0 [(0, .ref (98)), (1, .int (v))] [] (I, J, K, h) (QI (fun x t => x = traceM I v ∧ t = (I, J, K, h))) := by
  refine p_aload_n k224_0 rfl ?_
  refine p_iload_n k224_1 rfl ?_
  refine p_iconst (v := nI 0) k224_2 (by decide) ?_
  refine p_bipush (v := nI 19) k224_3 (by decide) ?_
  refine p_cV3i k224_5 (s_98 S) c_12_248_12 rfl rfl rfl (Nat.le_of_ble_eq_true rfl) (M_in S (v) (nI (0)) (nI (19))) (fun x1 m1 hq => ?_)
  obtain ⟨rfl, rfl⟩ := hq
  refine p_if_eqB (tgt := 28) k224_8 (by decide) (fun c8 => ?_) (fun c8 => ?_)
  · skip
    refine p_iconst (v := (-1)) k224_28 (by decide) ?_
    refine p_ireturn k224_29 rt_224 ?_
    exact ⟨by unfold traceM; first | rw [if_pos c8, if_pos c16] | rw [if_pos c8, if_neg c16, hck] | rw [c8, if_neg (by decide)], rfl⟩
  · skip
    obtain ⟨k, hk, rfl⟩ := inB_of (by decide) (by decide) c8
    rw [Nat.zero_add] at *
    have hck := nI_clamp (n := k) (by omega)
    refine p_iload_n k224_11 rfl ?_
    refine p_aload_n k224_12 rfl ?_
    refine p_getIv k224_13 (s_98 S) f_12_229_12 rfl ?_
    refine p_icmp_ge (tgt := 28) k224_16 (by decide) (fun c16 => ?_) (fun c16 => ?_)
    · skip
      refine p_iconst (v := (-1)) k224_28 (by decide) ?_
      refine p_ireturn k224_29 rt_224 ?_
      exact ⟨by unfold traceM; first | rw [if_pos c8, if_pos c16] | rw [if_pos c8, if_neg c16, hck] | rw [c8, if_neg (by decide)], rfl⟩
    · skip
      refine p_aload_n k224_19 rfl ?_
      refine p_getRv k224_20 (s_98 S) f_12_232_12 (r_98_73 S) ?_
      refine p_iload_n k224_23 rfl ?_
      refine p_ialdN k224_24 (s_148 S) (by omega) (by decide) rfl ?_
      refine p_goto (tgt := 29) k224_25 (by decide) ?_
      refine p_ireturn k224_29 rt_224 ?_
      exact ⟨by unfold traceM; first | rw [if_pos c8, if_pos c16] | rw [if_pos c8, if_neg c16, hck] | rw [c8, if_neg (by decide)], rfl⟩

set_option maxRecDepth 100000 in
set_option maxHeartbeats 4000000 in
theorem M_count {d : Nat} {I : Nat → Nat → Int32} {J : Nat → Nat → Int64} {K : Nat → Nat → Option Nat} {h : List xSh} (S : St K h) (w : Int32) : EvP d 226 0 [(0, .ref (98)), (1, .int (w))] [] (I, J, K, h) (QI (fun x t => x = countM I w ∧ t = (I, J, K, h))) := by
  refine p_iload_n k226_0 rfl ?_
  by_cases hw7 : ixB w 7 = true
  · skip
    obtain ⟨k, hk, rfl⟩ := ixB_of (by decide) hw7
    have hck := nI_clamp (n := k) (by omega)
    rcases (show k = 0 ∨ k = 1 ∨ k = 2 ∨ k = 3 ∨ k = 4 ∨ k = 5 ∨ k = 6 by omega) with rfl | rfl | rfl | rfl | rfl | rfl | rfl
    · skip
      refine p_tswI (tgt := 44) k226_1 (by decide) (by decide) (by decide) rfl (by decide) ?_
      refine p_aload_n k226_44 rfl ?_
      refine p_getIv k226_45 (s_98 S) f_12_13_12 rfl ?_
      refine p_ireturn k226_48 rt_226 ?_
      exact ⟨by unfold countM; rw [if_pos hw7, hck]; rfl, rfl⟩
    · skip
      refine p_tswI (tgt := 49) k226_1 (by decide) (by decide) (by decide) rfl (by decide) ?_
      refine p_aload_n k226_49 rfl ?_
      refine p_getIv k226_50 (s_98 S) f_12_7_12 rfl ?_
      refine p_ireturn k226_53 rt_226 ?_
      exact ⟨by unfold countM; rw [if_pos hw7, hck]; rfl, rfl⟩
    · skip
      refine p_tswI (tgt := 54) k226_1 (by decide) (by decide) (by decide) rfl (by decide) ?_
      refine p_aload_n k226_54 rfl ?_
      refine p_getIv k226_55 (s_98 S) f_12_53_12 rfl ?_
      refine p_ireturn k226_58 rt_226 ?_
      exact ⟨by unfold countM; rw [if_pos hw7, hck]; rfl, rfl⟩
    · skip
      refine p_tswI (tgt := 59) k226_1 (by decide) (by decide) (by decide) rfl (by decide) ?_
      refine p_aload_n k226_59 rfl ?_
      refine p_getIv k226_60 (s_98 S) f_12_141_12 rfl ?_
      refine p_ireturn k226_63 rt_226 ?_
      exact ⟨by unfold countM; rw [if_pos hw7, hck]; rfl, rfl⟩
    · skip
      refine p_tswI (tgt := 64) k226_1 (by decide) (by decide) (by decide) rfl (by decide) ?_
      refine p_aload_n k226_64 rfl ?_
      refine p_getIv k226_65 (s_98 S) f_12_153_12 rfl ?_
      refine p_ireturn k226_68 rt_226 ?_
      exact ⟨by unfold countM; rw [if_pos hw7, hck]; rfl, rfl⟩
    · skip
      refine p_tswI (tgt := 69) k226_1 (by decide) (by decide) (by decide) rfl (by decide) ?_
      refine p_aload_n k226_69 rfl ?_
      refine p_getIv k226_70 (s_98 S) f_12_59_12 rfl ?_
      refine p_ireturn k226_73 rt_226 ?_
      exact ⟨by unfold countM; rw [if_pos hw7, hck]; rfl, rfl⟩
    · skip
      refine p_tswI (tgt := 74) k226_1 (by decide) (by decide) (by decide) rfl (by decide) ?_
      refine p_aload_n k226_74 rfl ?_
      refine p_getIv k226_75 (s_98 S) f_12_229_12 rfl ?_
      refine p_ireturn k226_78 rt_226 ?_
      exact ⟨by unfold countM; rw [if_pos hw7, hck]; rfl, rfl⟩
  · skip
    refine p_tableOut (tgt := 79) k226_1 (by have z := ixB_out hw7; omega) (by decide) ?_
    refine p_bipush (v := (-2)) k226_79 (by decide) ?_
    refine p_ireturn k226_81 rt_226 ?_
    exact ⟨by unfold countM; rw [if_neg hw7], rfl⟩

