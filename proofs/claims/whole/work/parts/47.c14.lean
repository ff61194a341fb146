/-! the class: of -/
theorem of_hd {w : Int32} {nh : Nat} (hn : nh ≤ 6) (h : ¬ w < nI 10) : ixB (w - nI 10) nh = inB w (nI 10) (nI (9 + nh)) := by
  rw [i_lt, nI_t (by decide)] at h
  have hb := Int32.toInt_lt w
  have e : inB w (nI 10) (nI (9 + nh)) = true ↔ ixB (w - nI 10) nh = true := by
    rw [inB_iff, nI_t (by decide), nI_t (by omega)]
    unfold ixB
    rw [decide_eq_true_iff, Int32.toInt_sub, nI_t (by decide), Int.bmod_eq_of_le (by omega) (by omega)]
    omega
  rcases h1 : ixB (w - nI 10) nh with _ | _
  · rcases h2 : inB w (nI 10) (nI (9 + nh)) with _ | _
    · rfl
    · rw [e.1 h2] at h1; cases h1
  · exact (e.2 h1).symm
theorem in10_n {w : Int32} {m : Nat} (h : w < nI 10) (hm : m < 100) : inB w (nI 10) (nI m) = false := by
  rw [i_lt, nI_t (by decide)] at h
  refine Bool.eq_false_iff.mpr (fun z => ?_)
  rw [inB_iff, nI_t (by decide)] at z
  omega
theorem ofM_n {I : Nat → Nat → Int32} {cb ce nh na i k : Nat} {w : Int32} (hi : i < na) (hna : na ≤ 6) (hnh : nh ≤ 6) (hk : k < 7) (hw : w = nI k) {x : Int32} (hx : x = [I 102 i, I 103 i, I 104 i, I 105 i, I 106 i, I 107 i, optI (-5) (fnd (isI (I 101) (nI i)) nh 0)].getD k 0) : x = ofM I cb ce nh na (nI i) w := by
  subst hw
  unfold ofM
  rw [ixB_nI (by omega), decide_eq_true hi, if_neg (by decide), in10_n (by rw [i_lt, nI_t (by omega), nI_t (by decide)]; omega) (by omega), if_neg (by decide), ixB_nI (by omega), decide_eq_true hk, if_pos rfl, nI_clamp (by omega), nI_clamp (by omega), hx]
  rcases (show k = 0 ∨ k = 1 ∨ k = 2 ∨ k = 3 ∨ k = 4 ∨ k = 5 ∨ k = 6 by omega) with rfl | rfl | rfl | rfl | rfl | rfl | rfl <;> rfl
set_option maxRecDepth 100000 in
set_option maxHeartbeats 4000000 in
theorem C_of {d : Nat} {I : Nat → Nat → Int32} {J : Nat → Nat → Int64} {K : Nat → Nat → Option Nat} {h : List xSh} (S : St K h) {R0 : Nat → Nat → Int32} {nh na dd cb ce tw : Nat} (C : CR I K h R0 na tw) (M : MI R0 nh na dd cb ce) (Q : AR R0 nh na dd) (g : Nat → Int32) (v w : Int32) : EvP (d + 6) 58 0 [(0, .ref (0)), (1, .int (v)), (2, .int (w))] [] (upc I 39 g, J, K, h) (QI (fun x t => x = ofM R0 cb ce nh na v w ∧ ∃ g, t = (upc I 39 g, J, K, h))) := by
  have hnh6 := M.nh6
  have hna6 := M.na6
  refine p_aload_n k58_0 rfl ?_
  refine p_getRv k58_1 (s_0 S) f_11_14_11 (r_0_0 S) ?_
  refine p_iload_n k58_4 rfl ?_
  refine p_cV1i k58_5 (s_1 S) c_11_151_3 rfl (Nat.le_of_ble_eq_true rfl) (C_isHat S (n := na) (show upc I 39 g 1 4 = nI na from C.hats.trans M.na) hna6 (v)) (fun x1 m1 hq => ?_)
  obtain ⟨rfl, rfl⟩ := hq
  refine p_if_neB (tgt := 15) k58_8 (by decide) (fun cq8 => ?_) (fun cq8 => ?_)
  · skip
    obtain ⟨i, hi, rfl⟩ := ixB_of (n := na) (by omega) cq8
    have hci := nI_clamp (n := i) (by omega)
    obtain ⟨qq, kk, ⟨hKq, hq153⟩, ⟨hk7, hkR, hqs⟩, e0, e1, e2, e3, e4, e5⟩ := C.hat i hi
    have he : upc I 39 g qq = I qq := upc_ne _ _ (by omega)
    rw [← he] at e0 e2 e3 e4
    have ek := e0.trans hkR.symm
    rcases (show kk = 0 ∨ kk = 1 ∨ kk = 2 ∨ kk = 3 ∨ kk = 4 ∨ kk = 5 ∨ kk = 6 by omega) with rfl | rfl | rfl | rfl | rfl | rfl | rfl
    · skip
      replace hqs : h[qq]? = some (.inl 2) := hqs
      refine p_aload_n k58_15 rfl ?_
      refine p_getRv k58_16 (s_0 S) f_11_14_11 (r_0_0 S) ?_
      refine p_getRv k58_19 (s_1 S) f_11_111_3 (r_1_5 S) ?_
      refine p_iload_n k58_22 rfl ?_
      refine p_aaldNj k58_23 (s_5 S) xaty_2 (by omega) (by decide) hKq ?_
      refine p_astore_n (ls' := [(0, _), (1, _), (2, _), (3, _)]) k58_24 rfl ?_
      refine p_iload_n k58_25 rfl ?_
      by_cases hw7 : ixB w 7 = true
      · skip
        obtain ⟨k, hk, rfl⟩ := ixB_of (by decide) hw7
        rcases (show k = 0 ∨ k = 1 ∨ k = 2 ∨ k = 3 ∨ k = 4 ∨ k = 5 ∨ k = 6 by omega) with rfl | rfl | rfl | rfl | rfl | rfl | rfl
        · skip
          refine p_tswI (tgt := 68) k58_26 (by decide) (by decide) (by decide) rfl (by decide) ?_
          refine p_aload_n k58_68 rfl ?_
          refine p_getIv k58_69 hqs f_11_154_2 ek ?_
          refine p_ireturn k58_72 rt_58 ?_
          exact ⟨ofM_n hi hna6 hnh6 (by decide) rfl rfl, g, rfl⟩
        · skip
          refine p_tswI (tgt := 73) k58_26 (by decide) (by decide) (by decide) rfl (by decide) ?_
          refine p_aload_n k58_73 rfl ?_
          refine p_getIv k58_74 hqs f_11_157_2 e2 ?_
          refine p_ireturn k58_77 rt_58 ?_
          exact ⟨ofM_n hi hna6 hnh6 (by decide) rfl rfl, g, rfl⟩
        · skip
          refine p_tswI (tgt := 78) k58_26 (by decide) (by decide) (by decide) rfl (by decide) ?_
          refine p_aload_n k58_78 rfl ?_
          refine p_getIv k58_79 hqs f_11_160_2 e3 ?_
          refine p_ireturn k58_82 rt_58 ?_
          exact ⟨ofM_n hi hna6 hnh6 (by decide) rfl rfl, g, rfl⟩
        · skip
          refine p_tswI (tgt := 83) k58_26 (by decide) (by decide) (by decide) rfl (by decide) ?_
          refine p_aload_n k58_83 rfl ?_
          refine p_getRv k58_84 (s_0 S) f_11_14_11 (r_0_0 S) ?_
          refine p_getRv k58_87 (s_1 S) f_11_119_3 (r_1_6 S) ?_
          refine p_iload_n k58_90 rfl ?_
          refine p_ialdN k58_91 (s_6 S) (by omega) (by decide) (show _ = R0 105 i from congrFun C.a6 i) ?_
          refine p_ireturn k58_92 rt_58 ?_
          exact ⟨ofM_n hi hna6 hnh6 (by decide) rfl rfl, g, rfl⟩
        · skip
          refine p_tswI (tgt := 93) k58_26 (by decide) (by decide) (by decide) rfl (by decide) ?_
          refine p_aload_n k58_93 rfl ?_
          refine p_getIv k58_94 hqs f_11_163_2 e4 ?_
          refine p_ireturn k58_97 rt_58 ?_
          exact ⟨ofM_n hi hna6 hnh6 (by decide) rfl rfl, g, rfl⟩
        · skip
          refine p_tswI (tgt := 98) k58_26 (by decide) (by decide) (by decide) rfl (by decide) ?_
          refine p_aload_n k58_98 rfl ?_
          refine p_getRv k58_99 (s_0 S) f_11_14_11 (r_0_0 S) ?_
          refine p_getRv k58_102 (s_1 S) f_11_122_3 (r_1_7 S) ?_
          refine p_iload_n k58_105 rfl ?_
          refine p_ialdN k58_106 (s_7 S) (by omega) (by decide) (show _ = R0 107 i from congrFun C.a7 i) ?_
          refine p_ireturn k58_107 rt_58 ?_
          exact ⟨ofM_n hi hna6 hnh6 (by decide) rfl rfl, g, rfl⟩
        · skip
          refine p_tswI (tgt := 108) k58_26 (by decide) (by decide) (by decide) rfl (by decide) ?_
          refine p_aload_n k58_108 rfl ?_
          refine p_getRv k58_109 (s_0 S) f_11_14_11 (r_0_0 S) ?_
          refine p_iload_n k58_112 rfl ?_
          refine p_cV1i k58_113 (s_1 S) c_11_166_3 rfl (Nat.le_of_ble_eq_true rfl) (C_wearer S (I := upc I 39 g) (n := nh) (show _ = nI nh from C.heads.trans M.nh) hnh6 (nI i)) (fun x1 m1 hq => ?_)
          obtain ⟨rfl, rfl⟩ := hq
          rw [show upc I 39 g 4 = R0 101 from C.a4]
          refine p_cS1i k58_116 c_11_170 rfl (Nat.le_of_ble_eq_true rfl) (C_orNotAny S (optI (-1) (fnd (isI (R0 101) (nI i)) nh 0))) (fun x1 m1 hq => ?_)
          obtain ⟨rfl, rfl⟩ := hq
          refine p_ireturn k58_119 rt_58 ?_
          exact ⟨ofM_n hi hna6 hnh6 (by decide) rfl (orA_opt hnh6), g, rfl⟩
      · skip
        refine p_tableOut (tgt := 120) k58_26 (by have z := ixB_out hw7; omega) (by decide) ?_
        refine p_iload_n k58_120 rfl ?_
        refine p_bipush (v := nI 10) k58_121 (by decide) ?_
        refine p_icmp_lt (tgt := 153) k58_123 (by decide) (fun cq123 => ?_) (fun cq123 => ?_)
        · skip
          refine p_sipush (v := (-10001)) k58_153 (by decide) ?_
          refine p_ireturn k58_156 rt_58 ?_
          first | exact ⟨by unfold ofM; rw [if_neg (by rw [cq8]; decide), if_pos hin2, hci, hck], g, rfl⟩ | exact ⟨by unfold ofM; rw [if_neg (by rw [cq8]; decide), if_neg (by rw [in10_n cq123 (by omega)]; decide), if_neg hw7], g, rfl⟩ | exact ⟨by unfold ofM; rw [if_neg (by rw [cq8]; decide), if_neg (by rw [← of_hd hnh6 cq123, cq137]; decide), if_neg hw7], g, rfl⟩
        · skip
          refine p_aload_n k58_126 rfl ?_
          refine p_getRv k58_127 (s_0 S) f_11_14_11 (r_0_0 S) ?_
          refine p_iload_n k58_130 rfl ?_
          refine p_bipush (v := nI 10) k58_131 (by decide) ?_
          refine p_isub k58_133 ?_
          refine p_cV1i k58_134 (s_1 S) c_11_173_3 rfl (Nat.le_of_ble_eq_true rfl) (C_isHead S (n := nh) (show upc I 39 g 1 0 = nI nh from C.heads.trans M.nh) hnh6 (_)) (fun x1 m1 hq => ?_)
          obtain ⟨rfl, rfl⟩ := hq
          refine p_if_eqB (tgt := 153) k58_137 (by decide) (fun cq137 => ?_) (fun cq137 => ?_)
          · skip
            refine p_sipush (v := (-10001)) k58_153 (by decide) ?_
            refine p_ireturn k58_156 rt_58 ?_
            first | exact ⟨by unfold ofM; rw [if_neg (by rw [cq8]; decide), if_pos hin2, hci, hck], g, rfl⟩ | exact ⟨by unfold ofM; rw [if_neg (by rw [cq8]; decide), if_neg (by rw [in10_n cq123 (by omega)]; decide), if_neg hw7], g, rfl⟩ | exact ⟨by unfold ofM; rw [if_neg (by rw [cq8]; decide), if_neg (by rw [← of_hd hnh6 cq123, cq137]; decide), if_neg hw7], g, rfl⟩
          · skip
            have hin : inB w (nI 10) (nI (9 + nh)) = true := by rw [← of_hd hnh6 cq123]; exact cq137
            have hin2 := hin
            obtain ⟨k, hk9, rfl⟩ := inB_of (by decide) (by omega) hin
            have hck := nI_clamp (n := 10 + k) (by omega)
            have hk10 : 10 + k - 10 < nh := by omega
            refine p_aload_n k58_140 rfl ?_
            refine p_iload_n k58_141 rfl ?_
            refine p_iload_n k58_142 rfl ?_
            refine p_bipush (v := nI 10) k58_143 (by decide) ?_
            refine p_isubN (by omega) k58_145 ?_
            refine p_iconst (v := nI 0) k58_146 (by decide) ?_
            refine p_cV3i k58_147 (s_0 S) c_11_176_11 rfl rfl rfl (Nat.le_of_ble_eq_true rfl) (C_deed0 S C M Q g (a := i) (hh := 10 + k - 10) (by omega) (by omega)) (fun x1 m1 hq => ?_)
            obtain ⟨rfl, g, rfl⟩ := hq
            refine p_goto (tgt := 156) k58_150 (by decide) ?_
            refine p_ireturn k58_156 rt_58 ?_
            first | exact ⟨by unfold ofM; rw [if_neg (by rw [cq8]; decide), if_pos hin2, hci, hck], g, rfl⟩ | exact ⟨by unfold ofM; rw [if_neg (by rw [cq8]; decide), if_neg (by rw [in10_n cq123 (by omega)]; decide), if_neg hw7], g, rfl⟩ | exact ⟨by unfold ofM; rw [if_neg (by rw [cq8]; decide), if_neg (by rw [← of_hd hnh6 cq123, cq137]; decide), if_neg hw7], g, rfl⟩
    · skip
      replace hqs : h[qq]? = some (.inl 6) := hqs
      refine p_aload_n k58_15 rfl ?_
      refine p_getRv k58_16 (s_0 S) f_11_14_11 (r_0_0 S) ?_
      refine p_getRv k58_19 (s_1 S) f_11_111_3 (r_1_5 S) ?_
      refine p_iload_n k58_22 rfl ?_
      refine p_aaldNj k58_23 (s_5 S) xaty_2 (by omega) (by decide) hKq ?_
      refine p_astore_n (ls' := [(0, _), (1, _), (2, _), (3, _)]) k58_24 rfl ?_
      refine p_iload_n k58_25 rfl ?_
      by_cases hw7 : ixB w 7 = true
      · skip
        obtain ⟨k, hk, rfl⟩ := ixB_of (by decide) hw7
        rcases (show k = 0 ∨ k = 1 ∨ k = 2 ∨ k = 3 ∨ k = 4 ∨ k = 5 ∨ k = 6 by omega) with rfl | rfl | rfl | rfl | rfl | rfl | rfl
        · skip
          refine p_tswI (tgt := 68) k58_26 (by decide) (by decide) (by decide) rfl (by decide) ?_
          refine p_aload_n k58_68 rfl ?_
          refine p_getIv k58_69 hqs f_11_154_6 ek ?_
          refine p_ireturn k58_72 rt_58 ?_
          exact ⟨ofM_n hi hna6 hnh6 (by decide) rfl rfl, g, rfl⟩
        · skip
          refine p_tswI (tgt := 73) k58_26 (by decide) (by decide) (by decide) rfl (by decide) ?_
          refine p_aload_n k58_73 rfl ?_
          refine p_getIv k58_74 hqs f_11_157_6 e2 ?_
          refine p_ireturn k58_77 rt_58 ?_
          exact ⟨ofM_n hi hna6 hnh6 (by decide) rfl rfl, g, rfl⟩
        · skip
          refine p_tswI (tgt := 78) k58_26 (by decide) (by decide) (by decide) rfl (by decide) ?_
          refine p_aload_n k58_78 rfl ?_
          refine p_getIv k58_79 hqs f_11_160_6 e3 ?_
          refine p_ireturn k58_82 rt_58 ?_
          exact ⟨ofM_n hi hna6 hnh6 (by decide) rfl rfl, g, rfl⟩
        · skip
          refine p_tswI (tgt := 83) k58_26 (by decide) (by decide) (by decide) rfl (by decide) ?_
          refine p_aload_n k58_83 rfl ?_
          refine p_getRv k58_84 (s_0 S) f_11_14_11 (r_0_0 S) ?_
          refine p_getRv k58_87 (s_1 S) f_11_119_3 (r_1_6 S) ?_
          refine p_iload_n k58_90 rfl ?_
          refine p_ialdN k58_91 (s_6 S) (by omega) (by decide) (show _ = R0 105 i from congrFun C.a6 i) ?_
          refine p_ireturn k58_92 rt_58 ?_
          exact ⟨ofM_n hi hna6 hnh6 (by decide) rfl rfl, g, rfl⟩
        · skip
          refine p_tswI (tgt := 93) k58_26 (by decide) (by decide) (by decide) rfl (by decide) ?_
          refine p_aload_n k58_93 rfl ?_
          refine p_getIv k58_94 hqs f_11_163_6 e4 ?_
          refine p_ireturn k58_97 rt_58 ?_
          exact ⟨ofM_n hi hna6 hnh6 (by decide) rfl rfl, g, rfl⟩
        · skip
          refine p_tswI (tgt := 98) k58_26 (by decide) (by decide) (by decide) rfl (by decide) ?_
          refine p_aload_n k58_98 rfl ?_
          refine p_getRv k58_99 (s_0 S) f_11_14_11 (r_0_0 S) ?_
          refine p_getRv k58_102 (s_1 S) f_11_122_3 (r_1_7 S) ?_
          refine p_iload_n k58_105 rfl ?_
          refine p_ialdN k58_106 (s_7 S) (by omega) (by decide) (show _ = R0 107 i from congrFun C.a7 i) ?_
          refine p_ireturn k58_107 rt_58 ?_
          exact ⟨ofM_n hi hna6 hnh6 (by decide) rfl rfl, g, rfl⟩
        · skip
          refine p_tswI (tgt := 108) k58_26 (by decide) (by decide) (by decide) rfl (by decide) ?_
          refine p_aload_n k58_108 rfl ?_
          refine p_getRv k58_109 (s_0 S) f_11_14_11 (r_0_0 S) ?_
          refine p_iload_n k58_112 rfl ?_
          refine p_cV1i k58_113 (s_1 S) c_11_166_3 rfl (Nat.le_of_ble_eq_true rfl) (C_wearer S (I := upc I 39 g) (n := nh) (show _ = nI nh from C.heads.trans M.nh) hnh6 (nI i)) (fun x1 m1 hq => ?_)
          obtain ⟨rfl, rfl⟩ := hq
          rw [show upc I 39 g 4 = R0 101 from C.a4]
          refine p_cS1i k58_116 c_11_170 rfl (Nat.le_of_ble_eq_true rfl) (C_orNotAny S (optI (-1) (fnd (isI (R0 101) (nI i)) nh 0))) (fun x1 m1 hq => ?_)
          obtain ⟨rfl, rfl⟩ := hq
          refine p_ireturn k58_119 rt_58 ?_
          exact ⟨ofM_n hi hna6 hnh6 (by decide) rfl (orA_opt hnh6), g, rfl⟩
      · skip
        refine p_tableOut (tgt := 120) k58_26 (by have z := ixB_out hw7; omega) (by decide) ?_
        refine p_iload_n k58_120 rfl ?_
        refine p_bipush (v := nI 10) k58_121 (by decide) ?_
        refine p_icmp_lt (tgt := 153) k58_123 (by decide) (fun cq123 => ?_) (fun cq123 => ?_)
        · skip
          refine p_sipush (v := (-10001)) k58_153 (by decide) ?_
          refine p_ireturn k58_156 rt_58 ?_
          first | exact ⟨by unfold ofM; rw [if_neg (by rw [cq8]; decide), if_pos hin2, hci, hck], g, rfl⟩ | exact ⟨by unfold ofM; rw [if_neg (by rw [cq8]; decide), if_neg (by rw [in10_n cq123 (by omega)]; decide), if_neg hw7], g, rfl⟩ | exact ⟨by unfold ofM; rw [if_neg (by rw [cq8]; decide), if_neg (by rw [← of_hd hnh6 cq123, cq137]; decide), if_neg hw7], g, rfl⟩
        · skip
          refine p_aload_n k58_126 rfl ?_
          refine p_getRv k58_127 (s_0 S) f_11_14_11 (r_0_0 S) ?_
          refine p_iload_n k58_130 rfl ?_
          refine p_bipush (v := nI 10) k58_131 (by decide) ?_
          refine p_isub k58_133 ?_
          refine p_cV1i k58_134 (s_1 S) c_11_173_3 rfl (Nat.le_of_ble_eq_true rfl) (C_isHead S (n := nh) (show upc I 39 g 1 0 = nI nh from C.heads.trans M.nh) hnh6 (_)) (fun x1 m1 hq => ?_)
          obtain ⟨rfl, rfl⟩ := hq
          refine p_if_eqB (tgt := 153) k58_137 (by decide) (fun cq137 => ?_) (fun cq137 => ?_)
          · skip
            refine p_sipush (v := (-10001)) k58_153 (by decide) ?_
            refine p_ireturn k58_156 rt_58 ?_
            first | exact ⟨by unfold ofM; rw [if_neg (by rw [cq8]; decide), if_pos hin2, hci, hck], g, rfl⟩ | exact ⟨by unfold ofM; rw [if_neg (by rw [cq8]; decide), if_neg (by rw [in10_n cq123 (by omega)]; decide), if_neg hw7], g, rfl⟩ | exact ⟨by unfold ofM; rw [if_neg (by rw [cq8]; decide), if_neg (by rw [← of_hd hnh6 cq123, cq137]; decide), if_neg hw7], g, rfl⟩
          · skip
            have hin : inB w (nI 10) (nI (9 + nh)) = true := by rw [← of_hd hnh6 cq123]; exact cq137
            have hin2 := hin
            obtain ⟨k, hk9, rfl⟩ := inB_of (by decide) (by omega) hin
            have hck := nI_clamp (n := 10 + k) (by omega)
            have hk10 : 10 + k - 10 < nh := by omega
            refine p_aload_n k58_140 rfl ?_
            refine p_iload_n k58_141 rfl ?_
            refine p_iload_n k58_142 rfl ?_
            refine p_bipush (v := nI 10) k58_143 (by decide) ?_
            refine p_isubN (by omega) k58_145 ?_
            refine p_iconst (v := nI 0) k58_146 (by decide) ?_
            refine p_cV3i k58_147 (s_0 S) c_11_176_11 rfl rfl rfl (Nat.le_of_ble_eq_true rfl) (C_deed0 S C M Q g (a := i) (hh := 10 + k - 10) (by omega) (by omega)) (fun x1 m1 hq => ?_)
            obtain ⟨rfl, g, rfl⟩ := hq
            refine p_goto (tgt := 156) k58_150 (by decide) ?_
            refine p_ireturn k58_156 rt_58 ?_
            first | exact ⟨by unfold ofM; rw [if_neg (by rw [cq8]; decide), if_pos hin2, hci, hck], g, rfl⟩ | exact ⟨by unfold ofM; rw [if_neg (by rw [cq8]; decide), if_neg (by rw [in10_n cq123 (by omega)]; decide), if_neg hw7], g, rfl⟩ | exact ⟨by unfold ofM; rw [if_neg (by rw [cq8]; decide), if_neg (by rw [← of_hd hnh6 cq123, cq137]; decide), if_neg hw7], g, rfl⟩
    · skip
      replace hqs : h[qq]? = some (.inl 10) := hqs
      refine p_aload_n k58_15 rfl ?_
      refine p_getRv k58_16 (s_0 S) f_11_14_11 (r_0_0 S) ?_
      refine p_getRv k58_19 (s_1 S) f_11_111_3 (r_1_5 S) ?_
      refine p_iload_n k58_22 rfl ?_
      refine p_aaldNj k58_23 (s_5 S) xaty_2 (by omega) (by decide) hKq ?_
      refine p_astore_n (ls' := [(0, _), (1, _), (2, _), (3, _)]) k58_24 rfl ?_
      refine p_iload_n k58_25 rfl ?_
      by_cases hw7 : ixB w 7 = true
      · skip
        obtain ⟨k, hk, rfl⟩ := ixB_of (by decide) hw7
        rcases (show k = 0 ∨ k = 1 ∨ k = 2 ∨ k = 3 ∨ k = 4 ∨ k = 5 ∨ k = 6 by omega) with rfl | rfl | rfl | rfl | rfl | rfl | rfl
        · skip
          refine p_tswI (tgt := 68) k58_26 (by decide) (by decide) (by decide) rfl (by decide) ?_
          refine p_aload_n k58_68 rfl ?_
          refine p_getIv k58_69 hqs f_11_154_10 ek ?_
          refine p_ireturn k58_72 rt_58 ?_
          exact ⟨ofM_n hi hna6 hnh6 (by decide) rfl rfl, g, rfl⟩
        · skip
          refine p_tswI (tgt := 73) k58_26 (by decide) (by decide) (by decide) rfl (by decide) ?_
          refine p_aload_n k58_73 rfl ?_
          refine p_getIv k58_74 hqs f_11_157_10 e2 ?_
          refine p_ireturn k58_77 rt_58 ?_
          exact ⟨ofM_n hi hna6 hnh6 (by decide) rfl rfl, g, rfl⟩
        · skip
          refine p_tswI (tgt := 78) k58_26 (by decide) (by decide) (by decide) rfl (by decide) ?_
          refine p_aload_n k58_78 rfl ?_
          refine p_getIv k58_79 hqs f_11_160_10 e3 ?_
          refine p_ireturn k58_82 rt_58 ?_
          exact ⟨ofM_n hi hna6 hnh6 (by decide) rfl rfl, g, rfl⟩
        · skip
          refine p_tswI (tgt := 83) k58_26 (by decide) (by decide) (by decide) rfl (by decide) ?_
          refine p_aload_n k58_83 rfl ?_
          refine p_getRv k58_84 (s_0 S) f_11_14_11 (r_0_0 S) ?_
          refine p_getRv k58_87 (s_1 S) f_11_119_3 (r_1_6 S) ?_
          refine p_iload_n k58_90 rfl ?_
          refine p_ialdN k58_91 (s_6 S) (by omega) (by decide) (show _ = R0 105 i from congrFun C.a6 i) ?_
          refine p_ireturn k58_92 rt_58 ?_
          exact ⟨ofM_n hi hna6 hnh6 (by decide) rfl rfl, g, rfl⟩
        · skip
          refine p_tswI (tgt := 93) k58_26 (by decide) (by decide) (by decide) rfl (by decide) ?_
          refine p_aload_n k58_93 rfl ?_
          refine p_getIv k58_94 hqs f_11_163_10 e4 ?_
          refine p_ireturn k58_97 rt_58 ?_
          exact ⟨ofM_n hi hna6 hnh6 (by decide) rfl rfl, g, rfl⟩
        · skip
          refine p_tswI (tgt := 98) k58_26 (by decide) (by decide) (by decide) rfl (by decide) ?_
          refine p_aload_n k58_98 rfl ?_
          refine p_getRv k58_99 (s_0 S) f_11_14_11 (r_0_0 S) ?_
          refine p_getRv k58_102 (s_1 S) f_11_122_3 (r_1_7 S) ?_
          refine p_iload_n k58_105 rfl ?_
          refine p_ialdN k58_106 (s_7 S) (by omega) (by decide) (show _ = R0 107 i from congrFun C.a7 i) ?_
          refine p_ireturn k58_107 rt_58 ?_
          exact ⟨ofM_n hi hna6 hnh6 (by decide) rfl rfl, g, rfl⟩
        · skip
          refine p_tswI (tgt := 108) k58_26 (by decide) (by decide) (by decide) rfl (by decide) ?_
          refine p_aload_n k58_108 rfl ?_
          refine p_getRv k58_109 (s_0 S) f_11_14_11 (r_0_0 S) ?_
          refine p_iload_n k58_112 rfl ?_
          refine p_cV1i k58_113 (s_1 S) c_11_166_3 rfl (Nat.le_of_ble_eq_true rfl) (C_wearer S (I := upc I 39 g) (n := nh) (show _ = nI nh from C.heads.trans M.nh) hnh6 (nI i)) (fun x1 m1 hq => ?_)
          obtain ⟨rfl, rfl⟩ := hq
          rw [show upc I 39 g 4 = R0 101 from C.a4]
          refine p_cS1i k58_116 c_11_170 rfl (Nat.le_of_ble_eq_true rfl) (C_orNotAny S (optI (-1) (fnd (isI (R0 101) (nI i)) nh 0))) (fun x1 m1 hq => ?_)
          obtain ⟨rfl, rfl⟩ := hq
          refine p_ireturn k58_119 rt_58 ?_
          exact ⟨ofM_n hi hna6 hnh6 (by decide) rfl (orA_opt hnh6), g, rfl⟩
      · skip
        refine p_tableOut (tgt := 120) k58_26 (by have z := ixB_out hw7; omega) (by decide) ?_
        refine p_iload_n k58_120 rfl ?_
        refine p_bipush (v := nI 10) k58_121 (by decide) ?_
        refine p_icmp_lt (tgt := 153) k58_123 (by decide) (fun cq123 => ?_) (fun cq123 => ?_)
        · skip
          refine p_sipush (v := (-10001)) k58_153 (by decide) ?_
          refine p_ireturn k58_156 rt_58 ?_
          first | exact ⟨by unfold ofM; rw [if_neg (by rw [cq8]; decide), if_pos hin2, hci, hck], g, rfl⟩ | exact ⟨by unfold ofM; rw [if_neg (by rw [cq8]; decide), if_neg (by rw [in10_n cq123 (by omega)]; decide), if_neg hw7], g, rfl⟩ | exact ⟨by unfold ofM; rw [if_neg (by rw [cq8]; decide), if_neg (by rw [← of_hd hnh6 cq123, cq137]; decide), if_neg hw7], g, rfl⟩
        · skip
          refine p_aload_n k58_126 rfl ?_
          refine p_getRv k58_127 (s_0 S) f_11_14_11 (r_0_0 S) ?_
          refine p_iload_n k58_130 rfl ?_
          refine p_bipush (v := nI 10) k58_131 (by decide) ?_
          refine p_isub k58_133 ?_
          refine p_cV1i k58_134 (s_1 S) c_11_173_3 rfl (Nat.le_of_ble_eq_true rfl) (C_isHead S (n := nh) (show upc I 39 g 1 0 = nI nh from C.heads.trans M.nh) hnh6 (_)) (fun x1 m1 hq => ?_)
          obtain ⟨rfl, rfl⟩ := hq
          refine p_if_eqB (tgt := 153) k58_137 (by decide) (fun cq137 => ?_) (fun cq137 => ?_)
          · skip
            refine p_sipush (v := (-10001)) k58_153 (by decide) ?_
            refine p_ireturn k58_156 rt_58 ?_
            first | exact ⟨by unfold ofM; rw [if_neg (by rw [cq8]; decide), if_pos hin2, hci, hck], g, rfl⟩ | exact ⟨by unfold ofM; rw [if_neg (by rw [cq8]; decide), if_neg (by rw [in10_n cq123 (by omega)]; decide), if_neg hw7], g, rfl⟩ | exact ⟨by unfold ofM; rw [if_neg (by rw [cq8]; decide), if_neg (by rw [← of_hd hnh6 cq123, cq137]; decide), if_neg hw7], g, rfl⟩
          · skip
            have hin : inB w (nI 10) (nI (9 + nh)) = true := by rw [← of_hd hnh6 cq123]; exact cq137
            have hin2 := hin
            obtain ⟨k, hk9, rfl⟩ := inB_of (by decide) (by omega) hin
            have hck := nI_clamp (n := 10 + k) (by omega)
            have hk10 : 10 + k - 10 < nh := by omega
            refine p_aload_n k58_140 rfl ?_
            refine p_iload_n k58_141 rfl ?_
            refine p_iload_n k58_142 rfl ?_
            refine p_bipush (v := nI 10) k58_143 (by decide) ?_
            refine p_isubN (by omega) k58_145 ?_
            refine p_iconst (v := nI 0) k58_146 (by decide) ?_
            refine p_cV3i k58_147 (s_0 S) c_11_176_11 rfl rfl rfl (Nat.le_of_ble_eq_true rfl) (C_deed0 S C M Q g (a := i) (hh := 10 + k - 10) (by omega) (by omega)) (fun x1 m1 hq => ?_)
            obtain ⟨rfl, g, rfl⟩ := hq
            refine p_goto (tgt := 156) k58_150 (by decide) ?_
            refine p_ireturn k58_156 rt_58 ?_
            first | exact ⟨by unfold ofM; rw [if_neg (by rw [cq8]; decide), if_pos hin2, hci, hck], g, rfl⟩ | exact ⟨by unfold ofM; rw [if_neg (by rw [cq8]; decide), if_neg (by rw [in10_n cq123 (by omega)]; decide), if_neg hw7], g, rfl⟩ | exact ⟨by unfold ofM; rw [if_neg (by rw [cq8]; decide), if_neg (by rw [← of_hd hnh6 cq123, cq137]; decide), if_neg hw7], g, rfl⟩
    · skip
      replace hqs : h[qq]? = some (.inl 0) := hqs
      refine p_aload_n k58_15 rfl ?_
      refine p_getRv k58_16 (s_0 S) f_11_14_11 (r_0_0 S) ?_
      refine p_getRv k58_19 (s_1 S) f_11_111_3 (r_1_5 S) ?_
      refine p_iload_n k58_22 rfl ?_
      refine p_aaldNj k58_23 (s_5 S) xaty_2 (by omega) (by decide) hKq ?_
      refine p_astore_n (ls' := [(0, _), (1, _), (2, _), (3, _)]) k58_24 rfl ?_
      refine p_iload_n k58_25 rfl ?_
      by_cases hw7 : ixB w 7 = true
      · skip
        obtain ⟨k, hk, rfl⟩ := ixB_of (by decide) hw7
        rcases (show k = 0 ∨ k = 1 ∨ k = 2 ∨ k = 3 ∨ k = 4 ∨ k = 5 ∨ k = 6 by omega) with rfl | rfl | rfl | rfl | rfl | rfl | rfl
        · skip
          refine p_tswI (tgt := 68) k58_26 (by decide) (by decide) (by decide) rfl (by decide) ?_
          refine p_aload_n k58_68 rfl ?_
          refine p_getIv k58_69 hqs f_11_154_0 ek ?_
          refine p_ireturn k58_72 rt_58 ?_
          exact ⟨ofM_n hi hna6 hnh6 (by decide) rfl rfl, g, rfl⟩
        · skip
          refine p_tswI (tgt := 73) k58_26 (by decide) (by decide) (by decide) rfl (by decide) ?_
          refine p_aload_n k58_73 rfl ?_
          refine p_getIv k58_74 hqs f_11_157_0 e2 ?_
          refine p_ireturn k58_77 rt_58 ?_
          exact ⟨ofM_n hi hna6 hnh6 (by decide) rfl rfl, g, rfl⟩
        · skip
          refine p_tswI (tgt := 78) k58_26 (by decide) (by decide) (by decide) rfl (by decide) ?_
          refine p_aload_n k58_78 rfl ?_
          refine p_getIv k58_79 hqs f_11_160_0 e3 ?_
          refine p_ireturn k58_82 rt_58 ?_
          exact ⟨ofM_n hi hna6 hnh6 (by decide) rfl rfl, g, rfl⟩
        · skip
          refine p_tswI (tgt := 83) k58_26 (by decide) (by decide) (by decide) rfl (by decide) ?_
          refine p_aload_n k58_83 rfl ?_
          refine p_getRv k58_84 (s_0 S) f_11_14_11 (r_0_0 S) ?_
          refine p_getRv k58_87 (s_1 S) f_11_119_3 (r_1_6 S) ?_
          refine p_iload_n k58_90 rfl ?_
          refine p_ialdN k58_91 (s_6 S) (by omega) (by decide) (show _ = R0 105 i from congrFun C.a6 i) ?_
          refine p_ireturn k58_92 rt_58 ?_
          exact ⟨ofM_n hi hna6 hnh6 (by decide) rfl rfl, g, rfl⟩
        · skip
          refine p_tswI (tgt := 93) k58_26 (by decide) (by decide) (by decide) rfl (by decide) ?_
          refine p_aload_n k58_93 rfl ?_
          refine p_getIv k58_94 hqs f_11_163_0 e4 ?_
          refine p_ireturn k58_97 rt_58 ?_
          exact ⟨ofM_n hi hna6 hnh6 (by decide) rfl rfl, g, rfl⟩
        · skip
          refine p_tswI (tgt := 98) k58_26 (by decide) (by decide) (by decide) rfl (by decide) ?_
          refine p_aload_n k58_98 rfl ?_
          refine p_getRv k58_99 (s_0 S) f_11_14_11 (r_0_0 S) ?_
          refine p_getRv k58_102 (s_1 S) f_11_122_3 (r_1_7 S) ?_
          refine p_iload_n k58_105 rfl ?_
          refine p_ialdN k58_106 (s_7 S) (by omega) (by decide) (show _ = R0 107 i from congrFun C.a7 i) ?_
          refine p_ireturn k58_107 rt_58 ?_
          exact ⟨ofM_n hi hna6 hnh6 (by decide) rfl rfl, g, rfl⟩
        · skip
          refine p_tswI (tgt := 108) k58_26 (by decide) (by decide) (by decide) rfl (by decide) ?_
          refine p_aload_n k58_108 rfl ?_
          refine p_getRv k58_109 (s_0 S) f_11_14_11 (r_0_0 S) ?_
          refine p_iload_n k58_112 rfl ?_
          refine p_cV1i k58_113 (s_1 S) c_11_166_3 rfl (Nat.le_of_ble_eq_true rfl) (C_wearer S (I := upc I 39 g) (n := nh) (show _ = nI nh from C.heads.trans M.nh) hnh6 (nI i)) (fun x1 m1 hq => ?_)
          obtain ⟨rfl, rfl⟩ := hq
          rw [show upc I 39 g 4 = R0 101 from C.a4]
          refine p_cS1i k58_116 c_11_170 rfl (Nat.le_of_ble_eq_true rfl) (C_orNotAny S (optI (-1) (fnd (isI (R0 101) (nI i)) nh 0))) (fun x1 m1 hq => ?_)
          obtain ⟨rfl, rfl⟩ := hq
          refine p_ireturn k58_119 rt_58 ?_
          exact ⟨ofM_n hi hna6 hnh6 (by decide) rfl (orA_opt hnh6), g, rfl⟩
      · skip
        refine p_tableOut (tgt := 120) k58_26 (by have z := ixB_out hw7; omega) (by decide) ?_
        refine p_iload_n k58_120 rfl ?_
        refine p_bipush (v := nI 10) k58_121 (by decide) ?_
        refine p_icmp_lt (tgt := 153) k58_123 (by decide) (fun cq123 => ?_) (fun cq123 => ?_)
        · skip
          refine p_sipush (v := (-10001)) k58_153 (by decide) ?_
          refine p_ireturn k58_156 rt_58 ?_
          first | exact ⟨by unfold ofM; rw [if_neg (by rw [cq8]; decide), if_pos hin2, hci, hck], g, rfl⟩ | exact ⟨by unfold ofM; rw [if_neg (by rw [cq8]; decide), if_neg (by rw [in10_n cq123 (by omega)]; decide), if_neg hw7], g, rfl⟩ | exact ⟨by unfold ofM; rw [if_neg (by rw [cq8]; decide), if_neg (by rw [← of_hd hnh6 cq123, cq137]; decide), if_neg hw7], g, rfl⟩
        · skip
          refine p_aload_n k58_126 rfl ?_
          refine p_getRv k58_127 (s_0 S) f_11_14_11 (r_0_0 S) ?_
          refine p_iload_n k58_130 rfl ?_
          refine p_bipush (v := nI 10) k58_131 (by decide) ?_
          refine p_isub k58_133 ?_
          refine p_cV1i k58_134 (s_1 S) c_11_173_3 rfl (Nat.le_of_ble_eq_true rfl) (C_isHead S (n := nh) (show upc I 39 g 1 0 = nI nh from C.heads.trans M.nh) hnh6 (_)) (fun x1 m1 hq => ?_)
          obtain ⟨rfl, rfl⟩ := hq
          refine p_if_eqB (tgt := 153) k58_137 (by decide) (fun cq137 => ?_) (fun cq137 => ?_)
          · skip
            refine p_sipush (v := (-10001)) k58_153 (by decide) ?_
            refine p_ireturn k58_156 rt_58 ?_
            first | exact ⟨by unfold ofM; rw [if_neg (by rw [cq8]; decide), if_pos hin2, hci, hck], g, rfl⟩ | exact ⟨by unfold ofM; rw [if_neg (by rw [cq8]; decide), if_neg (by rw [in10_n cq123 (by omega)]; decide), if_neg hw7], g, rfl⟩ | exact ⟨by unfold ofM; rw [if_neg (by rw [cq8]; decide), if_neg (by rw [← of_hd hnh6 cq123, cq137]; decide), if_neg hw7], g, rfl⟩
          · skip
            have hin : inB w (nI 10) (nI (9 + nh)) = true := by rw [← of_hd hnh6 cq123]; exact cq137
            have hin2 := hin
            obtain ⟨k, hk9, rfl⟩ := inB_of (by decide) (by omega) hin
            have hck := nI_clamp (n := 10 + k) (by omega)
            have hk10 : 10 + k - 10 < nh := by omega
            refine p_aload_n k58_140 rfl ?_
            refine p_iload_n k58_141 rfl ?_
            refine p_iload_n k58_142 rfl ?_
            refine p_bipush (v := nI 10) k58_143 (by decide) ?_
            refine p_isubN (by omega) k58_145 ?_
            refine p_iconst (v := nI 0) k58_146 (by decide) ?_
            refine p_cV3i k58_147 (s_0 S) c_11_176_11 rfl rfl rfl (Nat.le_of_ble_eq_true rfl) (C_deed0 S C M Q g (a := i) (hh := 10 + k - 10) (by omega) (by omega)) (fun x1 m1 hq => ?_)
            obtain ⟨rfl, g, rfl⟩ := hq
            refine p_goto (tgt := 156) k58_150 (by decide) ?_
            refine p_ireturn k58_156 rt_58 ?_
            first | exact ⟨by unfold ofM; rw [if_neg (by rw [cq8]; decide), if_pos hin2, hci, hck], g, rfl⟩ | exact ⟨by unfold ofM; rw [if_neg (by rw [cq8]; decide), if_neg (by rw [in10_n cq123 (by omega)]; decide), if_neg hw7], g, rfl⟩ | exact ⟨by unfold ofM; rw [if_neg (by rw [cq8]; decide), if_neg (by rw [← of_hd hnh6 cq123, cq137]; decide), if_neg hw7], g, rfl⟩
    · skip
      replace hqs : h[qq]? = some (.inl 4) := hqs
      refine p_aload_n k58_15 rfl ?_
      refine p_getRv k58_16 (s_0 S) f_11_14_11 (r_0_0 S) ?_
      refine p_getRv k58_19 (s_1 S) f_11_111_3 (r_1_5 S) ?_
      refine p_iload_n k58_22 rfl ?_
      refine p_aaldNj k58_23 (s_5 S) xaty_2 (by omega) (by decide) hKq ?_
      refine p_astore_n (ls' := [(0, _), (1, _), (2, _), (3, _)]) k58_24 rfl ?_
      refine p_iload_n k58_25 rfl ?_
      by_cases hw7 : ixB w 7 = true
      · skip
        obtain ⟨k, hk, rfl⟩ := ixB_of (by decide) hw7
        rcases (show k = 0 ∨ k = 1 ∨ k = 2 ∨ k = 3 ∨ k = 4 ∨ k = 5 ∨ k = 6 by omega) with rfl | rfl | rfl | rfl | rfl | rfl | rfl
        · skip
          refine p_tswI (tgt := 68) k58_26 (by decide) (by decide) (by decide) rfl (by decide) ?_
          refine p_aload_n k58_68 rfl ?_
          refine p_getIv k58_69 hqs f_11_154_4 ek ?_
          refine p_ireturn k58_72 rt_58 ?_
          exact ⟨ofM_n hi hna6 hnh6 (by decide) rfl rfl, g, rfl⟩
        · skip
          refine p_tswI (tgt := 73) k58_26 (by decide) (by decide) (by decide) rfl (by decide) ?_
          refine p_aload_n k58_73 rfl ?_
          refine p_getIv k58_74 hqs f_11_157_4 e2 ?_
          refine p_ireturn k58_77 rt_58 ?_
          exact ⟨ofM_n hi hna6 hnh6 (by decide) rfl rfl, g, rfl⟩
        · skip
          refine p_tswI (tgt := 78) k58_26 (by decide) (by decide) (by decide) rfl (by decide) ?_
          refine p_aload_n k58_78 rfl ?_
          refine p_getIv k58_79 hqs f_11_160_4 e3 ?_
          refine p_ireturn k58_82 rt_58 ?_
          exact ⟨ofM_n hi hna6 hnh6 (by decide) rfl rfl, g, rfl⟩
        · skip
          refine p_tswI (tgt := 83) k58_26 (by decide) (by decide) (by decide) rfl (by decide) ?_
          refine p_aload_n k58_83 rfl ?_
          refine p_getRv k58_84 (s_0 S) f_11_14_11 (r_0_0 S) ?_
          refine p_getRv k58_87 (s_1 S) f_11_119_3 (r_1_6 S) ?_
          refine p_iload_n k58_90 rfl ?_
          refine p_ialdN k58_91 (s_6 S) (by omega) (by decide) (show _ = R0 105 i from congrFun C.a6 i) ?_
          refine p_ireturn k58_92 rt_58 ?_
          exact ⟨ofM_n hi hna6 hnh6 (by decide) rfl rfl, g, rfl⟩
        · skip
          refine p_tswI (tgt := 93) k58_26 (by decide) (by decide) (by decide) rfl (by decide) ?_
          refine p_aload_n k58_93 rfl ?_
          refine p_getIv k58_94 hqs f_11_163_4 e4 ?_
          refine p_ireturn k58_97 rt_58 ?_
          exact ⟨ofM_n hi hna6 hnh6 (by decide) rfl rfl, g, rfl⟩
        · skip
          refine p_tswI (tgt := 98) k58_26 (by decide) (by decide) (by decide) rfl (by decide) ?_
          refine p_aload_n k58_98 rfl ?_
          refine p_getRv k58_99 (s_0 S) f_11_14_11 (r_0_0 S) ?_
          refine p_getRv k58_102 (s_1 S) f_11_122_3 (r_1_7 S) ?_
          refine p_iload_n k58_105 rfl ?_
          refine p_ialdN k58_106 (s_7 S) (by omega) (by decide) (show _ = R0 107 i from congrFun C.a7 i) ?_
          refine p_ireturn k58_107 rt_58 ?_
          exact ⟨ofM_n hi hna6 hnh6 (by decide) rfl rfl, g, rfl⟩
        · skip
          refine p_tswI (tgt := 108) k58_26 (by decide) (by decide) (by decide) rfl (by decide) ?_
          refine p_aload_n k58_108 rfl ?_
          refine p_getRv k58_109 (s_0 S) f_11_14_11 (r_0_0 S) ?_
          refine p_iload_n k58_112 rfl ?_
          refine p_cV1i k58_113 (s_1 S) c_11_166_3 rfl (Nat.le_of_ble_eq_true rfl) (C_wearer S (I := upc I 39 g) (n := nh) (show _ = nI nh from C.heads.trans M.nh) hnh6 (nI i)) (fun x1 m1 hq => ?_)
          obtain ⟨rfl, rfl⟩ := hq
          rw [show upc I 39 g 4 = R0 101 from C.a4]
          refine p_cS1i k58_116 c_11_170 rfl (Nat.le_of_ble_eq_true rfl) (C_orNotAny S (optI (-1) (fnd (isI (R0 101) (nI i)) nh 0))) (fun x1 m1 hq => ?_)
          obtain ⟨rfl, rfl⟩ := hq
          refine p_ireturn k58_119 rt_58 ?_
          exact ⟨ofM_n hi hna6 hnh6 (by decide) rfl (orA_opt hnh6), g, rfl⟩
      · skip
        refine p_tableOut (tgt := 120) k58_26 (by have z := ixB_out hw7; omega) (by decide) ?_
        refine p_iload_n k58_120 rfl ?_
        refine p_bipush (v := nI 10) k58_121 (by decide) ?_
        refine p_icmp_lt (tgt := 153) k58_123 (by decide) (fun cq123 => ?_) (fun cq123 => ?_)
        · skip
          refine p_sipush (v := (-10001)) k58_153 (by decide) ?_
          refine p_ireturn k58_156 rt_58 ?_
          first | exact ⟨by unfold ofM; rw [if_neg (by rw [cq8]; decide), if_pos hin2, hci, hck], g, rfl⟩ | exact ⟨by unfold ofM; rw [if_neg (by rw [cq8]; decide), if_neg (by rw [in10_n cq123 (by omega)]; decide), if_neg hw7], g, rfl⟩ | exact ⟨by unfold ofM; rw [if_neg (by rw [cq8]; decide), if_neg (by rw [← of_hd hnh6 cq123, cq137]; decide), if_neg hw7], g, rfl⟩
        · skip
          refine p_aload_n k58_126 rfl ?_
          refine p_getRv k58_127 (s_0 S) f_11_14_11 (r_0_0 S) ?_
          refine p_iload_n k58_130 rfl ?_
          refine p_bipush (v := nI 10) k58_131 (by decide) ?_
          refine p_isub k58_133 ?_
          refine p_cV1i k58_134 (s_1 S) c_11_173_3 rfl (Nat.le_of_ble_eq_true rfl) (C_isHead S (n := nh) (show upc I 39 g 1 0 = nI nh from C.heads.trans M.nh) hnh6 (_)) (fun x1 m1 hq => ?_)
          obtain ⟨rfl, rfl⟩ := hq
          refine p_if_eqB (tgt := 153) k58_137 (by decide) (fun cq137 => ?_) (fun cq137 => ?_)
          · skip
            refine p_sipush (v := (-10001)) k58_153 (by decide) ?_
            refine p_ireturn k58_156 rt_58 ?_
            first | exact ⟨by unfold ofM; rw [if_neg (by rw [cq8]; decide), if_pos hin2, hci, hck], g, rfl⟩ | exact ⟨by unfold ofM; rw [if_neg (by rw [cq8]; decide), if_neg (by rw [in10_n cq123 (by omega)]; decide), if_neg hw7], g, rfl⟩ | exact ⟨by unfold ofM; rw [if_neg (by rw [cq8]; decide), if_neg (by rw [← of_hd hnh6 cq123, cq137]; decide), if_neg hw7], g, rfl⟩
          · skip
            have hin : inB w (nI 10) (nI (9 + nh)) = true := by rw [← of_hd hnh6 cq123]; exact cq137
            have hin2 := hin
            obtain ⟨k, hk9, rfl⟩ := inB_of (by decide) (by omega) hin
            have hck := nI_clamp (n := 10 + k) (by omega)
            have hk10 : 10 + k - 10 < nh := by omega
            refine p_aload_n k58_140 rfl ?_
            refine p_iload_n k58_141 rfl ?_
            refine p_iload_n k58_142 rfl ?_
            refine p_bipush (v := nI 10) k58_143 (by decide) ?_
            refine p_isubN (by omega) k58_145 ?_
            refine p_iconst (v := nI 0) k58_146 (by decide) ?_
            refine p_cV3i k58_147 (s_0 S) c_11_176_11 rfl rfl rfl (Nat.le_of_ble_eq_true rfl) (C_deed0 S C M Q g (a := i) (hh := 10 + k - 10) (by omega) (by omega)) (fun x1 m1 hq => ?_)
            obtain ⟨rfl, g, rfl⟩ := hq
            refine p_goto (tgt := 156) k58_150 (by decide) ?_
            refine p_ireturn k58_156 rt_58 ?_
            first | exact ⟨by unfold ofM; rw [if_neg (by rw [cq8]; decide), if_pos hin2, hci, hck], g, rfl⟩ | exact ⟨by unfold ofM; rw [if_neg (by rw [cq8]; decide), if_neg (by rw [in10_n cq123 (by omega)]; decide), if_neg hw7], g, rfl⟩ | exact ⟨by unfold ofM; rw [if_neg (by rw [cq8]; decide), if_neg (by rw [← of_hd hnh6 cq123, cq137]; decide), if_neg hw7], g, rfl⟩
    · skip
      replace hqs : h[qq]? = some (.inl 1) := hqs
      refine p_aload_n k58_15 rfl ?_
      refine p_getRv k58_16 (s_0 S) f_11_14_11 (r_0_0 S) ?_
      refine p_getRv k58_19 (s_1 S) f_11_111_3 (r_1_5 S) ?_
      refine p_iload_n k58_22 rfl ?_
      refine p_aaldNj k58_23 (s_5 S) xaty_2 (by omega) (by decide) hKq ?_
      refine p_astore_n (ls' := [(0, _), (1, _), (2, _), (3, _)]) k58_24 rfl ?_
      refine p_iload_n k58_25 rfl ?_
      by_cases hw7 : ixB w 7 = true
      · skip
        obtain ⟨k, hk, rfl⟩ := ixB_of (by decide) hw7
        rcases (show k = 0 ∨ k = 1 ∨ k = 2 ∨ k = 3 ∨ k = 4 ∨ k = 5 ∨ k = 6 by omega) with rfl | rfl | rfl | rfl | rfl | rfl | rfl
        · skip
          refine p_tswI (tgt := 68) k58_26 (by decide) (by decide) (by decide) rfl (by decide) ?_
          refine p_aload_n k58_68 rfl ?_
          refine p_getIv k58_69 hqs f_11_154_1 ek ?_
          refine p_ireturn k58_72 rt_58 ?_
          exact ⟨ofM_n hi hna6 hnh6 (by decide) rfl rfl, g, rfl⟩
        · skip
          refine p_tswI (tgt := 73) k58_26 (by decide) (by decide) (by decide) rfl (by decide) ?_
          refine p_aload_n k58_73 rfl ?_
          refine p_getIv k58_74 hqs f_11_157_1 e2 ?_
          refine p_ireturn k58_77 rt_58 ?_
          exact ⟨ofM_n hi hna6 hnh6 (by decide) rfl rfl, g, rfl⟩
        · skip
          refine p_tswI (tgt := 78) k58_26 (by decide) (by decide) (by decide) rfl (by decide) ?_
          refine p_aload_n k58_78 rfl ?_
          refine p_getIv k58_79 hqs f_11_160_1 e3 ?_
          refine p_ireturn k58_82 rt_58 ?_
          exact ⟨ofM_n hi hna6 hnh6 (by decide) rfl rfl, g, rfl⟩
        · skip
          refine p_tswI (tgt := 83) k58_26 (by decide) (by decide) (by decide) rfl (by decide) ?_
          refine p_aload_n k58_83 rfl ?_
          refine p_getRv k58_84 (s_0 S) f_11_14_11 (r_0_0 S) ?_
          refine p_getRv k58_87 (s_1 S) f_11_119_3 (r_1_6 S) ?_
          refine p_iload_n k58_90 rfl ?_
          refine p_ialdN k58_91 (s_6 S) (by omega) (by decide) (show _ = R0 105 i from congrFun C.a6 i) ?_
          refine p_ireturn k58_92 rt_58 ?_
          exact ⟨ofM_n hi hna6 hnh6 (by decide) rfl rfl, g, rfl⟩
        · skip
          refine p_tswI (tgt := 93) k58_26 (by decide) (by decide) (by decide) rfl (by decide) ?_
          refine p_aload_n k58_93 rfl ?_
          refine p_getIv k58_94 hqs f_11_163_1 e4 ?_
          refine p_ireturn k58_97 rt_58 ?_
          exact ⟨ofM_n hi hna6 hnh6 (by decide) rfl rfl, g, rfl⟩
        · skip
          refine p_tswI (tgt := 98) k58_26 (by decide) (by decide) (by decide) rfl (by decide) ?_
          refine p_aload_n k58_98 rfl ?_
          refine p_getRv k58_99 (s_0 S) f_11_14_11 (r_0_0 S) ?_
          refine p_getRv k58_102 (s_1 S) f_11_122_3 (r_1_7 S) ?_
          refine p_iload_n k58_105 rfl ?_
          refine p_ialdN k58_106 (s_7 S) (by omega) (by decide) (show _ = R0 107 i from congrFun C.a7 i) ?_
          refine p_ireturn k58_107 rt_58 ?_
          exact ⟨ofM_n hi hna6 hnh6 (by decide) rfl rfl, g, rfl⟩
        · skip
          refine p_tswI (tgt := 108) k58_26 (by decide) (by decide) (by decide) rfl (by decide) ?_
          refine p_aload_n k58_108 rfl ?_
          refine p_getRv k58_109 (s_0 S) f_11_14_11 (r_0_0 S) ?_
          refine p_iload_n k58_112 rfl ?_
          refine p_cV1i k58_113 (s_1 S) c_11_166_3 rfl (Nat.le_of_ble_eq_true rfl) (C_wearer S (I := upc I 39 g) (n := nh) (show _ = nI nh from C.heads.trans M.nh) hnh6 (nI i)) (fun x1 m1 hq => ?_)
          obtain ⟨rfl, rfl⟩ := hq
          rw [show upc I 39 g 4 = R0 101 from C.a4]
          refine p_cS1i k58_116 c_11_170 rfl (Nat.le_of_ble_eq_true rfl) (C_orNotAny S (optI (-1) (fnd (isI (R0 101) (nI i)) nh 0))) (fun x1 m1 hq => ?_)
          obtain ⟨rfl, rfl⟩ := hq
          refine p_ireturn k58_119 rt_58 ?_
          exact ⟨ofM_n hi hna6 hnh6 (by decide) rfl (orA_opt hnh6), g, rfl⟩
      · skip
        refine p_tableOut (tgt := 120) k58_26 (by have z := ixB_out hw7; omega) (by decide) ?_
        refine p_iload_n k58_120 rfl ?_
        refine p_bipush (v := nI 10) k58_121 (by decide) ?_
        refine p_icmp_lt (tgt := 153) k58_123 (by decide) (fun cq123 => ?_) (fun cq123 => ?_)
        · skip
          refine p_sipush (v := (-10001)) k58_153 (by decide) ?_
          refine p_ireturn k58_156 rt_58 ?_
          first | exact ⟨by unfold ofM; rw [if_neg (by rw [cq8]; decide), if_pos hin2, hci, hck], g, rfl⟩ | exact ⟨by unfold ofM; rw [if_neg (by rw [cq8]; decide), if_neg (by rw [in10_n cq123 (by omega)]; decide), if_neg hw7], g, rfl⟩ | exact ⟨by unfold ofM; rw [if_neg (by rw [cq8]; decide), if_neg (by rw [← of_hd hnh6 cq123, cq137]; decide), if_neg hw7], g, rfl⟩
        · skip
          refine p_aload_n k58_126 rfl ?_
          refine p_getRv k58_127 (s_0 S) f_11_14_11 (r_0_0 S) ?_
          refine p_iload_n k58_130 rfl ?_
          refine p_bipush (v := nI 10) k58_131 (by decide) ?_
          refine p_isub k58_133 ?_
          refine p_cV1i k58_134 (s_1 S) c_11_173_3 rfl (Nat.le_of_ble_eq_true rfl) (C_isHead S (n := nh) (show upc I 39 g 1 0 = nI nh from C.heads.trans M.nh) hnh6 (_)) (fun x1 m1 hq => ?_)
          obtain ⟨rfl, rfl⟩ := hq
          refine p_if_eqB (tgt := 153) k58_137 (by decide) (fun cq137 => ?_) (fun cq137 => ?_)
          · skip
            refine p_sipush (v := (-10001)) k58_153 (by decide) ?_
            refine p_ireturn k58_156 rt_58 ?_
            first | exact ⟨by unfold ofM; rw [if_neg (by rw [cq8]; decide), if_pos hin2, hci, hck], g, rfl⟩ | exact ⟨by unfold ofM; rw [if_neg (by rw [cq8]; decide), if_neg (by rw [in10_n cq123 (by omega)]; decide), if_neg hw7], g, rfl⟩ | exact ⟨by unfold ofM; rw [if_neg (by rw [cq8]; decide), if_neg (by rw [← of_hd hnh6 cq123, cq137]; decide), if_neg hw7], g, rfl⟩
          · skip
            have hin : inB w (nI 10) (nI (9 + nh)) = true := by rw [← of_hd hnh6 cq123]; exact cq137
            have hin2 := hin
            obtain ⟨k, hk9, rfl⟩ := inB_of (by decide) (by omega) hin
            have hck := nI_clamp (n := 10 + k) (by omega)
            have hk10 : 10 + k - 10 < nh := by omega
            refine p_aload_n k58_140 rfl ?_
            refine p_iload_n k58_141 rfl ?_
            refine p_iload_n k58_142 rfl ?_
            refine p_bipush (v := nI 10) k58_143 (by decide) ?_
            refine p_isubN (by omega) k58_145 ?_
            refine p_iconst (v := nI 0) k58_146 (by decide) ?_
            refine p_cV3i k58_147 (s_0 S) c_11_176_11 rfl rfl rfl (Nat.le_of_ble_eq_true rfl) (C_deed0 S C M Q g (a := i) (hh := 10 + k - 10) (by omega) (by omega)) (fun x1 m1 hq => ?_)
            obtain ⟨rfl, g, rfl⟩ := hq
            refine p_goto (tgt := 156) k58_150 (by decide) ?_
            refine p_ireturn k58_156 rt_58 ?_
            first | exact ⟨by unfold ofM; rw [if_neg (by rw [cq8]; decide), if_pos hin2, hci, hck], g, rfl⟩ | exact ⟨by unfold ofM; rw [if_neg (by rw [cq8]; decide), if_neg (by rw [in10_n cq123 (by omega)]; decide), if_neg hw7], g, rfl⟩ | exact ⟨by unfold ofM; rw [if_neg (by rw [cq8]; decide), if_neg (by rw [← of_hd hnh6 cq123, cq137]; decide), if_neg hw7], g, rfl⟩
    · skip
      replace hqs : h[qq]? = some (.inl 7) := hqs
      refine p_aload_n k58_15 rfl ?_
      refine p_getRv k58_16 (s_0 S) f_11_14_11 (r_0_0 S) ?_
      refine p_getRv k58_19 (s_1 S) f_11_111_3 (r_1_5 S) ?_
      refine p_iload_n k58_22 rfl ?_
      refine p_aaldNj k58_23 (s_5 S) xaty_2 (by omega) (by decide) hKq ?_
      refine p_astore_n (ls' := [(0, _), (1, _), (2, _), (3, _)]) k58_24 rfl ?_
      refine p_iload_n k58_25 rfl ?_
      by_cases hw7 : ixB w 7 = true
      · skip
        obtain ⟨k, hk, rfl⟩ := ixB_of (by decide) hw7
        rcases (show k = 0 ∨ k = 1 ∨ k = 2 ∨ k = 3 ∨ k = 4 ∨ k = 5 ∨ k = 6 by omega) with rfl | rfl | rfl | rfl | rfl | rfl | rfl
        · skip
          refine p_tswI (tgt := 68) k58_26 (by decide) (by decide) (by decide) rfl (by decide) ?_
          refine p_aload_n k58_68 rfl ?_
          refine p_getIv k58_69 hqs f_11_154_7 ek ?_
          refine p_ireturn k58_72 rt_58 ?_
          exact ⟨ofM_n hi hna6 hnh6 (by decide) rfl rfl, g, rfl⟩
        · skip
          refine p_tswI (tgt := 73) k58_26 (by decide) (by decide) (by decide) rfl (by decide) ?_
          refine p_aload_n k58_73 rfl ?_
          refine p_getIv k58_74 hqs f_11_157_7 e2 ?_
          refine p_ireturn k58_77 rt_58 ?_
          exact ⟨ofM_n hi hna6 hnh6 (by decide) rfl rfl, g, rfl⟩
        · skip
          refine p_tswI (tgt := 78) k58_26 (by decide) (by decide) (by decide) rfl (by decide) ?_
          refine p_aload_n k58_78 rfl ?_
          refine p_getIv k58_79 hqs f_11_160_7 e3 ?_
          refine p_ireturn k58_82 rt_58 ?_
          exact ⟨ofM_n hi hna6 hnh6 (by decide) rfl rfl, g, rfl⟩
        · skip
          refine p_tswI (tgt := 83) k58_26 (by decide) (by decide) (by decide) rfl (by decide) ?_
          refine p_aload_n k58_83 rfl ?_
          refine p_getRv k58_84 (s_0 S) f_11_14_11 (r_0_0 S) ?_
          refine p_getRv k58_87 (s_1 S) f_11_119_3 (r_1_6 S) ?_
          refine p_iload_n k58_90 rfl ?_
          refine p_ialdN k58_91 (s_6 S) (by omega) (by decide) (show _ = R0 105 i from congrFun C.a6 i) ?_
          refine p_ireturn k58_92 rt_58 ?_
          exact ⟨ofM_n hi hna6 hnh6 (by decide) rfl rfl, g, rfl⟩
        · skip
          refine p_tswI (tgt := 93) k58_26 (by decide) (by decide) (by decide) rfl (by decide) ?_
          refine p_aload_n k58_93 rfl ?_
          refine p_getIv k58_94 hqs f_11_163_7 e4 ?_
          refine p_ireturn k58_97 rt_58 ?_
          exact ⟨ofM_n hi hna6 hnh6 (by decide) rfl rfl, g, rfl⟩
        · skip
          refine p_tswI (tgt := 98) k58_26 (by decide) (by decide) (by decide) rfl (by decide) ?_
          refine p_aload_n k58_98 rfl ?_
          refine p_getRv k58_99 (s_0 S) f_11_14_11 (r_0_0 S) ?_
          refine p_getRv k58_102 (s_1 S) f_11_122_3 (r_1_7 S) ?_
          refine p_iload_n k58_105 rfl ?_
          refine p_ialdN k58_106 (s_7 S) (by omega) (by decide) (show _ = R0 107 i from congrFun C.a7 i) ?_
          refine p_ireturn k58_107 rt_58 ?_
          exact ⟨ofM_n hi hna6 hnh6 (by decide) rfl rfl, g, rfl⟩
        · skip
          refine p_tswI (tgt := 108) k58_26 (by decide) (by decide) (by decide) rfl (by decide) ?_
          refine p_aload_n k58_108 rfl ?_
          refine p_getRv k58_109 (s_0 S) f_11_14_11 (r_0_0 S) ?_
          refine p_iload_n k58_112 rfl ?_
          refine p_cV1i k58_113 (s_1 S) c_11_166_3 rfl (Nat.le_of_ble_eq_true rfl) (C_wearer S (I := upc I 39 g) (n := nh) (show _ = nI nh from C.heads.trans M.nh) hnh6 (nI i)) (fun x1 m1 hq => ?_)
          obtain ⟨rfl, rfl⟩ := hq
          rw [show upc I 39 g 4 = R0 101 from C.a4]
          refine p_cS1i k58_116 c_11_170 rfl (Nat.le_of_ble_eq_true rfl) (C_orNotAny S (optI (-1) (fnd (isI (R0 101) (nI i)) nh 0))) (fun x1 m1 hq => ?_)
          obtain ⟨rfl, rfl⟩ := hq
          refine p_ireturn k58_119 rt_58 ?_
          exact ⟨ofM_n hi hna6 hnh6 (by decide) rfl (orA_opt hnh6), g, rfl⟩
      · skip
        refine p_tableOut (tgt := 120) k58_26 (by have z := ixB_out hw7; omega) (by decide) ?_
        refine p_iload_n k58_120 rfl ?_
        refine p_bipush (v := nI 10) k58_121 (by decide) ?_
        refine p_icmp_lt (tgt := 153) k58_123 (by decide) (fun cq123 => ?_) (fun cq123 => ?_)
        · skip
          refine p_sipush (v := (-10001)) k58_153 (by decide) ?_
          refine p_ireturn k58_156 rt_58 ?_
          first | exact ⟨by unfold ofM; rw [if_neg (by rw [cq8]; decide), if_pos hin2, hci, hck], g, rfl⟩ | exact ⟨by unfold ofM; rw [if_neg (by rw [cq8]; decide), if_neg (by rw [in10_n cq123 (by omega)]; decide), if_neg hw7], g, rfl⟩ | exact ⟨by unfold ofM; rw [if_neg (by rw [cq8]; decide), if_neg (by rw [← of_hd hnh6 cq123, cq137]; decide), if_neg hw7], g, rfl⟩
        · skip
          refine p_aload_n k58_126 rfl ?_
          refine p_getRv k58_127 (s_0 S) f_11_14_11 (r_0_0 S) ?_
          refine p_iload_n k58_130 rfl ?_
          refine p_bipush (v := nI 10) k58_131 (by decide) ?_
          refine p_isub k58_133 ?_
          refine p_cV1i k58_134 (s_1 S) c_11_173_3 rfl (Nat.le_of_ble_eq_true rfl) (C_isHead S (n := nh) (show upc I 39 g 1 0 = nI nh from C.heads.trans M.nh) hnh6 (_)) (fun x1 m1 hq => ?_)
          obtain ⟨rfl, rfl⟩ := hq
          refine p_if_eqB (tgt := 153) k58_137 (by decide) (fun cq137 => ?_) (fun cq137 => ?_)
          · skip
            refine p_sipush (v := (-10001)) k58_153 (by decide) ?_
            refine p_ireturn k58_156 rt_58 ?_
            first | exact ⟨by unfold ofM; rw [if_neg (by rw [cq8]; decide), if_pos hin2, hci, hck], g, rfl⟩ | exact ⟨by unfold ofM; rw [if_neg (by rw [cq8]; decide), if_neg (by rw [in10_n cq123 (by omega)]; decide), if_neg hw7], g, rfl⟩ | exact ⟨by unfold ofM; rw [if_neg (by rw [cq8]; decide), if_neg (by rw [← of_hd hnh6 cq123, cq137]; decide), if_neg hw7], g, rfl⟩
          · skip
            have hin : inB w (nI 10) (nI (9 + nh)) = true := by rw [← of_hd hnh6 cq123]; exact cq137
            have hin2 := hin
            obtain ⟨k, hk9, rfl⟩ := inB_of (by decide) (by omega) hin
            have hck := nI_clamp (n := 10 + k) (by omega)
            have hk10 : 10 + k - 10 < nh := by omega
            refine p_aload_n k58_140 rfl ?_
            refine p_iload_n k58_141 rfl ?_
            refine p_iload_n k58_142 rfl ?_
            refine p_bipush (v := nI 10) k58_143 (by decide) ?_
            refine p_isubN (by omega) k58_145 ?_
            refine p_iconst (v := nI 0) k58_146 (by decide) ?_
            refine p_cV3i k58_147 (s_0 S) c_11_176_11 rfl rfl rfl (Nat.le_of_ble_eq_true rfl) (C_deed0 S C M Q g (a := i) (hh := 10 + k - 10) (by omega) (by omega)) (fun x1 m1 hq => ?_)
            obtain ⟨rfl, g, rfl⟩ := hq
            refine p_goto (tgt := 156) k58_150 (by decide) ?_
            refine p_ireturn k58_156 rt_58 ?_
            first | exact ⟨by unfold ofM; rw [if_neg (by rw [cq8]; decide), if_pos hin2, hci, hck], g, rfl⟩ | exact ⟨by unfold ofM; rw [if_neg (by rw [cq8]; decide), if_neg (by rw [in10_n cq123 (by omega)]; decide), if_neg hw7], g, rfl⟩ | exact ⟨by unfold ofM; rw [if_neg (by rw [cq8]; decide), if_neg (by rw [← of_hd hnh6 cq123, cq137]; decide), if_neg hw7], g, rfl⟩
  · skip
    refine p_sipush (v := (-10001)) k58_11 (by decide) ?_
    refine p_ireturn k58_14 rt_58 ?_
    exact ⟨by unfold ofM; rw [if_pos cq8], g, rfl⟩

