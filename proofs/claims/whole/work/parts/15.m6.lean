/-! the reference: of, told, today, enough, best, change, hat -/
theorem inB_of {w : Int32} {lo hi : Nat} (hl : lo < 2 ^ 31) (hh : hi < 2 ^ 31) (h : inB w (nI lo) (nI hi) = true) : ∃ k, lo + k ≤ hi ∧ w = nI (lo + k) := by
  rw [inB_iff, nI_t hl, nI_t hh] at h
  refine ⟨w.toInt.toNat - lo, by omega, ?_⟩
  rw [i_eq, nI_t (by omega)]
  omega
theorem ixB_out {w : Int32} {n : Nat} (h : ¬ ixB w n = true) : w.toInt < 0 ∨ (n : Int) ≤ w.toInt := by
  unfold ixB at h
  rw [decide_eq_true_iff] at h
  omega
def ofM (I : Nat → Nat → Int32) (cb ce nh na : Nat) (v w : Int32) : Int32 := if ixB v na = false then -10001 else if inB w (nI 10) (nI (9 + nh)) = true then deedM I cb ce v.toNatClampNeg (w.toNatClampNeg - 10) else if ixB w 7 = true then (match w.toNatClampNeg with
  | 0 => I 102 v.toNatClampNeg
  | 1 => I 103 v.toNatClampNeg
  | 2 => I 104 v.toNatClampNeg
  | 3 => I 105 v.toNatClampNeg
  | 4 => I 106 v.toNatClampNeg
  | 5 => I 107 v.toNatClampNeg
  | _ => optI (-5) (fnd (isI (I 101) v) nh 0)) else -10001
set_option maxRecDepth 100000 in
set_option maxHeartbeats 4000000 in
theorem M_of {d : Nat} {I : Nat → Nat → Int32} {J : Nat → Nat → Int64} {K : Nat → Nat → Option Nat} {h : List xSh} (S : St K h) {nh na dd cb ce : Nat} (M : MI I nh na dd cb ce) (g : Nat → Int32) (v w : Int32) : EvP (d + 4) 168 0 [(0, .ref (98)), (1, .int (v)), (2, .int (w))] [] (upc I 120 g, J, K, h) (QI (fun x t => x = ofM I cb ce nh na v w ∧ ∃ g, t = (upc I 120 g, J, K, h))) := by
  have hnh : upc I 120 g 98 0 = nI nh := M.nh
  have hnh6 := M.nh6
  have hna : upc I 120 g 98 1 = nI na := M.na
  have hna6 := M.na6
  have hT := M.th
  refine p_aload_n k168_0 rfl ?_
  refine p_iload_n k168_1 rfl ?_
  refine p_cV1i k168_2 (s_98 S) c_12_256_12 rfl (Nat.le_of_ble_eq_true rfl) (M_isHat S hna hna6 (v)) (fun x1 m1 hq => ?_)
  obtain ⟨rfl, rfl⟩ := hq
  refine p_if_neB (tgt := 12) k168_5 (by decide) (fun c5 => ?_) (fun c5 => ?_)
  · skip
    obtain ⟨a, ha, rfl⟩ := ixB_of (n := na) (by omega) c5
    have hca := nI_clamp (n := a) (by omega)
    refine p_aload_n k168_12 rfl ?_
    refine p_iload_n k168_13 rfl ?_
    refine p_bipush (v := nI 10) k168_14 (by decide) ?_
    refine p_bipush (v := nI 9) k168_16 (by decide) ?_
    refine p_aload_n k168_18 rfl ?_
    refine p_getIv k168_19 (s_98 S) f_12_7_12 M.nh ?_
    refine p_iaddN k168_22 ?_
    refine p_cV3i k168_23 (s_98 S) c_12_248_12 rfl rfl rfl (Nat.le_of_ble_eq_true rfl) (M_in S (w) (nI (10)) (nI (9 + nh))) (fun x1 m1 hq => ?_)
    obtain ⟨rfl, rfl⟩ := hq
    refine p_if_eqB (tgt := 39) k168_26 (by decide) (fun c26 => ?_) (fun c26 => ?_)
    · skip
      refine p_iload_n k168_39 rfl ?_
      by_cases hw7 : ixB w 7 = true
      · skip
        obtain ⟨k, hk, rfl⟩ := ixB_of (by decide) hw7
        have hck := nI_clamp (n := k) (by omega)
        rcases (show k = 0 ∨ k = 1 ∨ k = 2 ∨ k = 3 ∨ k = 4 ∨ k = 5 ∨ k = 6 by omega) with rfl | rfl | rfl | rfl | rfl | rfl | rfl
        · skip
          refine p_tswI (tgt := 84) k168_40 (by decide) (by decide) (by decide) rfl (by decide) ?_
          refine p_aload_n k168_84 rfl ?_
          refine p_getRv k168_85 (s_98 S) f_12_29_12 (r_98_6 S) ?_
          refine p_iload_n k168_88 rfl ?_
          refine p_ialdN k168_89 (s_102 S) (by omega) (by decide) rfl ?_
          refine p_ireturn k168_90 rt_168 ?_
          exact ⟨by simp [ofM, upc, nd10, nd20, nd21, *], g, rfl⟩
        · skip
          refine p_tswI (tgt := 91) k168_40 (by decide) (by decide) (by decide) rfl (by decide) ?_
          refine p_aload_n k168_91 rfl ?_
          refine p_getRv k168_92 (s_98 S) f_12_32_12 (r_98_7 S) ?_
          refine p_iload_n k168_95 rfl ?_
          refine p_ialdN k168_96 (s_103 S) (by omega) (by decide) rfl ?_
          refine p_ireturn k168_97 rt_168 ?_
          exact ⟨by simp [ofM, upc, nd10, nd20, nd21, *], g, rfl⟩
        · skip
          refine p_tswI (tgt := 98) k168_40 (by decide) (by decide) (by decide) rfl (by decide) ?_
          refine p_aload_n k168_98 rfl ?_
          refine p_getRv k168_99 (s_98 S) f_12_35_12 (r_98_8 S) ?_
          refine p_iload_n k168_102 rfl ?_
          refine p_ialdN k168_103 (s_104 S) (by omega) (by decide) rfl ?_
          refine p_ireturn k168_104 rt_168 ?_
          exact ⟨by simp [ofM, upc, nd10, nd20, nd21, *], g, rfl⟩
        · skip
          refine p_tswI (tgt := 105) k168_40 (by decide) (by decide) (by decide) rfl (by decide) ?_
          refine p_aload_n k168_105 rfl ?_
          refine p_getRv k168_106 (s_98 S) f_12_38_12 (r_98_9 S) ?_
          refine p_iload_n k168_109 rfl ?_
          refine p_ialdN k168_110 (s_105 S) (by omega) (by decide) rfl ?_
          refine p_ireturn k168_111 rt_168 ?_
          exact ⟨by simp [ofM, upc, nd10, nd20, nd21, *], g, rfl⟩
        · skip
          refine p_tswI (tgt := 112) k168_40 (by decide) (by decide) (by decide) rfl (by decide) ?_
          refine p_aload_n k168_112 rfl ?_
          refine p_getRv k168_113 (s_98 S) f_12_41_12 (r_98_10 S) ?_
          refine p_iload_n k168_116 rfl ?_
          refine p_ialdN k168_117 (s_106 S) (by omega) (by decide) rfl ?_
          refine p_ireturn k168_118 rt_168 ?_
          exact ⟨by simp [ofM, upc, nd10, nd20, nd21, *], g, rfl⟩
        · skip
          refine p_tswI (tgt := 119) k168_40 (by decide) (by decide) (by decide) rfl (by decide) ?_
          refine p_aload_n k168_119 rfl ?_
          refine p_getRv k168_120 (s_98 S) f_12_44_12 (r_98_11 S) ?_
          refine p_iload_n k168_123 rfl ?_
          refine p_ialdN k168_124 (s_107 S) (by omega) (by decide) rfl ?_
          refine p_ireturn k168_125 rt_168 ?_
          exact ⟨by simp [ofM, upc, nd10, nd20, nd21, *], g, rfl⟩
        · skip
          refine p_tswI (tgt := 126) k168_40 (by decide) (by decide) (by decide) rfl (by decide) ?_
          refine p_aload_n k168_126 rfl ?_
          refine p_iload_n k168_127 rfl ?_
          refine p_cV1i k168_128 (s_98 S) c_12_262_12 rfl (Nat.le_of_ble_eq_true rfl) (M_headOf S hnh hnh6 (nI (a))) (fun x1 m1 hq => ?_)
          obtain ⟨rfl, rfl⟩ := hq
          refine p_ireturn k168_131 rt_168 ?_
          exact ⟨by simp [ofM, upc, nd10, nd20, nd21, *], g, rfl⟩
      · skip
        refine p_tableOut (tgt := 132) k168_40 (by have z := ixB_out hw7; omega) (by decide) ?_
        refine p_sipush (v := (-10001)) k168_132 (by decide) ?_
        refine p_ireturn k168_135 rt_168 ?_
        exact ⟨by simp [ofM, upc, nd10, nd20, nd21, *], g, rfl⟩
    · skip
      obtain ⟨k, hk9, rfl⟩ := inB_of (by decide) (by omega) c26
      have hck := nI_clamp (n := 10 + k) (by omega)
      refine p_aload_n k168_29 rfl ?_
      refine p_iload_n k168_30 rfl ?_
      refine p_iload_n k168_31 rfl ?_
      refine p_bipush (v := nI 10) k168_32 (by decide) ?_
      refine p_isubN (by omega) k168_34 ?_
      refine p_cV2i k168_35 (s_98 S) c_12_341_12 rfl rfl (Nat.le_of_ble_eq_true rfl) (M_deed2 S M g (a := a) (hh := 10 + k - 10) (by omega) (by omega)) (fun x1 m1 hq => ?_)
      obtain ⟨rfl, g, rfl⟩ := hq
      refine p_ireturn k168_38 rt_168 ?_
      exact ⟨by simp [ofM, upc, nd10, nd20, nd21, *], g, rfl⟩
  · skip
    refine p_sipush (v := (-10001)) k168_8 (by decide) ?_
    refine p_ireturn k168_11 rt_168 ?_
    exact ⟨by simp [ofM, upc, nd10, nd20, nd21, *], g, rfl⟩

def toldM (I : Nat → Nat → Int32) (cb ce : Nat) (w : Int32) : Int32 := if inB w (nI 10) (nI 14) = true then I 109 (w.toNatClampNeg - 10) else if inB w (nI 20) (nI 24) = true then workF I cb ce (w - nI 20) else if w = 0 then I 98 2 else if w = nI 1 then mothF I cb ce else -1
set_option maxRecDepth 100000 in
set_option maxHeartbeats 4000000 in
theorem M_told {d : Nat} {I : Nat → Nat → Int32} {J : Nat → Nat → Int64} {K : Nat → Nat → Option Nat} {h : List xSh} (S : St K h) {nh na dd cb ce : Nat} (M : MI I nh na dd cb ce) (w : Int32) : EvP (d + 2) 170 0 [(0, .ref (98)), (1, .int (w))] [] (I, J, K, h) (QI (fun x t => x = toldM I cb ce w ∧ t = (I, J, K, h))) := by
  have hnh := M.nh
  have hnh6 := M.nh6
  have hna := M.na
  have hna6 := M.na6
  have hT := M.th
  refine p_aload_n k170_0 rfl ?_
  refine p_iload_n k170_1 rfl ?_
  refine p_bipush (v := nI 10) k170_2 (by decide) ?_
  refine p_bipush (v := nI 14) k170_4 (by decide) ?_
  refine p_cV3i k170_6 (s_98 S) c_12_248_12 rfl rfl rfl (Nat.le_of_ble_eq_true rfl) (M_in S (w) (nI (10)) (nI (14))) (fun x1 m1 hq => ?_)
  obtain ⟨rfl, rfl⟩ := hq
  refine p_if_eqB (tgt := 22) k170_9 (by decide) (fun c9 => ?_) (fun c9 => ?_)
  · skip
    refine p_aload_n k170_22 rfl ?_
    refine p_iload_n k170_23 rfl ?_
    refine p_bipush (v := nI 20) k170_24 (by decide) ?_
    refine p_bipush (v := nI 24) k170_26 (by decide) ?_
    refine p_cV3i k170_28 (s_98 S) c_12_248_12 rfl rfl rfl (Nat.le_of_ble_eq_true rfl) (M_in S (w) (nI (20)) (nI (24))) (fun x1 m1 hq => ?_)
    obtain ⟨rfl, rfl⟩ := hq
    refine p_if_eqB (tgt := 43) k170_31 (by decide) (fun c31 => ?_) (fun c31 => ?_)
    · skip
      refine p_iload_n k170_43 rfl ?_
      refine p_if_ne (tgt := 54) k170_44 (by decide) (fun c44 => ?_) (fun c44 => ?_)
      · skip
        refine p_iload_n k170_54 rfl ?_
        refine p_iconst (v := nI 1) k170_55 (by decide) ?_
        refine p_icmp_ne (tgt := 66) k170_56 (by decide) (fun c56 => ?_) (fun c56 => ?_)
        · skip
          refine p_iconst (v := (-1)) k170_66 (by decide) ?_
          refine p_ireturn k170_67 rt_170 ?_
          exact ⟨by first | (simp [toldM, *]; done) | (unfold toldM; rw [if_neg (by rw [c9]; decide), if_neg (by rw [c31]; decide), if_pos c44]) | (unfold toldM; rw [if_neg (by rw [c9]; decide), if_neg (by rw [c31]; decide), if_neg c44, if_pos c56]), rfl⟩
        · skip
          refine p_aload_n k170_59 rfl ?_
          refine p_cV0i k170_60 (s_98 S) c_12_338_12 (Nat.le_of_ble_eq_true rfl) (M_moth S hT) (fun x1 m1 hq => ?_)
          obtain ⟨rfl, rfl⟩ := hq
          refine p_goto (tgt := 67) k170_63 (by decide) ?_
          refine p_ireturn k170_67 rt_170 ?_
          exact ⟨by first | (simp [toldM, *]; done) | (unfold toldM; rw [if_neg (by rw [c9]; decide), if_neg (by rw [c31]; decide), if_pos c44]) | (unfold toldM; rw [if_neg (by rw [c9]; decide), if_neg (by rw [c31]; decide), if_neg c44, if_pos c56]), rfl⟩
      · skip
        refine p_aload_n k170_47 rfl ?_
        refine p_getIv k170_48 (s_98 S) f_12_16_12 rfl ?_
        refine p_goto (tgt := 67) k170_51 (by decide) ?_
        refine p_ireturn k170_67 rt_170 ?_
        exact ⟨by first | (simp [toldM, *]; done) | (unfold toldM; rw [if_neg (by rw [c9]; decide), if_neg (by rw [c31]; decide), if_pos c44]) | (unfold toldM; rw [if_neg (by rw [c9]; decide), if_neg (by rw [c31]; decide), if_neg c44, if_pos c56]), rfl⟩
    · skip
      refine p_aload_n k170_34 rfl ?_
      refine p_iload_n k170_35 rfl ?_
      refine p_bipush (v := nI 20) k170_36 (by decide) ?_
      refine p_isub k170_38 ?_
      refine p_cV1i k170_39 (s_98 S) c_12_344_12 rfl (Nat.le_of_ble_eq_true rfl) (M_work S hT _) (fun x1 m1 hq => ?_)
      obtain ⟨rfl, rfl⟩ := hq
      refine p_ireturn k170_42 rt_170 ?_
      exact ⟨by first | (simp [toldM, *]; done) | (unfold toldM; rw [if_neg (by rw [c9]; decide), if_neg (by rw [c31]; decide), if_pos c44]) | (unfold toldM; rw [if_neg (by rw [c9]; decide), if_neg (by rw [c31]; decide), if_neg c44, if_pos c56]), rfl⟩
  · skip
    obtain ⟨k, hk9, rfl⟩ := inB_of (by decide) (by omega) c9
    have hck := nI_clamp (n := 10 + k) (by omega)
    refine p_aload_n k170_12 rfl ?_
    refine p_getRv k170_13 (s_98 S) f_12_50_12 (r_98_13 S) ?_
    refine p_iload_n k170_16 rfl ?_
    refine p_bipush (v := nI 10) k170_17 (by decide) ?_
    refine p_isubN (by omega) k170_19 ?_
    refine p_ialdN k170_20 (s_109 S) (by omega) (by decide) rfl ?_
    refine p_ireturn k170_21 rt_170 ?_
    exact ⟨by first | (simp [toldM, *]; done) | (unfold toldM; rw [if_neg (by rw [c9]; decide), if_neg (by rw [c31]; decide), if_pos c44]) | (unfold toldM; rw [if_neg (by rw [c9]; decide), if_neg (by rw [c31]; decide), if_neg c44, if_pos c56]), rfl⟩

def todayM (I : Nat → Nat → Int32) (cb ce nh : Nat) (t : Int32) : Int32 := if t = -1 ∨ ixB t 5 = true then todM I cb ce nh t else -1
set_option maxRecDepth 100000 in
set_option maxHeartbeats 4000000 in
theorem M_todayA {d : Nat} {I : Nat → Nat → Int32} {J : Nat → Nat → Int64} {K : Nat → Nat → Option Nat} {h : List xSh} (S : St K h) {nh na dd cb ce : Nat} (M : MI I nh na dd cb ce) (g : Nat → Int32) (w : Int32) : EvP (d + 5) 178 0 [(0, .ref (98)), (1, .int (w))] [] (upc I 120 g, J, K, h) (QI (fun x t => x = todayM I cb ce nh w ∧ ∃ g, t = (upc I 120 g, J, K, h))) := by
  have hnh : upc I 120 g 98 0 = nI nh := M.nh
  have hnh6 := M.nh6
  have hna : upc I 120 g 98 1 = nI na := M.na
  have hna6 := M.na6
  refine p_iload_n k178_0 rfl ?_
  refine p_iconst (v := (-1)) k178_1 (by decide) ?_
  refine p_icmp_eq (tgt := 13) k178_2 (by decide) (fun c2 => ?_) (fun c2 => ?_)
  · skip
    refine p_aload_n k178_13 rfl ?_
    refine p_iload_n k178_14 rfl ?_
    refine p_cV1i k178_15 (s_98 S) c_12_347_12 rfl (Nat.le_of_ble_eq_true rfl) (M_today S M g (w)) (fun x1 m1 hq => ?_)
    obtain ⟨rfl, g, rfl⟩ := hq
    refine p_goto (tgt := 22) k178_18 (by decide) ?_
    refine p_ireturn k178_22 rt_178 ?_
    exact ⟨by simp [todayM, upc, nd10, nd20, nd21, *], g, rfl⟩
  · skip
    refine p_aload_n k178_5 rfl ?_
    refine p_iload_n k178_6 rfl ?_
    refine p_cV1i k178_7 (s_98 S) c_12_252_12 rfl (Nat.le_of_ble_eq_true rfl) (M_isTrade S (w)) (fun x1 m1 hq => ?_)
    obtain ⟨rfl, rfl⟩ := hq
    refine p_if_eqB (tgt := 21) k178_10 (by decide) (fun c10 => ?_) (fun c10 => ?_)
    · skip
      refine p_iconst (v := (-1)) k178_21 (by decide) ?_
      refine p_ireturn k178_22 rt_178 ?_
      exact ⟨by simp [todayM, upc, nd10, nd20, nd21, *], g, rfl⟩
    · skip
      refine p_aload_n k178_13 rfl ?_
      refine p_iload_n k178_14 rfl ?_
      refine p_cV1i k178_15 (s_98 S) c_12_347_12 rfl (Nat.le_of_ble_eq_true rfl) (M_today S M g (w)) (fun x1 m1 hq => ?_)
      obtain ⟨rfl, g, rfl⟩ := hq
      refine p_goto (tgt := 22) k178_18 (by decide) ?_
      refine p_ireturn k178_22 rt_178 ?_
      exact ⟨by simp [todayM, upc, nd10, nd20, nd21, *], g, rfl⟩

def fEno (I : Nat → Nat → Int32) (cb ce nh : Nat) (k : Nat) (s : Nat) : Nat := s ||| (if todM I cb ce nh (nI k) < workF I cb ce (nI k) then 0 else 2 ^ k)
def enoM (I : Nat → Nat → Int32) (cb ce nh : Nat) : Nat := fld (fEno I cb ce nh) 5 0 0
set_option maxRecDepth 100000 in
set_option maxHeartbeats 4000000 in
theorem M_enough {d : Nat} {I : Nat → Nat → Int32} {J : Nat → Nat → Int64} {K : Nat → Nat → Option Nat} {h : List xSh} (S : St K h) {nh na dd cb ce : Nat} (M : MI I nh na dd cb ce) (g : Nat → Int32) : EvP (d + 5) 179 0 [(0, .ref (98))] [] (upc I 120 g, J, K, h) (QI (fun x t => x = nI (enoM I cb ce nh) ∧ ∃ g, t = (upc I 120 g, J, K, h))) := by
  have hnh : upc I 120 g 98 0 = nI nh := M.nh
  have hnh6 := M.nh6
  have hna : upc I 120 g 98 1 = nI na := M.na
  have hna6 := M.na6
  refine p_iconst (v := nI 0) k179_0 (by decide) ?_
  refine p_istore_n (ls' := [(0, _), (1, _)]) k179_1 rfl ?_
  refine p_iconst (v := nI 0) k179_2 (by decide) ?_
  refine p_istore_n (ls' := [(0, _), (1, _), (2, _)]) k179_3 rfl ?_
  have L : ∀ (j : Nat) (k : Nat) (s : Nat) (g : Nat → Int32), k + j = 5 → EvP (d + 5) 179 4 [(0, .ref (98)), (1, .int (nI (s))), (2, .int (nI (k)))] [] (upc I 120 g, J, K, h) (QI (fun x t => x = nI (fld (fEno I cb ce nh) j k s) ∧ ∃ g, t = (upc I 120 g, J, K, h))) := by
    intro j
    induction j with
    | zero =>
      intro k s g hk
      refine p_iload_n k179_4 rfl ?_
      refine p_iconst (v := nI 5) k179_5 (by decide) ?_
      refine p_icmp_geN (tgt := 38) k179_6 (by decide) (by omega) (by omega) (fun _ => ?_) (fun c => False.elim (by omega))
      refine p_iload_n k179_38 rfl ?_
      refine p_ireturn k179_39 rt_179 ?_
      exact ⟨rfl, g, rfl⟩
    | succ j ih =>
      intro k s g hk
      refine p_iload_n k179_4 rfl ?_
      refine p_iconst (v := nI 5) k179_5 (by decide) ?_
      refine p_icmp_geN (tgt := 38) k179_6 (by decide) (by omega) (by omega) (fun c => False.elim (by omega)) (fun _ => ?_)
      refine p_iload_n k179_9 rfl ?_
      refine p_aload_n k179_10 rfl ?_
      refine p_iload_n k179_11 rfl ?_
      refine p_cV1i k179_12 (s_98 S) c_12_347_12 rfl (Nat.le_of_ble_eq_true rfl) (M_today S M g (nI (k))) (fun x1 m1 hq => ?_)
      obtain ⟨rfl, g, rfl⟩ := hq
      refine p_aload_n k179_15 rfl ?_
      refine p_iload_n k179_16 rfl ?_
      refine p_cV1i k179_17 (s_98 S) c_12_344_12 rfl (Nat.le_of_ble_eq_true rfl) (M_work S (I := upc I 120 g) (show TH (upc I 120 g) cb ce from M.th) (nI k)) (fun x1 m1 hq => ?_)
      obtain ⟨rfl, rfl⟩ := hq
      change EvP _ _ _ _ [.int (workF I cb ce (nI k)), .int (todM I cb ce nh (nI k)), .int (nI s)] _ _
      refine p_icmp_lt (tgt := 29) k179_20 (by decide) (fun c20 => ?_) (fun c20 => ?_)
      · skip
        refine p_iconst (v := nI 0) k179_29 (by decide) ?_
        refine p_iorN k179_30 ?_
        refine p_istore_n (ls' := [(0, _), (1, _), (2, _)]) k179_31 rfl ?_
        refine p_iincN (ls1 := [(0, _), (1, _), (2, _)]) k179_32 rfl rfl ?_
        refine p_goto (tgt := 4) k179_35 (by decide) ?_
        refine EvP.mono (ih (k + 1) _ _ (by omega)) (fun r t hq => ?_)
        obtain ⟨x, rfl, rfl, g9, rfl⟩ := hq
        exact ⟨_, rfl, by show nI (fld (fEno I cb ce nh) j (k + 1) _) = nI (fld (fEno I cb ce nh) j (k + 1) _); congr 2; unfold fEno; first | rw [if_pos c20] | rw [if_neg c20], g9, rfl⟩
      · skip
        refine p_iconst (v := nI 1) k179_23 (by decide) ?_
        refine p_iload_n k179_24 rfl ?_
        refine p_ishl1 (by omega) k179_25 ?_
        refine p_goto (tgt := 30) k179_26 (by decide) ?_
        refine p_iorN k179_30 ?_
        refine p_istore_n (ls' := [(0, _), (1, _), (2, _)]) k179_31 rfl ?_
        refine p_iincN (ls1 := [(0, _), (1, _), (2, _)]) k179_32 rfl rfl ?_
        refine p_goto (tgt := 4) k179_35 (by decide) ?_
        refine EvP.mono (ih (k + 1) _ _ (by omega)) (fun r t hq => ?_)
        obtain ⟨x, rfl, rfl, g9, rfl⟩ := hq
        exact ⟨_, rfl, by show nI (fld (fEno I cb ce nh) j (k + 1) _) = nI (fld (fEno I cb ce nh) j (k + 1) _); congr 2; unfold fEno; first | rw [if_pos c20] | rw [if_neg c20], g9, rfl⟩
  exact L 5 0 0 g (by omega)

def fBes (I : Nat → Nat → Int32) (cb ce a : Nat) (k : Nat) (s : Int32 × Int32) : Int32 × Int32 := if s.2 < deedM I cb ce a k then (nI k, deedM I cb ce a k) else s
def bestM (I : Nat → Nat → Int32) (cb ce nh na : Nat) (v : Int32) : Int32 := if ixB v na = true then (fld (fBes I cb ce v.toNatClampNeg) nh 0 (-5, -1)).1 else -1
set_option maxRecDepth 100000 in
set_option maxHeartbeats 4000000 in
theorem M_best {d : Nat} {I : Nat → Nat → Int32} {J : Nat → Nat → Int64} {K : Nat → Nat → Option Nat} {h : List xSh} (S : St K h) {nh na dd cb ce : Nat} (M : MI I nh na dd cb ce) (g : Nat → Int32) (v : Int32) : EvP (d + 4) 180 0 [(0, .ref (98)), (1, .int (v))] [] (upc I 120 g, J, K, h) (QI (fun x t => x = bestM I cb ce nh na v ∧ ∃ g, t = (upc I 120 g, J, K, h))) := by
  have hnh : upc I 120 g 98 0 = nI nh := M.nh
  have hnh6 := M.nh6
  have hna : upc I 120 g 98 1 = nI na := M.na
  have hna6 := M.na6
  refine p_aload_n k180_0 rfl ?_
  refine p_iload_n k180_1 rfl ?_
  refine p_cV1i k180_2 (s_98 S) c_12_256_12 rfl (Nat.le_of_ble_eq_true rfl) (M_isHat S hna hna6 (v)) (fun x1 m1 hq => ?_)
  obtain ⟨rfl, rfl⟩ := hq
  refine p_if_neB (tgt := 10) k180_5 (by decide) (fun c5 => ?_) (fun c5 => ?_)
  · skip
    obtain ⟨a, ha, rfl⟩ := ixB_of (n := na) (by omega) c5
    have hca := nI_clamp (n := a) (by omega)
    refine p_bipush (v := (-5)) k180_10 (by decide) ?_
    refine p_istore_n (ls' := [(0, _), (1, _), (2, _)]) k180_12 rfl ?_
    refine p_iconst (v := (-1)) k180_13 (by decide) ?_
    refine p_istore_n (ls' := [(0, _), (1, _), (2, _), (3, _)]) k180_14 rfl ?_
    refine p_iconst (v := nI 0) k180_15 (by decide) ?_
    refine p_istore (ls' := [(0, _), (1, _), (2, _), (3, _), (4, _)]) k180_16 rfl ?_
    have L : ∀ (j : Nat) (k : Nat) (s1 s2 : Int32) (g : Nat → Int32), k + j = nh → EvP (d + 4) 180 18 [(0, .ref (98)), (1, .int (nI (a))), (2, .int (s1)), (3, .int (s2)), (4, .int (nI (k)))] [] (upc I 120 g, J, K, h) (QI (fun x t => x = (fld (fBes I cb ce a) j k (s1, s2)).1 ∧ ∃ g, t = (upc I 120 g, J, K, h))) := by
      intro j
      induction j with
      | zero =>
        intro k s1 s2 g hk
        refine p_iload k180_18 rfl ?_
        refine p_aload_n k180_20 rfl ?_
        refine p_getIv k180_21 (s_98 S) f_12_7_12 M.nh ?_
        refine p_icmp_geN (tgt := 57) k180_24 (by decide) (by omega) (by omega) (fun _ => ?_) (fun c => False.elim (by omega))
        refine p_iload_n k180_57 rfl ?_
        refine p_ireturn k180_58 rt_180 ?_
        exact ⟨rfl, g, rfl⟩
      | succ j ih =>
        intro k s1 s2 g hk
        refine p_iload k180_18 rfl ?_
        refine p_aload_n k180_20 rfl ?_
        refine p_getIv k180_21 (s_98 S) f_12_7_12 M.nh ?_
        refine p_icmp_geN (tgt := 57) k180_24 (by decide) (by omega) (by omega) (fun c => False.elim (by omega)) (fun _ => ?_)
        refine p_aload_n k180_27 rfl ?_
        refine p_iload_n k180_28 rfl ?_
        refine p_iload k180_29 rfl ?_
        refine p_cV2i k180_31 (s_98 S) c_12_341_12 rfl rfl (Nat.le_of_ble_eq_true rfl) (M_deed2 S M g (a := a) (hh := k) (by omega) (by omega)) (fun x1 m1 hq => ?_)
        obtain ⟨rfl, g, rfl⟩ := hq
        refine p_istore (ls' := [(0, _), (1, _), (2, _), (3, _), (4, _), (5, _)]) k180_34 rfl ?_
        refine p_iload k180_36 rfl ?_
        refine p_iload_n k180_38 rfl ?_
        refine p_icmp_gt (tgt := 45) k180_39 (by decide) (fun c39 => ?_) (fun c39 => ?_)
        · skip
          refine p_iload k180_45 rfl ?_
          refine p_istore_n (ls' := [(0, _), (1, _), (2, _), (3, _), (4, _), (5, _)]) k180_47 rfl ?_
          refine p_iload k180_48 rfl ?_
          refine p_istore_n (ls' := [(0, _), (1, _), (2, _), (3, _), (4, _), (5, _)]) k180_50 rfl ?_
          refine p_iincN (ls1 := [(0, _), (1, _), (2, _), (3, _), (4, _), (5, _)]) k180_51 rfl rfl ?_
          refine p_goto (tgt := 18) k180_54 (by decide) ?_
          refine p_drop [0, 1, 2, 3, 4] rfl ?_
          refine EvP.mono (ih (k + 1) _ _ _ (by omega)) (fun r t hq => ?_)
          obtain ⟨x, rfl, rfl, g9, rfl⟩ := hq
          exact ⟨_, rfl, by show (fld (fBes I cb ce a) j (k + 1) _).1 = (fld (fBes I cb ce a) j (k + 1) _).1; congr 2; unfold fBes; first | rw [if_pos c39] | rw [if_neg c39], g9, rfl⟩
        · skip
          refine p_goto (tgt := 51) k180_42 (by decide) ?_
          refine p_iincN (ls1 := [(0, _), (1, _), (2, _), (3, _), (4, _), (5, _)]) k180_51 rfl rfl ?_
          refine p_goto (tgt := 18) k180_54 (by decide) ?_
          refine p_drop [0, 1, 2, 3, 4] rfl ?_
          refine EvP.mono (ih (k + 1) _ _ _ (by omega)) (fun r t hq => ?_)
          obtain ⟨x, rfl, rfl, g9, rfl⟩ := hq
          exact ⟨_, rfl, by show (fld (fBes I cb ce a) j (k + 1) _).1 = (fld (fBes I cb ce a) j (k + 1) _).1; congr 2; unfold fBes; first | rw [if_pos c39] | rw [if_neg c39], g9, rfl⟩
    refine EvP.mono (L nh 0 (-5) (-1) g (by omega)) (fun r t hq => ?_)
    obtain ⟨x, rfl, rfl, g9, rfl⟩ := hq
    exact ⟨_, rfl, by unfold bestM; rw [if_pos c5, hca], g9, rfl⟩
  · skip
    refine p_iconst (v := (-1)) k180_8 (by decide) ?_
    refine p_ireturn k180_9 rt_180 ?_
    exact ⟨by unfold bestM; rw [c5, if_neg (by decide)], g, rfl⟩

def swI (I : Nat → Nat → Int32) (a b : Nat) : Nat → Nat → Int32 := s1 (s1 I 101 a (I 101 b)) 101 b (I 101 a)
set_option maxRecDepth 100000 in
set_option maxHeartbeats 4000000 in
theorem M_swaps {d : Nat} {I : Nat → Nat → Int32} {J : Nat → Nat → Int64} {K : Nat → Nat → Option Nat} {h : List xSh} (S : St K h) {a b : Nat} (ha : a < 6) (hb : b < 6) : EvP d 176 0 [(0, .ref (98)), (1, .int (nI (a))), (2, .int (nI (b)))] [] (I, J, K, h) (QV (fun t => t = (swI I a b, J, K, h))) := by
  refine p_aload_n k176_0 rfl ?_
  refine p_getRv k176_1 (s_98 S) f_12_26_12 (r_98_5 S) ?_
  refine p_iload_n k176_4 rfl ?_
  refine p_ialdN k176_5 (s_101 S) (by omega) (by decide) rfl ?_
  refine p_istore_n (ls' := [(0, _), (1, _), (2, _), (3, _)]) k176_6 rfl ?_
  refine p_aload_n k176_7 rfl ?_
  refine p_getRv k176_8 (s_98 S) f_12_26_12 (r_98_5 S) ?_
  refine p_iload_n k176_11 rfl ?_
  refine p_aload_n k176_12 rfl ?_
  refine p_getRv k176_13 (s_98 S) f_12_26_12 (r_98_5 S) ?_
  refine p_iload_n k176_16 rfl ?_
  refine p_ialdN k176_17 (s_101 S) (by omega) (by decide) rfl ?_
  refine p_iastN k176_18 (s_101 S) (by omega) (by decide) ?_
  refine p_aload_n k176_19 rfl ?_
  refine p_getRv k176_20 (s_98 S) f_12_26_12 (r_98_5 S) ?_
  refine p_iload_n k176_23 rfl ?_
  refine p_iload_n k176_24 rfl ?_
  refine p_iastN k176_25 (s_101 S) (by omega) (by decide) ?_
  refine p_return k176_26 rt_176 ?_
  exact rfl

def changeM (I : Nat → Nat → Int32) (nh : Nat) (v w : Int32) : Int32 × (Nat → Nat → Int32) := if ixB v nh = false ∨ ixB w nh = false then (-1, I) else if v = w then (-2, I) else (nI 1, swI I v.toNatClampNeg w.toNatClampNeg)
def hatM (I : Nat → Nat → Int32) (na : Nat) (k n z s t : Int32) : Int32 × (Nat → Nat → Int32) :=
  if inB k (nI 0) (nI 6) = false ∨ ixB t 5 = false then (-1, I) else if inB n (nI 0) (nI 9) = false ∨ inB z (nI 0) (nI 9) = false ∨ inB s (nI 0) (nI 50) = false then (-2, I) else if na = 6 then (-4, I)
  else (nI na, s1 (s1 (s1 (s1 (s1 (s1 (s1 (s1 (s1 (s1 (s1 I 102 na k) 103 na n) 104 na z) 105 na s) 106 na t) 107 na (nI 0)) 108 (4 * na) (nI 0)) 108 (4 * na + 1) (nI 0)) 108 (4 * na + 2) (nI 0)) 108 (4 * na + 3) (nI 0)) 98 1 (nI (na + 1)))
set_option maxRecDepth 100000 in
set_option maxHeartbeats 4000000 in
theorem M_hat {d : Nat} {I : Nat → Nat → Int32} {J : Nat → Nat → Int64} {K : Nat → Nat → Option Nat} {h : List xSh} (S : St K h) {nh na dd cb ce : Nat} (M : MI I nh na dd cb ce) (q1 q2 q3 q4 q5 : Int32) : EvP (d + 2) 137 0 [(0, .ref (98)), (1, .int (q1)), (2, .int (q2)), (3, .int (q3)), (4, .int (q4)), (5, .int (q5))] [] (I, J, K, h) (QI (fun x t => x = (hatM I na q1 q2 q3 q4 q5).1 ∧ t = ((hatM I na q1 q2 q3 q4 q5).2, J, K, h))) := by
  have hnh := M.nh
  have hnh6 := M.nh6
  have hna := M.na
  have hna6 := M.na6
  refine p_aload_n k137_0 rfl ?_
  refine p_iload_n k137_1 rfl ?_
  refine p_iconst (v := nI 0) k137_2 (by decide) ?_
  refine p_bipush (v := nI 6) k137_3 (by decide) ?_
  refine p_cV3i k137_5 (s_98 S) c_12_248_12 rfl rfl rfl (Nat.le_of_ble_eq_true rfl) (M_in S (q1) (nI (0)) (nI (6))) (fun x1 m1 hq => ?_)
  obtain ⟨rfl, rfl⟩ := hq
  refine p_if_eqB (tgt := 20) k137_8 (by decide) (fun c8 => ?_) (fun c8 => ?_)
  · skip
    refine p_iconst (v := (-1)) k137_20 (by decide) ?_
    refine p_ireturn k137_21 rt_137 ?_
    exact ⟨by simp [hatM, s1, *], by simp [hatM, s1, *]⟩
  · skip
    refine p_aload_n k137_11 rfl ?_
    refine p_iload k137_12 rfl ?_
    refine p_cV1i k137_14 (s_98 S) c_12_252_12 rfl (Nat.le_of_ble_eq_true rfl) (M_isTrade S (q5)) (fun x1 m1 hq => ?_)
    obtain ⟨rfl, rfl⟩ := hq
    refine p_if_neB (tgt := 22) k137_17 (by decide) (fun c17 => ?_) (fun c17 => ?_)
    · skip
      refine p_aload_n k137_22 rfl ?_
      refine p_iload_n k137_23 rfl ?_
      refine p_iconst (v := nI 0) k137_24 (by decide) ?_
      refine p_bipush (v := nI 9) k137_25 (by decide) ?_
      refine p_cV3i k137_27 (s_98 S) c_12_248_12 rfl rfl rfl (Nat.le_of_ble_eq_true rfl) (M_in S (q2) (nI (0)) (nI (9))) (fun x1 m1 hq => ?_)
      obtain ⟨rfl, rfl⟩ := hq
      refine p_if_eqB (tgt := 56) k137_30 (by decide) (fun c30 => ?_) (fun c30 => ?_)
      · skip
        refine p_bipush (v := (-2)) k137_56 (by decide) ?_
        refine p_ireturn k137_58 rt_137 ?_
        exact ⟨by simp [hatM, s1, *], by simp [hatM, s1, *]⟩
      · skip
        refine p_aload_n k137_33 rfl ?_
        refine p_iload_n k137_34 rfl ?_
        refine p_iconst (v := nI 0) k137_35 (by decide) ?_
        refine p_bipush (v := nI 9) k137_36 (by decide) ?_
        refine p_cV3i k137_38 (s_98 S) c_12_248_12 rfl rfl rfl (Nat.le_of_ble_eq_true rfl) (M_in S (q3) (nI (0)) (nI (9))) (fun x1 m1 hq => ?_)
        obtain ⟨rfl, rfl⟩ := hq
        refine p_if_eqB (tgt := 56) k137_41 (by decide) (fun c41 => ?_) (fun c41 => ?_)
        · skip
          refine p_bipush (v := (-2)) k137_56 (by decide) ?_
          refine p_ireturn k137_58 rt_137 ?_
          exact ⟨by simp [hatM, s1, *], by simp [hatM, s1, *]⟩
        · skip
          refine p_aload_n k137_44 rfl ?_
          refine p_iload k137_45 rfl ?_
          refine p_iconst (v := nI 0) k137_47 (by decide) ?_
          refine p_bipush (v := nI 50) k137_48 (by decide) ?_
          refine p_cV3i k137_50 (s_98 S) c_12_248_12 rfl rfl rfl (Nat.le_of_ble_eq_true rfl) (M_in S (q4) (nI (0)) (nI (50))) (fun x1 m1 hq => ?_)
          obtain ⟨rfl, rfl⟩ := hq
          refine p_if_neB (tgt := 59) k137_53 (by decide) (fun c53 => ?_) (fun c53 => ?_)
          · skip
            refine p_aload_n k137_59 rfl ?_
            refine p_getIv k137_60 (s_98 S) f_12_13_12 M.na ?_
            refine p_bipush (v := nI 6) k137_63 (by decide) ?_
            refine p_icmp_neN (tgt := 71) k137_65 (by decide) (by omega) (by omega) (fun c65 => ?_) (fun c65 => ?_)
            · skip
              refine p_aload_n k137_71 rfl ?_
              refine p_getRv k137_72 (s_98 S) f_12_29_12 (r_98_6 S) ?_
              refine p_aload_n k137_75 rfl ?_
              refine p_getIv k137_76 (s_98 S) f_12_13_12 M.na ?_
              refine p_iload_n k137_79 rfl ?_
              refine p_iastN k137_80 (s_102 S) (by omega) (by decide) ?_
              refine p_aload_n k137_81 rfl ?_
              refine p_getRv k137_82 (s_98 S) f_12_32_12 (r_98_7 S) ?_
              refine p_aload_n k137_85 rfl ?_
              refine p_getIv k137_86 (s_98 S) f_12_13_12 M.na ?_
              refine p_iload_n k137_89 rfl ?_
              refine p_iastN k137_90 (s_103 S) (by omega) (by decide) ?_
              refine p_aload_n k137_91 rfl ?_
              refine p_getRv k137_92 (s_98 S) f_12_35_12 (r_98_8 S) ?_
              refine p_aload_n k137_95 rfl ?_
              refine p_getIv k137_96 (s_98 S) f_12_13_12 M.na ?_
              refine p_iload_n k137_99 rfl ?_
              refine p_iastN k137_100 (s_104 S) (by omega) (by decide) ?_
              refine p_aload_n k137_101 rfl ?_
              refine p_getRv k137_102 (s_98 S) f_12_38_12 (r_98_9 S) ?_
              refine p_aload_n k137_105 rfl ?_
              refine p_getIv k137_106 (s_98 S) f_12_13_12 M.na ?_
              refine p_iload k137_109 rfl ?_
              refine p_iastN k137_111 (s_105 S) (by omega) (by decide) ?_
              refine p_aload_n k137_112 rfl ?_
              refine p_getRv k137_113 (s_98 S) f_12_41_12 (r_98_10 S) ?_
              refine p_aload_n k137_116 rfl ?_
              refine p_getIv k137_117 (s_98 S) f_12_13_12 M.na ?_
              refine p_iload k137_120 rfl ?_
              refine p_iastN k137_122 (s_106 S) (by omega) (by decide) ?_
              refine p_aload_n k137_123 rfl ?_
              refine p_getRv k137_124 (s_98 S) f_12_44_12 (r_98_11 S) ?_
              refine p_aload_n k137_127 rfl ?_
              refine p_getIv k137_128 (s_98 S) f_12_13_12 M.na ?_
              refine p_iconst (v := nI 0) k137_131 (by decide) ?_
              refine p_iastN k137_132 (s_107 S) (by omega) (by decide) ?_
              refine p_iconst (v := nI 0) k137_133 (by decide) ?_
              refine p_istore (ls' := [(0, _), (1, _), (2, _), (3, _), (4, _), (5, _), (6, _)]) k137_134 rfl ?_
              refine p_iload k137_136 rfl ?_
              refine p_iconst (v := nI 4) k137_138 (by decide) ?_
              refine p_icmp_geN (tgt := 163) k137_139 (by decide) (by omega) (by omega) (fun c => False.elim (by omega)) (fun _ => ?_)
              refine p_aload_n k137_142 rfl ?_
              refine p_getRv k137_143 (s_98 S) f_12_47_12 (r_98_12 S) ?_
              refine p_iconst (v := nI 4) k137_146 (by decide) ?_
              refine p_aload_n k137_147 rfl ?_
              refine p_getIv k137_148 (s_98 S) f_12_13_12 M.na ?_
              refine p_imulN k137_151 ?_
              refine p_iload k137_152 rfl ?_
              refine p_iaddN k137_154 ?_
              refine p_iconst (v := nI 0) k137_155 (by decide) ?_
              refine p_iastN k137_156 (s_108 S) (by omega) (by decide) ?_
              refine p_iincN (ls1 := [(0, _), (1, _), (2, _), (3, _), (4, _), (5, _), (6, _)]) k137_157 rfl rfl ?_
              refine p_goto (tgt := 136) k137_160 (by decide) ?_
              refine p_iload k137_136 rfl ?_
              refine p_iconst (v := nI 4) k137_138 (by decide) ?_
              refine p_icmp_geN (tgt := 163) k137_139 (by decide) (by omega) (by omega) (fun c => False.elim (by omega)) (fun _ => ?_)
              refine p_aload_n k137_142 rfl ?_
              refine p_getRv k137_143 (s_98 S) f_12_47_12 (r_98_12 S) ?_
              refine p_iconst (v := nI 4) k137_146 (by decide) ?_
              refine p_aload_n k137_147 rfl ?_
              refine p_getIv k137_148 (s_98 S) f_12_13_12 M.na ?_
              refine p_imulN k137_151 ?_
              refine p_iload k137_152 rfl ?_
              refine p_iaddN k137_154 ?_
              refine p_iconst (v := nI 0) k137_155 (by decide) ?_
              refine p_iastN k137_156 (s_108 S) (by omega) (by decide) ?_
              refine p_iincN (ls1 := [(0, _), (1, _), (2, _), (3, _), (4, _), (5, _), (6, _)]) k137_157 rfl rfl ?_
              refine p_goto (tgt := 136) k137_160 (by decide) ?_
              refine p_iload k137_136 rfl ?_
              refine p_iconst (v := nI 4) k137_138 (by decide) ?_
              refine p_icmp_geN (tgt := 163) k137_139 (by decide) (by omega) (by omega) (fun c => False.elim (by omega)) (fun _ => ?_)
              refine p_aload_n k137_142 rfl ?_
              refine p_getRv k137_143 (s_98 S) f_12_47_12 (r_98_12 S) ?_
              refine p_iconst (v := nI 4) k137_146 (by decide) ?_
              refine p_aload_n k137_147 rfl ?_
              refine p_getIv k137_148 (s_98 S) f_12_13_12 M.na ?_
              refine p_imulN k137_151 ?_
              refine p_iload k137_152 rfl ?_
              refine p_iaddN k137_154 ?_
              refine p_iconst (v := nI 0) k137_155 (by decide) ?_
              refine p_iastN k137_156 (s_108 S) (by omega) (by decide) ?_
              refine p_iincN (ls1 := [(0, _), (1, _), (2, _), (3, _), (4, _), (5, _), (6, _)]) k137_157 rfl rfl ?_
              refine p_goto (tgt := 136) k137_160 (by decide) ?_
              refine p_iload k137_136 rfl ?_
              refine p_iconst (v := nI 4) k137_138 (by decide) ?_
              refine p_icmp_geN (tgt := 163) k137_139 (by decide) (by omega) (by omega) (fun c => False.elim (by omega)) (fun _ => ?_)
              refine p_aload_n k137_142 rfl ?_
              refine p_getRv k137_143 (s_98 S) f_12_47_12 (r_98_12 S) ?_
              refine p_iconst (v := nI 4) k137_146 (by decide) ?_
              refine p_aload_n k137_147 rfl ?_
              refine p_getIv k137_148 (s_98 S) f_12_13_12 M.na ?_
              refine p_imulN k137_151 ?_
              refine p_iload k137_152 rfl ?_
              refine p_iaddN k137_154 ?_
              refine p_iconst (v := nI 0) k137_155 (by decide) ?_
              refine p_iastN k137_156 (s_108 S) (by omega) (by decide) ?_
              refine p_iincN (ls1 := [(0, _), (1, _), (2, _), (3, _), (4, _), (5, _), (6, _)]) k137_157 rfl rfl ?_
              refine p_goto (tgt := 136) k137_160 (by decide) ?_
              refine p_iload k137_136 rfl ?_
              refine p_iconst (v := nI 4) k137_138 (by decide) ?_
              refine p_icmp_geN (tgt := 163) k137_139 (by decide) (by omega) (by omega) (fun _ => ?_) (fun c => False.elim (by omega))
              refine p_aload_n k137_163 rfl ?_
              refine p_dup k137_164 rfl ?_
              refine p_getIv k137_165 (s_98 S) f_12_13_12 M.na ?_
              refine p_iconst (v := nI 1) k137_168 (by decide) ?_
              refine p_iaddN k137_169 ?_
              refine p_putIv k137_170 (s_98 S) g_12_13_12 n_137_12_1 ?_
              refine p_aload_n k137_173 rfl ?_
              refine p_getIv k137_174 (s_98 S) f_12_13_12 (show _ = nI (na + 1) from rfl) ?_
              refine p_iconst (v := nI 1) k137_177 (by decide) ?_
              refine p_isubN (by omega) k137_178 ?_
              refine p_ireturn k137_179 rt_137 ?_
              exact ⟨by simp [hatM, s1, *], by simp [hatM, s1, *]⟩
            · skip
              refine p_bipush (v := (-4)) k137_68 (by decide) ?_
              refine p_ireturn k137_70 rt_137 ?_
              exact ⟨by simp [hatM, s1, *], by simp [hatM, s1, *]⟩
          · skip
            refine p_bipush (v := (-2)) k137_56 (by decide) ?_
            refine p_ireturn k137_58 rt_137 ?_
            exact ⟨by simp [hatM, s1, *], by simp [hatM, s1, *]⟩
    · skip
      refine p_iconst (v := (-1)) k137_20 (by decide) ?_
      refine p_ireturn k137_21 rt_137 ?_
      exact ⟨by simp [hatM, s1, *], by simp [hatM, s1, *]⟩

