/-! the reference: see, book, quarrel, how, wore, looked -/
def seeM (I : Nat → Nat → Int32) (na sn : Nat) (v w : Int32) : Int32 × (Nat → Nat → Int32) := if v = -1 then (nI 0, s1 I 98 43 (nI 0)) else if ixB v na = false then (-1, I) else if inB w (nI 0) (nI 999) = false then (-2, I) else if sn = 6 then (-4, I) else (nI (sn + 1), s1 (s1 (s1 I 128 sn v) 129 sn w) 98 43 (nI (sn + 1)))
def bookM (I : Nat → Nat → Int32) (nh na bn : Nat) (v w : Int32) : Int32 × (Nat → Nat → Int32) := if v = -1 then (nI 0, s1 I 98 47 (nI 0)) else if ixB v na = false ∨ ixB w nh = false then (-1, I) else if bn = 8 then (-4, I) else (nI (bn + 1), s1 (s1 (s1 I 131 bn v) 132 bn w) 98 47 (nI (bn + 1)))
set_option maxRecDepth 100000 in
set_option maxHeartbeats 4000000 in
theorem M_see {d : Nat} {I : Nat → Nat → Int32} {J : Nat → Nat → Int64} {K : Nat → Nat → Option Nat} {h : List xSh} (S : St K h) {nh na dd cb ce : Nat} (M : MI I nh na dd cb ce) {sn : Nat} (hsn : I 98 43 = nI sn) (hs6 : sn ≤ 6) (v w : Int32) : EvP (d + 2) 202 0 [(0, .ref (98)), (1, .int (v)), (2, .int (w))] [] (I, J, K, h) (QI (fun x t => x = (seeM I na sn v w).1 ∧ t = ((seeM I na sn v w).2, J, K, h))) := by
  have hnh := M.nh
  have hnh6 := M.nh6
  have hna := M.na
  have hna6 := M.na6
  refine p_iload_n k202_0 rfl ?_
  refine p_iconst (v := (-1)) k202_1 (by decide) ?_
  refine p_icmp_ne (tgt := 12) k202_2 (by decide) (fun c2 => ?_) (fun c2 => ?_)
  · skip
    refine p_aload_n k202_12 rfl ?_
    refine p_iload_n k202_13 rfl ?_
    refine p_cV1i k202_14 (s_98 S) c_12_256_12 rfl (Nat.le_of_ble_eq_true rfl) (M_isHat S hna hna6 (v)) (fun x1 m1 hq => ?_)
    obtain ⟨rfl, rfl⟩ := hq
    refine p_if_neB (tgt := 22) k202_17 (by decide) (fun c17 => ?_) (fun c17 => ?_)
    · skip
      refine p_aload_n k202_22 rfl ?_
      refine p_iload_n k202_23 rfl ?_
      refine p_iconst (v := nI 0) k202_24 (by decide) ?_
      refine p_sipush (v := nI 999) k202_25 (by decide) ?_
      refine p_cV3i k202_28 (s_98 S) c_12_248_12 rfl rfl rfl (Nat.le_of_ble_eq_true rfl) (M_in S (w) (nI (0)) (nI (999))) (fun x1 m1 hq => ?_)
      obtain ⟨rfl, rfl⟩ := hq
      refine p_if_neB (tgt := 37) k202_31 (by decide) (fun c31 => ?_) (fun c31 => ?_)
      · skip
        refine p_aload_n k202_37 rfl ?_
        refine p_getIv k202_38 (s_98 S) f_12_141_12 hsn ?_
        refine p_bipush (v := nI 6) k202_41 (by decide) ?_
        refine p_icmp_neN (tgt := 49) k202_43 (by decide) (by omega) (by omega) (fun c43 => ?_) (fun c43 => ?_)
        · skip
          refine p_aload_n k202_49 rfl ?_
          refine p_getRv k202_50 (s_98 S) f_12_144_12 (r_98_44 S) ?_
          refine p_aload_n k202_53 rfl ?_
          refine p_getIv k202_54 (s_98 S) f_12_141_12 hsn ?_
          refine p_iload_n k202_57 rfl ?_
          refine p_iastN k202_58 (s_128 S) (by omega) (by decide) ?_
          refine p_aload_n k202_59 rfl ?_
          refine p_getRv k202_60 (s_98 S) f_12_147_12 (r_98_45 S) ?_
          refine p_aload_n k202_63 rfl ?_
          refine p_getIv k202_64 (s_98 S) f_12_141_12 hsn ?_
          refine p_iload_n k202_67 rfl ?_
          refine p_iastN k202_68 (s_129 S) (by omega) (by decide) ?_
          refine p_aload_n k202_69 rfl ?_
          refine p_dup k202_70 rfl ?_
          refine p_getIv k202_71 (s_98 S) f_12_141_12 hsn ?_
          refine p_iconst (v := nI 1) k202_74 (by decide) ?_
          refine p_iaddN k202_75 ?_
          refine p_putIv k202_76 (s_98 S) g_12_141_12 n_202_12_43 ?_
          refine p_aload_n k202_79 rfl ?_
          refine p_getIv k202_80 (s_98 S) f_12_141_12 (show _ = nI (sn + 1) from rfl) ?_
          refine p_ireturn k202_83 rt_202 ?_
          exact ⟨by simp [seeM, s1, *], by simp [seeM, s1, *]⟩
        · skip
          refine p_bipush (v := (-4)) k202_46 (by decide) ?_
          refine p_ireturn k202_48 rt_202 ?_
          exact ⟨by simp [seeM, s1, *], by simp [seeM, s1, *]⟩
      · skip
        refine p_bipush (v := (-2)) k202_34 (by decide) ?_
        refine p_ireturn k202_36 rt_202 ?_
        exact ⟨by simp [seeM, s1, *], by simp [seeM, s1, *]⟩
    · skip
      refine p_iconst (v := (-1)) k202_20 (by decide) ?_
      refine p_ireturn k202_21 rt_202 ?_
      exact ⟨by simp [seeM, s1, *], by simp [seeM, s1, *]⟩
  · skip
    refine p_aload_n k202_5 rfl ?_
    refine p_iconst (v := nI 0) k202_6 (by decide) ?_
    refine p_putIv k202_7 (s_98 S) g_12_141_12 n_202_12_43 ?_
    refine p_iconst (v := nI 0) k202_10 (by decide) ?_
    refine p_ireturn k202_11 rt_202 ?_
    exact ⟨by simp [seeM, s1, *], by simp [seeM, s1, *]⟩

set_option maxRecDepth 100000 in
set_option maxHeartbeats 4000000 in
theorem M_book {d : Nat} {I : Nat → Nat → Int32} {J : Nat → Nat → Int64} {K : Nat → Nat → Option Nat} {h : List xSh} (S : St K h) {nh na dd cb ce : Nat} (M : MI I nh na dd cb ce) {bn : Nat} (hbn : I 98 47 = nI bn) (hb8 : bn ≤ 8) (v w : Int32) : EvP (d + 2) 210 0 [(0, .ref (98)), (1, .int (v)), (2, .int (w))] [] (I, J, K, h) (QI (fun x t => x = (bookM I nh na bn v w).1 ∧ t = ((bookM I nh na bn v w).2, J, K, h))) := by
  have hnh := M.nh
  have hnh6 := M.nh6
  have hna := M.na
  have hna6 := M.na6
  refine p_iload_n k210_0 rfl ?_
  refine p_iconst (v := (-1)) k210_1 (by decide) ?_
  refine p_icmp_ne (tgt := 12) k210_2 (by decide) (fun c2 => ?_) (fun c2 => ?_)
  · skip
    refine p_aload_n k210_12 rfl ?_
    refine p_iload_n k210_13 rfl ?_
    refine p_cV1i k210_14 (s_98 S) c_12_256_12 rfl (Nat.le_of_ble_eq_true rfl) (M_isHat S hna hna6 (v)) (fun x1 m1 hq => ?_)
    obtain ⟨rfl, rfl⟩ := hq
    refine p_if_eqB (tgt := 28) k210_17 (by decide) (fun c17 => ?_) (fun c17 => ?_)
    · skip
      refine p_iconst (v := (-1)) k210_28 (by decide) ?_
      refine p_ireturn k210_29 rt_210 ?_
      exact ⟨by simp [bookM, s1, *], by simp [bookM, s1, *]⟩
    · skip
      refine p_aload_n k210_20 rfl ?_
      refine p_iload_n k210_21 rfl ?_
      refine p_cV1i k210_22 (s_98 S) c_12_259_12 rfl (Nat.le_of_ble_eq_true rfl) (M_isHead S hnh hnh6 (w)) (fun x1 m1 hq => ?_)
      obtain ⟨rfl, rfl⟩ := hq
      refine p_if_neB (tgt := 30) k210_25 (by decide) (fun c25 => ?_) (fun c25 => ?_)
      · skip
        refine p_aload_n k210_30 rfl ?_
        refine p_getIv k210_31 (s_98 S) f_12_153_12 hbn ?_
        refine p_bipush (v := nI 8) k210_34 (by decide) ?_
        refine p_icmp_neN (tgt := 42) k210_36 (by decide) (by omega) (by omega) (fun c36 => ?_) (fun c36 => ?_)
        · skip
          refine p_aload_n k210_42 rfl ?_
          refine p_getRv k210_43 (s_98 S) f_12_156_12 (r_98_48 S) ?_
          refine p_aload_n k210_46 rfl ?_
          refine p_getIv k210_47 (s_98 S) f_12_153_12 hbn ?_
          refine p_iload_n k210_50 rfl ?_
          refine p_iastN k210_51 (s_131 S) (by omega) (by decide) ?_
          refine p_aload_n k210_52 rfl ?_
          refine p_getRv k210_53 (s_98 S) f_12_159_12 (r_98_49 S) ?_
          refine p_aload_n k210_56 rfl ?_
          refine p_getIv k210_57 (s_98 S) f_12_153_12 hbn ?_
          refine p_iload_n k210_60 rfl ?_
          refine p_iastN k210_61 (s_132 S) (by omega) (by decide) ?_
          refine p_aload_n k210_62 rfl ?_
          refine p_dup k210_63 rfl ?_
          refine p_getIv k210_64 (s_98 S) f_12_153_12 hbn ?_
          refine p_iconst (v := nI 1) k210_67 (by decide) ?_
          refine p_iaddN k210_68 ?_
          refine p_putIv k210_69 (s_98 S) g_12_153_12 n_210_12_47 ?_
          refine p_aload_n k210_72 rfl ?_
          refine p_getIv k210_73 (s_98 S) f_12_153_12 (show _ = nI (bn + 1) from rfl) ?_
          refine p_ireturn k210_76 rt_210 ?_
          exact ⟨by simp [bookM, s1, *], by simp [bookM, s1, *]⟩
        · skip
          refine p_bipush (v := (-4)) k210_39 (by decide) ?_
          refine p_ireturn k210_41 rt_210 ?_
          exact ⟨by simp [bookM, s1, *], by simp [bookM, s1, *]⟩
      · skip
        refine p_iconst (v := (-1)) k210_28 (by decide) ?_
        refine p_ireturn k210_29 rt_210 ?_
        exact ⟨by simp [bookM, s1, *], by simp [bookM, s1, *]⟩
  · skip
    refine p_aload_n k210_5 rfl ?_
    refine p_iconst (v := nI 0) k210_6 (by decide) ?_
    refine p_putIv k210_7 (s_98 S) g_12_153_12 n_210_12_47 ?_
    refine p_iconst (v := nI 0) k210_10 (by decide) ?_
    refine p_ireturn k210_11 rt_210 ?_
    exact ⟨by simp [bookM, s1, *], by simp [bookM, s1, *]⟩

def quarM (I : Nat → Nat → Int32) (cb ce nh na : Nat) (v w z : Int32) : Int32 := if ixB v na = false ∨ ixB w na = false ∨ ixB z nh = false then -10001 else if v = w then -10002 else deedM I cb ce v.toNatClampNeg z.toNatClampNeg - deedM I cb ce w.toNatClampNeg z.toNatClampNeg
set_option maxRecDepth 100000 in
set_option maxHeartbeats 4000000 in
theorem M_quarrel {d : Nat} {I : Nat → Nat → Int32} {J : Nat → Nat → Int64} {K : Nat → Nat → Option Nat} {h : List xSh} (S : St K h) {nh na dd cb ce : Nat} (M : MI I nh na dd cb ce) (g : Nat → Int32) (v w z : Int32) : EvP (d + 4) 200 0 [(0, .ref (98)), (1, .int (v)), (2, .int (w)), (3, .int (z))] [] (upc I 120 g, J, K, h) (QI (fun x t => x = quarM I cb ce nh na v w z ∧ ∃ g, t = (upc I 120 g, J, K, h))) := by
  have hnh : upc I 120 g 98 0 = nI nh := M.nh
  have hnh6 := M.nh6
  have hna : upc I 120 g 98 1 = nI na := M.na
  have hna6 := M.na6
  refine p_aload_n k200_0 rfl ?_
  refine p_iload_n k200_1 rfl ?_
  refine p_cV1i k200_2 (s_98 S) c_12_256_12 rfl (Nat.le_of_ble_eq_true rfl) (M_isHat S hna hna6 (v)) (fun x1 m1 hq => ?_)
  obtain ⟨rfl, rfl⟩ := hq
  refine p_if_eqB (tgt := 24) k200_5 (by decide) (fun c5 => ?_) (fun c5 => ?_)
  · skip
    refine p_sipush (v := (-10001)) k200_24 (by decide) ?_
    refine p_ireturn k200_27 rt_200 ?_
    exact ⟨by simp [quarM, *], g, rfl⟩
  · skip
    refine p_aload_n k200_8 rfl ?_
    refine p_iload_n k200_9 rfl ?_
    refine p_cV1i k200_10 (s_98 S) c_12_256_12 rfl (Nat.le_of_ble_eq_true rfl) (M_isHat S hna hna6 (w)) (fun x1 m1 hq => ?_)
    obtain ⟨rfl, rfl⟩ := hq
    refine p_if_eqB (tgt := 24) k200_13 (by decide) (fun c13 => ?_) (fun c13 => ?_)
    · skip
      refine p_sipush (v := (-10001)) k200_24 (by decide) ?_
      refine p_ireturn k200_27 rt_200 ?_
      exact ⟨by simp [quarM, *], g, rfl⟩
    · skip
      refine p_aload_n k200_16 rfl ?_
      refine p_iload_n k200_17 rfl ?_
      refine p_cV1i k200_18 (s_98 S) c_12_259_12 rfl (Nat.le_of_ble_eq_true rfl) (M_isHead S hnh hnh6 (z)) (fun x1 m1 hq => ?_)
      obtain ⟨rfl, rfl⟩ := hq
      refine p_if_neB (tgt := 28) k200_21 (by decide) (fun c21 => ?_) (fun c21 => ?_)
      · skip
        obtain ⟨a, ha, rfl⟩ := ixB_of (n := na) (by omega) c5
        have hca := nI_clamp (n := a) (by omega)
        obtain ⟨b, hb, rfl⟩ := ixB_of (n := na) (by omega) c13
        have hcb := nI_clamp (n := b) (by omega)
        obtain ⟨c, hc, rfl⟩ := ixB_of (n := nh) (by omega) c21
        have hcc := nI_clamp (n := c) (by omega)
        refine p_iload_n k200_28 rfl ?_
        refine p_iload_n k200_29 rfl ?_
        refine p_icmp_ne (tgt := 39) k200_30 (by decide) (fun c30 => ?_) (fun c30 => ?_)
        · skip
          refine p_aload_n k200_39 rfl ?_
          refine p_iload_n k200_40 rfl ?_
          refine p_iload_n k200_41 rfl ?_
          refine p_cV2i k200_42 (s_98 S) c_12_341_12 rfl rfl (Nat.le_of_ble_eq_true rfl) (M_deed2 S M g (a := a) (hh := c) (by omega) (by omega)) (fun x1 m1 hq => ?_)
          obtain ⟨rfl, g, rfl⟩ := hq
          refine p_aload_n k200_45 rfl ?_
          refine p_iload_n k200_46 rfl ?_
          refine p_iload_n k200_47 rfl ?_
          refine p_cV2i k200_48 (s_98 S) c_12_341_12 rfl rfl (Nat.le_of_ble_eq_true rfl) (M_deed2 S M g (a := b) (hh := c) (by omega) (by omega)) (fun x1 m1 hq => ?_)
          obtain ⟨rfl, g, rfl⟩ := hq
          refine p_isub k200_51 ?_
          refine p_ireturn k200_52 rt_200 ?_
          exact ⟨by simp [quarM, *], g, rfl⟩
        · skip
          refine p_sipush (v := (-10002)) k200_33 (by decide) ?_
          refine p_goto (tgt := 52) k200_36 (by decide) ?_
          refine p_ireturn k200_52 rt_200 ?_
          exact ⟨by simp [quarM, *], g, rfl⟩
      · skip
        refine p_sipush (v := (-10001)) k200_24 (by decide) ?_
        refine p_ireturn k200_27 rt_200 ?_
        exact ⟨by simp [quarM, *], g, rfl⟩

def fHoN (I : Nat → Nat → Int32) (k n : Nat) : Nat := if I 101 k < 0 then n else n + (if apartI I (I 101 k).toNatClampNeg k ≤ 0 then 0 else 1)
def fHoB (w : Nat → Int32) (k s : Nat) : Nat := if w k < 0 then s ||| 2 ^ k else s
def howM (I : Nat → Nat → Int32) (nh : Nat) (v : Int32) : Int32 := if inB v (nI 0) (nI 1) = true then (if v = 0 then nI (fld (fHoN I) nh 0 0) else nI (fld (fHoB (I 101)) nh 0 0)) else -1
set_option maxRecDepth 100000 in
set_option maxHeartbeats 4000000 in
theorem M_how {d : Nat} {I : Nat → Nat → Int32} {J : Nat → Nat → Int64} {K : Nat → Nat → Option Nat} {h : List xSh} (S : St K h) {nh na dd cb ce : Nat} (M : MI I nh na dd cb ce) (v : Int32) : EvP (d + 1) 201 0 [(0, .ref (98)), (1, .int (v))] [] (I, J, K, h) (QI (fun x t => x = howM I nh v ∧ t = (I, J, K, h))) := by
  have hnh := M.nh
  have hnh6 := M.nh6
  have hna := M.na
  have hna6 := M.na6
  refine p_aload_n k201_0 rfl ?_
  refine p_iload_n k201_1 rfl ?_
  refine p_iconst (v := nI 0) k201_2 (by decide) ?_
  refine p_iconst (v := nI 1) k201_3 (by decide) ?_
  refine p_cV3i k201_4 (s_98 S) c_12_248_12 rfl rfl rfl (Nat.le_of_ble_eq_true rfl) (M_in S (v) (nI (0)) (nI (1))) (fun x1 m1 hq => ?_)
  obtain ⟨rfl, rfl⟩ := hq
  refine p_if_neB (tgt := 12) k201_7 (by decide) (fun c7 => ?_) (fun c7 => ?_)
  · skip
    refine p_iconst (v := nI 0) k201_12 (by decide) ?_
    refine p_istore_n (ls' := [(0, _), (1, _), (2, _)]) k201_13 rfl ?_
    refine p_iconst (v := nI 0) k201_14 (by decide) ?_
    refine p_istore_n (ls' := [(0, _), (1, _), (2, _), (3, _)]) k201_15 rfl ?_
    refine p_iconst (v := nI 0) k201_16 (by decide) ?_
    refine p_istore (ls' := [(0, _), (1, _), (2, _), (3, _), (4, _)]) k201_17 rfl ?_
    have L : ∀ (j : Nat) (k n s : Nat), k + j = nh → fld (fHoN I) j k n = fld (fHoN I) nh 0 0 → fld (fHoB (I 101)) j k s = fld (fHoB (I 101)) nh 0 0 → EvP (d + 1) 201 19 [(0, .ref (98)), (1, .int (v)), (2, .int (nI (n))), (3, .int (nI (s))), (4, .int (nI (k)))] [] (I, J, K, h) (QI (fun x t => x = howM I nh v ∧ t = (I, J, K, h))) := by
      intro j
      induction j with
      | zero =>
        intro k n s hk
        intro hn hs
        replace hn : n = _ := hn
        replace hs : s = _ := hs
        have hnn := hn; have hss := hs
        clear hn hs
        have hn := hnn.symm; have hs := hss.symm
        refine p_iload k201_19 rfl ?_
        refine p_aload_n k201_21 rfl ?_
        refine p_getIv k201_22 (s_98 S) f_12_7_12 M.nh ?_
        refine p_icmp_geN (tgt := 78) k201_25 (by decide) (by omega) (by omega) (fun _ => ?_) (fun c => False.elim (by omega))
        refine p_iload_n k201_78 rfl ?_
        refine p_if_ne (tgt := 86) k201_79 (by decide) (fun c79 => ?_) (fun c79 => ?_)
        · skip
          refine p_iload_n k201_86 rfl ?_
          refine p_ireturn k201_87 rt_201 ?_
          exact ⟨by unfold howM; first | rw [if_pos c7, if_pos c79, ← hn] | rw [if_pos c7, if_neg c79, ← hs], rfl⟩
        · skip
          refine p_iload_n k201_82 rfl ?_
          refine p_goto (tgt := 87) k201_83 (by decide) ?_
          refine p_ireturn k201_87 rt_201 ?_
          exact ⟨by unfold howM; first | rw [if_pos c7, if_pos c79, ← hn] | rw [if_pos c7, if_neg c79, ← hs], rfl⟩
      | succ j ih =>
        intro k n s hk
        intro hn hs
        rcases M.worn k (by omega) with hkw | ⟨a, ha, hka⟩
        · skip
          have hw0 : I 101 k < 0 := by rw [hkw]; decide
          refine p_iload k201_19 rfl ?_
          refine p_aload_n k201_21 rfl ?_
          refine p_getIv k201_22 (s_98 S) f_12_7_12 M.nh ?_
          refine p_icmp_geN (tgt := 78) k201_25 (by decide) (by omega) (by omega) (fun c => False.elim (by omega)) (fun _ => ?_)
          refine p_aload_n k201_28 rfl ?_
          refine p_getRv k201_29 (s_98 S) f_12_26_12 (r_98_5 S) ?_
          refine p_iload k201_32 rfl ?_
          refine p_ialdN k201_34 (s_101 S) (by omega) (by decide) rfl ?_
          refine p_if_ge (tgt := 48) k201_35 (by decide) (fun c => False.elim (by rw [i_lt] at hw0; rw [i_le] at c; exact absurd hw0 (by show ¬ (_ < (0 : Int)); exact Int.not_lt.mpr c))) (fun _ => ?_)
          refine p_iload_n k201_38 rfl ?_
          refine p_iconst (v := nI 1) k201_39 (by decide) ?_
          refine p_iload k201_40 rfl ?_
          refine p_ishl1 (by omega) k201_42 ?_
          refine p_iorN k201_43 ?_
          refine p_istore_n (ls' := [(0, _), (1, _), (2, _), (3, _), (4, _)]) k201_44 rfl ?_
          refine p_goto (tgt := 72) k201_45 (by decide) ?_
          refine p_iincN (ls1 := [(0, _), (1, _), (2, _), (3, _), (4, _)]) k201_72 rfl rfl ?_
          refine p_goto (tgt := 19) k201_75 (by decide) ?_
          exact ih (k + 1) _ _ (by omega) (by rw [← hn]; show fld _ j (k + 1) _ = fld _ j (k + 1) _; congr 1; unfold fHoN; rw [if_pos hw0]) (by rw [← hs]; show fld _ j (k + 1) _ = fld _ j (k + 1) _; congr 1; unfold fHoB; rw [if_pos hw0])
        · skip
          have hcl : (I 101 k).toNatClampNeg = a := by rw [hka, nI_clamp (by omega)]
          have hw0 : ¬ I 101 k < 0 := by rw [hka, i_lt, nI_t (by omega)]; show ¬ (a : Int) < 0; omega
          refine p_iload k201_19 rfl ?_
          refine p_aload_n k201_21 rfl ?_
          refine p_getIv k201_22 (s_98 S) f_12_7_12 M.nh ?_
          refine p_icmp_geN (tgt := 78) k201_25 (by decide) (by omega) (by omega) (fun c => False.elim (by omega)) (fun _ => ?_)
          refine p_aload_n k201_28 rfl ?_
          refine p_getRv k201_29 (s_98 S) f_12_26_12 (r_98_5 S) ?_
          refine p_iload k201_32 rfl ?_
          refine p_ialdN k201_34 (s_101 S) (by omega) (by decide) hka ?_
          refine p_if_geN (tgt := 48) k201_35 (by decide) (by omega) ?_
          refine p_iload_n k201_48 rfl ?_
          refine p_aload_n k201_49 rfl ?_
          refine p_aload_n k201_50 rfl ?_
          refine p_getRv k201_51 (s_98 S) f_12_26_12 (r_98_5 S) ?_
          refine p_iload k201_54 rfl ?_
          refine p_ialdN k201_56 (s_101 S) (by omega) (by decide) hka ?_
          refine p_iload k201_57 rfl ?_
          refine p_cV2i k201_59 (s_98 S) c_12_335_12 rfl rfl (Nat.le_of_ble_eq_true rfl) (M_apart S (a := a) (k := k) (by omega) (by omega)) (fun x1 m1 hq => ?_)
          obtain ⟨rfl, rfl⟩ := hq
          refine p_if_le (tgt := 69) k201_62 (by decide) (fun c62 => ?_) (fun c62 => ?_)
          · skip
            refine p_iconst (v := nI 0) k201_69 (by decide) ?_
            refine p_iaddN k201_70 ?_
            refine p_istore_n (ls' := [(0, _), (1, _), (2, _), (3, _), (4, _)]) k201_71 rfl ?_
            refine p_iincN (ls1 := [(0, _), (1, _), (2, _), (3, _), (4, _)]) k201_72 rfl rfl ?_
            refine p_goto (tgt := 19) k201_75 (by decide) ?_
            exact ih (k + 1) _ _ (by omega) (by rw [← hn]; show fld _ j (k + 1) _ = fld _ j (k + 1) _; congr 1; unfold fHoN; rw [if_neg hw0, hcl]; first | rw [if_pos c62] | rw [if_neg c62]) (by rw [← hs]; show fld _ j (k + 1) _ = fld _ j (k + 1) _; congr 1; unfold fHoB; rw [if_neg hw0])
          · skip
            refine p_iconst (v := nI 1) k201_65 (by decide) ?_
            refine p_goto (tgt := 70) k201_66 (by decide) ?_
            refine p_iaddN k201_70 ?_
            refine p_istore_n (ls' := [(0, _), (1, _), (2, _), (3, _), (4, _)]) k201_71 rfl ?_
            refine p_iincN (ls1 := [(0, _), (1, _), (2, _), (3, _), (4, _)]) k201_72 rfl rfl ?_
            refine p_goto (tgt := 19) k201_75 (by decide) ?_
            exact ih (k + 1) _ _ (by omega) (by rw [← hn]; show fld _ j (k + 1) _ = fld _ j (k + 1) _; congr 1; unfold fHoN; rw [if_neg hw0, hcl]; first | rw [if_pos c62] | rw [if_neg c62]) (by rw [← hs]; show fld _ j (k + 1) _ = fld _ j (k + 1) _; congr 1; unfold fHoB; rw [if_neg hw0])
    exact L nh 0 0 0 (by omega) rfl rfl
  · skip
    refine p_iconst (v := (-1)) k201_10 (by decide) ?_
    refine p_ireturn k201_11 rt_201 ?_
    exact ⟨by unfold howM; rw [c7, if_neg (by decide)], rfl⟩

def fCan (w q : Nat → Int32) (a is : Int32) (k : Nat) (b : Bool) : Bool := b && (!(decide (w k = a)) || decide (q k = is))
def canM (I : Nat → Nat → Int32) (cb ce sn a k : Nat) : Bool := fld (fCan (I 128) (I 129) (nI a) (deedM I cb ce a k)) sn 0 true
def fWon (I : Nat → Nat → Int32) (cb ce sn a : Nat) (k s : Nat) : Nat := s ||| (if canM I cb ce sn a k = true then 2 ^ k else 0)
def wonM (I : Nat → Nat → Int32) (cb ce nh sn a : Nat) : Nat := fld (fWon I cb ce sn a) nh 0 0
set_option maxRecDepth 100000 in
set_option maxHeartbeats 4000000 in
theorem M_woreOn {d : Nat} {I : Nat → Nat → Int32} {J : Nat → Nat → Int64} {K : Nat → Nat → Option Nat} {h : List xSh} (S : St K h) {nh na dd cb ce : Nat} (M : MI I nh na dd cb ce) (g : Nat → Int32) {sn a : Nat} (hsn : I 98 43 = nI sn) (hs6 : sn ≤ 6) (ha : a < na) : EvP (d + 4) 203 0 [(0, .ref (98)), (1, .int (nI (a)))] [] (upc I 120 g, J, K, h) (QI (fun x t => x = nI (wonM I cb ce nh sn a) ∧ ∃ g, t = (upc I 120 g, J, K, h))) := by
  have hnh : upc I 120 g 98 0 = nI nh := M.nh
  have hnh6 := M.nh6
  have hna : upc I 120 g 98 1 = nI na := M.na
  have hna6 := M.na6
  refine p_iconst (v := nI 0) k203_0 (by decide) ?_
  refine p_istore_n (ls' := [(0, _), (1, _), (2, _)]) k203_1 rfl ?_
  refine p_iconst (v := nI 0) k203_2 (by decide) ?_
  refine p_istore_n (ls' := [(0, _), (1, _), (2, _), (3, _)]) k203_3 rfl ?_
  have L : ∀ (j : Nat) (k s : Nat) (g : Nat → Int32), k + j = nh → fld (fWon I cb ce sn a) j k s = wonM I cb ce nh sn a → EvP (d + 4) 203 4 [(0, .ref (98)), (1, .int (nI (a))), (2, .int (nI (s))), (3, .int (nI (k)))] [] (upc I 120 g, J, K, h) (QI (fun x t => x = nI (wonM I cb ce nh sn a) ∧ ∃ g, t = (upc I 120 g, J, K, h))) := by
    intro j
    induction j with
    | zero =>
      intro k s g hk
      intro hs
      refine p_iload_n k203_4 rfl ?_
      refine p_aload_n k203_5 rfl ?_
      refine p_getIv k203_6 (s_98 S) f_12_7_12 M.nh ?_
      refine p_icmp_geN (tgt := 97) k203_9 (by decide) (by omega) (by omega) (fun _ => ?_) (fun c => False.elim (by omega))
      refine p_iload_n k203_97 rfl ?_
      refine p_ireturn k203_98 rt_203 ?_
      exact ⟨by rw [← hs]; rfl, g, rfl⟩
    | succ j ih =>
      intro k s g hk
      intro hs
      have ih0 := ih
      obtain ⟨j0, hj0⟩ : ∃ j0, j0 = j := ⟨j, rfl⟩
      subst hj0
      refine p_iload_n k203_4 rfl ?_
      refine p_aload_n k203_5 rfl ?_
      refine p_getIv k203_6 (s_98 S) f_12_7_12 M.nh ?_
      refine p_icmp_geN (tgt := 97) k203_9 (by decide) (by omega) (by omega) (fun c => False.elim (by omega)) (fun _ => ?_)
      refine p_aload_n k203_12 rfl ?_
      refine p_iload_n k203_13 rfl ?_
      refine p_iload_n k203_14 rfl ?_
      refine p_cV2i k203_15 (s_98 S) c_12_341_12 rfl rfl (Nat.le_of_ble_eq_true rfl) (M_deed2 S M g (a := a) (hh := k) (by omega) (by omega)) (fun x1 m1 hq => ?_)
      obtain ⟨rfl, g, rfl⟩ := hq
      refine p_istore (ls' := [(0, _), (1, _), (2, _), (3, _), (4, _)]) k203_18 rfl ?_
      refine p_iconst (v := bI true) k203_20 (by decide) ?_
      refine p_istore (ls' := [(0, _), (1, _), (2, _), (3, _), (4, _), (5, _)]) k203_21 rfl ?_
      refine p_iconst (v := nI 0) k203_23 (by decide) ?_
      refine p_istore (ls' := [(0, _), (1, _), (2, _), (3, _), (4, _), (5, _), (6, _)]) k203_24 rfl ?_
      have L2 : ∀ (j : Nat) (m : Nat) (b : Bool), m + j = sn → fld (fCan (I 128) (I 129) (nI a) (deedM I cb ce a k)) j m b = canM I cb ce sn a k → EvP (d + 4) 203 26 [(0, .ref (98)), (1, .int (nI (a))), (2, .int (nI (s))), (3, .int (nI (k))), (4, .int (deedM I cb ce a k)), (5, .int (bI (b))), (6, .int (nI (m)))] [] (upc I 120 g, J, K, h) (QI (fun x t => x = nI (wonM I cb ce nh sn a) ∧ ∃ g, t = (upc I 120 g, J, K, h))) := by
        intro j
        induction j with
        | zero =>
          intro m b hk
          intro hb
          have hb2 : b = canM I cb ce sn a k := hb
          subst hb2
          refine p_iload k203_26 rfl ?_
          refine p_aload_n k203_28 rfl ?_
          refine p_getIv k203_29 (s_98 S) f_12_141_12 hsn ?_
          refine p_icmp_geN (tgt := 76) k203_32 (by decide) (by omega) (by omega) (fun _ => ?_) (fun c => False.elim (by omega))
          refine p_iload_n k203_76 rfl ?_
          refine p_iload k203_77 rfl ?_
          refine p_if_eqB (tgt := 88) k203_79 (by decide) (fun c79 => ?_) (fun c79 => ?_)
          · skip
            refine p_iconst (v := nI 0) k203_88 (by decide) ?_
            refine p_iorN k203_89 ?_
            refine p_istore_n (ls' := [(0, _), (1, _), (2, _), (3, _), (4, _), (5, _), (6, _)]) k203_90 rfl ?_
            refine p_iincN (ls1 := [(0, _), (1, _), (2, _), (3, _), (4, _), (5, _), (6, _)]) k203_91 rfl rfl ?_
            refine p_goto (tgt := 4) k203_94 (by decide) ?_
            refine p_drop [0, 1, 2, 3] rfl ?_
            exact ih0 (k + 1) _ _ (by omega) (by rw [← hs]; show fld _ j0 (k + 1) _ = fld _ j0 (k + 1) _; congr 1; unfold fWon; first | rw [if_pos c79] | rw [if_neg (by rw [c79]; decide)])
          · skip
            refine p_iconst (v := nI 1) k203_82 (by decide) ?_
            refine p_iload_n k203_83 rfl ?_
            refine p_ishl1 (by omega) k203_84 ?_
            refine p_goto (tgt := 89) k203_85 (by decide) ?_
            refine p_iorN k203_89 ?_
            refine p_istore_n (ls' := [(0, _), (1, _), (2, _), (3, _), (4, _), (5, _), (6, _)]) k203_90 rfl ?_
            refine p_iincN (ls1 := [(0, _), (1, _), (2, _), (3, _), (4, _), (5, _), (6, _)]) k203_91 rfl rfl ?_
            refine p_goto (tgt := 4) k203_94 (by decide) ?_
            refine p_drop [0, 1, 2, 3] rfl ?_
            exact ih0 (k + 1) _ _ (by omega) (by rw [← hs]; show fld _ j0 (k + 1) _ = fld _ j0 (k + 1) _; congr 1; unfold fWon; first | rw [if_pos c79] | rw [if_neg (by rw [c79]; decide)])
        | succ j ih =>
          intro m b hk
          intro hb
          refine p_iload k203_26 rfl ?_
          refine p_aload_n k203_28 rfl ?_
          refine p_getIv k203_29 (s_98 S) f_12_141_12 hsn ?_
          refine p_icmp_geN (tgt := 76) k203_32 (by decide) (by omega) (by omega) (fun c => False.elim (by omega)) (fun _ => ?_)
          refine p_iload k203_35 rfl ?_
          refine p_if_eqB (tgt := 67) k203_37 (by decide) (fun c37 => ?_) (fun c37 => ?_)
          · skip
            refine p_iconst (v := bI false) k203_67 (by decide) ?_
            refine p_istore (ls' := [(0, _), (1, _), (2, _), (3, _), (4, _), (5, _), (6, _)]) k203_68 rfl ?_
            refine p_iincN (ls1 := [(0, _), (1, _), (2, _), (3, _), (4, _), (5, _), (6, _)]) k203_70 rfl rfl ?_
            refine p_goto (tgt := 26) k203_73 (by decide) ?_
            exact ih (m + 1) _ (by omega) (by rw [← hb]; show fld _ j (m + 1) _ = fld _ j (m + 1) _; congr 1; unfold fCan; simp [*])
          · skip
            refine p_aload_n k203_40 rfl ?_
            refine p_getRv k203_41 (s_98 S) f_12_144_12 (r_98_44 S) ?_
            refine p_iload k203_44 rfl ?_
            refine p_ialdN k203_46 (s_128 S) (by omega) (by decide) (show _ = I 128 m from rfl) ?_
            refine p_iload_n k203_47 rfl ?_
            refine p_icmp_ne (tgt := 63) k203_48 (by decide) (fun c48 => ?_) (fun c48 => ?_)
            · skip
              refine p_iconst (v := bI true) k203_63 (by decide) ?_
              refine p_goto (tgt := 68) k203_64 (by decide) ?_
              refine p_istore (ls' := [(0, _), (1, _), (2, _), (3, _), (4, _), (5, _), (6, _)]) k203_68 rfl ?_
              refine p_iincN (ls1 := [(0, _), (1, _), (2, _), (3, _), (4, _), (5, _), (6, _)]) k203_70 rfl rfl ?_
              refine p_goto (tgt := 26) k203_73 (by decide) ?_
              exact ih (m + 1) _ (by omega) (by rw [← hb]; show fld _ j (m + 1) _ = fld _ j (m + 1) _; congr 1; unfold fCan; simp [*])
            · skip
              refine p_aload_n k203_51 rfl ?_
              refine p_getRv k203_52 (s_98 S) f_12_147_12 (r_98_45 S) ?_
              refine p_iload k203_55 rfl ?_
              refine p_ialdN k203_57 (s_129 S) (by omega) (by decide) (show _ = I 129 m from rfl) ?_
              refine p_iload k203_58 rfl ?_
              refine p_icmp_ne (tgt := 67) k203_60 (by decide) (fun c60 => ?_) (fun c60 => ?_)
              · skip
                refine p_iconst (v := bI false) k203_67 (by decide) ?_
                refine p_istore (ls' := [(0, _), (1, _), (2, _), (3, _), (4, _), (5, _), (6, _)]) k203_68 rfl ?_
                refine p_iincN (ls1 := [(0, _), (1, _), (2, _), (3, _), (4, _), (5, _), (6, _)]) k203_70 rfl rfl ?_
                refine p_goto (tgt := 26) k203_73 (by decide) ?_
                exact ih (m + 1) _ (by omega) (by rw [← hb]; show fld _ j (m + 1) _ = fld _ j (m + 1) _; congr 1; unfold fCan; simp [*])
              · skip
                refine p_iconst (v := bI true) k203_63 (by decide) ?_
                refine p_goto (tgt := 68) k203_64 (by decide) ?_
                refine p_istore (ls' := [(0, _), (1, _), (2, _), (3, _), (4, _), (5, _), (6, _)]) k203_68 rfl ?_
                refine p_iincN (ls1 := [(0, _), (1, _), (2, _), (3, _), (4, _), (5, _), (6, _)]) k203_70 rfl rfl ?_
                refine p_goto (tgt := 26) k203_73 (by decide) ?_
                exact ih (m + 1) _ (by omega) (by rw [← hb]; show fld _ j (m + 1) _ = fld _ j (m + 1) _; congr 1; unfold fCan; simp [*])
      exact L2 sn 0 true (by omega) rfl
  exact L nh 0 0 g (by omega) rfl

def woreM (I : Nat → Nat → Int32) (cb ce nh na sn : Nat) (v : Int32) : Int32 := if ixB v na = true then nI (wonM I cb ce nh sn v.toNatClampNeg) else -1
set_option maxRecDepth 100000 in
set_option maxHeartbeats 4000000 in
theorem M_wore {d : Nat} {I : Nat → Nat → Int32} {J : Nat → Nat → Int64} {K : Nat → Nat → Option Nat} {h : List xSh} (S : St K h) {nh na dd cb ce : Nat} (M : MI I nh na dd cb ce) (g : Nat → Int32) {sn : Nat} (hsn : I 98 43 = nI sn) (hs6 : sn ≤ 6) (v : Int32) : EvP (d + 5) 204 0 [(0, .ref (98)), (1, .int (v))] [] (upc I 120 g, J, K, h) (QI (fun x t => x = woreM I cb ce nh na sn v ∧ ∃ g, t = (upc I 120 g, J, K, h))) := by
  have hnh : upc I 120 g 98 0 = nI nh := M.nh
  have hnh6 := M.nh6
  have hna : upc I 120 g 98 1 = nI na := M.na
  have hna6 := M.na6
  refine p_aload_n k204_0 rfl ?_
  refine p_iload_n k204_1 rfl ?_
  refine p_cV1i k204_2 (s_98 S) c_12_256_12 rfl (Nat.le_of_ble_eq_true rfl) (M_isHat S hna hna6 (v)) (fun x1 m1 hq => ?_)
  obtain ⟨rfl, rfl⟩ := hq
  refine p_if_eqB (tgt := 16) k204_5 (by decide) (fun c5 => ?_) (fun c5 => ?_)
  · skip
    refine p_iconst (v := (-1)) k204_16 (by decide) ?_
    refine p_ireturn k204_17 rt_204 ?_
    exact ⟨by simp [woreM, *], g, rfl⟩
  · skip
    obtain ⟨a, ha, rfl⟩ := ixB_of (n := na) (by omega) c5
    have hca := nI_clamp (n := a) (by omega)
    refine p_aload_n k204_8 rfl ?_
    refine p_iload_n k204_9 rfl ?_
    refine p_cV1i k204_10 (s_98 S) c_12_398_12 rfl (Nat.le_of_ble_eq_true rfl) (M_woreOn S M g (sn := sn) (a := a) hsn hs6 (by omega)) (fun x1 m1 hq => ?_)
    obtain ⟨rfl, g, rfl⟩ := hq
    refine p_goto (tgt := 17) k204_13 (by decide) ?_
    refine p_ireturn k204_17 rt_204 ?_
    exact ⟨by simp [woreM, *], g, rfl⟩

def lookM (I : Nat → Nat → Int32) (bn : Nat) : Int32 := optI (-5) (fnd (fun k => !(decide (I 101 (I 132 k).toNatClampNeg = I 131 k))) bn 0)
set_option maxRecDepth 100000 in
set_option maxHeartbeats 4000000 in
theorem M_looked {d : Nat} {I : Nat → Nat → Int32} {J : Nat → Nat → Int64} {K : Nat → Nat → Option Nat} {h : List xSh} (S : St K h) {bn : Nat} (hbn : I 98 47 = nI bn) (hb8 : bn ≤ 8) (hbw : ∀ k, k < bn → ∃ q, q < 6 ∧ I 132 k = nI q) : EvP d 211 0 [(0, .ref (98))] [] (I, J, K, h) (QI (fun x t => x = lookM I bn ∧ t = (I, J, K, h))) := by
  refine p_iconst (v := nI 0) k211_0 (by decide) ?_
  refine p_istore_n (ls' := [(0, _), (1, _)]) k211_1 rfl ?_
  have L : ∀ (j : Nat) (k : Nat), k + j = bn → EvP d 211 2 [(0, .ref (98)), (1, .int (nI (k)))] [] (I, J, K, h) (QI (fun x t => x = optI (-5) (fnd (fun k => !(decide (I 101 (I 132 k).toNatClampNeg = I 131 k))) j k) ∧ t = (I, J, K, h))) := by
    intro j
    induction j with
    | zero =>
      intro k hk
      refine p_iload_n k211_2 rfl ?_
      refine p_aload_n k211_3 rfl ?_
      refine p_getIv k211_4 (s_98 S) f_12_153_12 hbn ?_
      refine p_icmp_geN (tgt := 38) k211_7 (by decide) (by omega) (by omega) (fun _ => ?_) (fun c => False.elim (by omega))
      refine p_bipush (v := (-5)) k211_38 (by decide) ?_
      refine p_ireturn k211_40 rt_211 ?_
      exact ⟨rfl, rfl⟩
    | succ j ih =>
      intro k hk
      obtain ⟨q, hq6, hqe⟩ := hbw k (by omega)
      have hqc : (I 132 k).toNatClampNeg = q := by rw [hqe, nI_clamp (by omega)]
      refine p_iload_n k211_2 rfl ?_
      refine p_aload_n k211_3 rfl ?_
      refine p_getIv k211_4 (s_98 S) f_12_153_12 hbn ?_
      refine p_icmp_geN (tgt := 38) k211_7 (by decide) (by omega) (by omega) (fun c => False.elim (by omega)) (fun _ => ?_)
      refine p_aload_n k211_10 rfl ?_
      refine p_getRv k211_11 (s_98 S) f_12_26_12 (r_98_5 S) ?_
      refine p_aload_n k211_14 rfl ?_
      refine p_getRv k211_15 (s_98 S) f_12_159_12 (r_98_49 S) ?_
      refine p_iload_n k211_18 rfl ?_
      refine p_ialdN k211_19 (s_132 S) (by omega) (by decide) hqe ?_
      refine p_ialdN k211_20 (s_101 S) (by omega) (by decide) rfl ?_
      refine p_aload_n k211_21 rfl ?_
      refine p_getRv k211_22 (s_98 S) f_12_156_12 (r_98_48 S) ?_
      refine p_iload_n k211_25 rfl ?_
      refine p_ialdN k211_26 (s_131 S) (by omega) (by decide) rfl ?_
      refine p_icmp_eq (tgt := 32) k211_27 (by decide) (fun c27 => ?_) (fun c27 => ?_)
      · skip
        refine p_iincN (ls1 := [(0, _), (1, _)]) k211_32 rfl rfl ?_
        refine p_goto (tgt := 2) k211_35 (by decide) ?_
        rw [show fnd (fun k => !(decide (I 101 (I 132 k).toNatClampNeg = I 131 k))) (j + 1) k = fnd (fun k => !(decide (I 101 (I 132 k).toNatClampNeg = I 131 k))) j (k + 1) from if_neg (by show ¬ (!(decide (I 101 (I 132 k).toNatClampNeg = I 131 k))) = true; rw [hqc, decide_eq_true c27]; decide)]
        exact ih (k + 1) (by omega)
      · skip
        refine p_iload_n k211_30 rfl ?_
        refine p_ireturn k211_31 rt_211 ?_
        exact ⟨by rw [show fnd (fun k => !(decide (I 101 (I 132 k).toNatClampNeg = I 131 k))) (j + 1) k = some k from if_pos (by show (!(decide (I 101 (I 132 k).toNatClampNeg = I 131 k))) = true; rw [hqc, decide_eq_false c27]; rfl)]; rfl, rfl⟩
  exact L bn 0 (by omega)

