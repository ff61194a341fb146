/-! the reference: at, and the calls that change one thing -/
theorem p_self (a : Nat) {d y pc : Nat} {ls : List (Nat × Value)} {st : List Value} {I : Nat → Nat → Int32} {J : Nat → Nat → Int64} {K : Nat → Nat → Option Nat} {h : List xSh} {Φ : xPost} (k0 : EvP d y pc ls st (upc I a (I a), J, K, h) Φ) : EvP d y pc ls st (I, J, K, h) Φ := by rw [upc_self] at k0; exact k0
theorem nd10 : ¬ nI 1 = 0 := by decide
theorem nd20 : ¬ nI 2 = 0 := by decide
theorem nd21 : ¬ nI 2 = nI 1 := by decide
/-- one place of a cell changes -/
def s1 (I : Nat → Nat → Int32) (a k : Nat) (x : Int32) : Nat → Nat → Int32 := upc I a (upc (I a) k x)
def atM (I : Nat → Nat → Int32) (nh : Nat) (v w : Int32) : Int32 := if ixB v nh = true then (if w = 0 then I 99 v.toNatClampNeg else if w = nI 1 then orN (I 101 v.toNatClampNeg) else if w = nI 2 then orN (I 100 v.toNatClampNeg) else -1) else -1
set_option maxRecDepth 100000 in
set_option maxHeartbeats 4000000 in
theorem M_at {d : Nat} {I : Nat → Nat → Int32} {J : Nat → Nat → Int64} {K : Nat → Nat → Option Nat} {h : List xSh} (S : St K h) {nh na dd cb ce : Nat} (M : MI I nh na dd cb ce) (v w : Int32) : EvP (d + 2) 169 0 [(0, .ref (98)), (1, .int (v)), (2, .int (w))] [] (I, J, K, h) (QI (fun x t => x = atM I nh v w ∧ t = (I, J, K, h))) := by
  have hnh := M.nh
  have hnh6 := M.nh6
  have hna := M.na
  have hna6 := M.na6
  refine p_aload_n k169_0 rfl ?_
  refine p_iload_n k169_1 rfl ?_
  refine p_cV1i k169_2 (s_98 S) c_12_259_12 rfl (Nat.le_of_ble_eq_true rfl) (M_isHead S hnh hnh6 (v)) (fun x1 m1 hq => ?_)
  obtain ⟨rfl, rfl⟩ := hq
  refine p_if_neB (tgt := 10) k169_5 (by decide) (fun c5 => ?_) (fun c5 => ?_)
  · skip
    obtain ⟨a, ha, rfl⟩ := ixB_of (n := nh) (by omega) c5
    have hca := nI_clamp (n := a) (by omega)
    refine p_iload_n k169_10 rfl ?_
    refine p_if_ne (tgt := 23) k169_11 (by decide) (fun c11 => ?_) (fun c11 => ?_)
    · skip
      refine p_iload_n k169_23 rfl ?_
      refine p_iconst (v := nI 1) k169_24 (by decide) ?_
      refine p_icmp_ne (tgt := 41) k169_25 (by decide) (fun c25 => ?_) (fun c25 => ?_)
      · skip
        refine p_iload_n k169_41 rfl ?_
        refine p_iconst (v := nI 2) k169_42 (by decide) ?_
        refine p_icmp_ne (tgt := 59) k169_43 (by decide) (fun c43 => ?_) (fun c43 => ?_)
        · skip
          refine p_iconst (v := (-1)) k169_59 (by decide) ?_
          refine p_ireturn k169_60 rt_169 ?_
          exact ⟨by simp [atM, nd10, nd20, nd21, *], rfl⟩
        · skip
          refine p_aload_n k169_46 rfl ?_
          refine p_aload_n k169_47 rfl ?_
          refine p_getRv k169_48 (s_98 S) f_12_23_12 (r_98_4 S) ?_
          refine p_iload_n k169_51 rfl ?_
          refine p_ialdN k169_52 (s_100 S) (by omega) (by decide) rfl ?_
          refine p_cV1i k169_53 (s_98 S) c_12_266_12 rfl (Nat.le_of_ble_eq_true rfl) (M_orNone S (_)) (fun x1 m1 hq => ?_)
          obtain ⟨rfl, rfl⟩ := hq
          refine p_goto (tgt := 60) k169_56 (by decide) ?_
          refine p_ireturn k169_60 rt_169 ?_
          exact ⟨by simp [atM, nd10, nd20, nd21, *], rfl⟩
      · skip
        refine p_aload_n k169_28 rfl ?_
        refine p_aload_n k169_29 rfl ?_
        refine p_getRv k169_30 (s_98 S) f_12_26_12 (r_98_5 S) ?_
        refine p_iload_n k169_33 rfl ?_
        refine p_ialdN k169_34 (s_101 S) (by omega) (by decide) rfl ?_
        refine p_cV1i k169_35 (s_98 S) c_12_266_12 rfl (Nat.le_of_ble_eq_true rfl) (M_orNone S (_)) (fun x1 m1 hq => ?_)
        obtain ⟨rfl, rfl⟩ := hq
        refine p_goto (tgt := 60) k169_38 (by decide) ?_
        refine p_ireturn k169_60 rt_169 ?_
        exact ⟨by simp [atM, nd10, nd20, nd21, *], rfl⟩
    · skip
      refine p_aload_n k169_14 rfl ?_
      refine p_getRv k169_15 (s_98 S) f_12_19_12 (r_98_3 S) ?_
      refine p_iload_n k169_18 rfl ?_
      refine p_ialdN k169_19 (s_99 S) (by omega) (by decide) rfl ?_
      refine p_goto (tgt := 60) k169_20 (by decide) ?_
      refine p_ireturn k169_60 rt_169 ?_
      exact ⟨by simp [atM, nd10, nd20, nd21, *], rfl⟩
  · skip
    refine p_iconst (v := (-1)) k169_8 (by decide) ?_
    refine p_ireturn k169_9 rt_169 ?_
    exact ⟨by simp [atM, nd10, nd20, nd21, *], rfl⟩

def headM (I : Nat → Nat → Int32) (nh : Nat) (v : Int32) : Int32 × (Nat → Nat → Int32) := if inB v (nI 0) (nI 9) = false then (-2, I) else if nh = 6 then (-4, I) else (nI nh, s1 (s1 (s1 (s1 I 99 nh v) 100 nh (-1)) 101 nh (-1)) 98 0 (nI (nh + 1)))
set_option maxRecDepth 100000 in
set_option maxHeartbeats 4000000 in
theorem M_head {d : Nat} {I : Nat → Nat → Int32} {J : Nat → Nat → Int64} {K : Nat → Nat → Option Nat} {h : List xSh} (S : St K h) {nh na dd cb ce : Nat} (M : MI I nh na dd cb ce) (v : Int32) : EvP (d + 1) 136 0 [(0, .ref (98)), (1, .int (v))] [] (I, J, K, h) (QI (fun x t => x = (headM I nh v).1 ∧ t = ((headM I nh v).2, J, K, h))) := by
  have hnh := M.nh
  have hnh6 := M.nh6
  have hna := M.na
  have hna6 := M.na6
  refine p_aload_n k136_0 rfl ?_
  refine p_iload_n k136_1 rfl ?_
  refine p_iconst (v := nI 0) k136_2 (by decide) ?_
  refine p_bipush (v := nI 9) k136_3 (by decide) ?_
  refine p_cV3i k136_5 (s_98 S) c_12_248_12 rfl rfl rfl (Nat.le_of_ble_eq_true rfl) (M_in S (v) (nI (0)) (nI (9))) (fun x1 m1 hq => ?_)
  obtain ⟨rfl, rfl⟩ := hq
  refine p_if_neB (tgt := 14) k136_8 (by decide) (fun c8 => ?_) (fun c8 => ?_)
  · skip
    refine p_aload_n k136_14 rfl ?_
    refine p_getIv k136_15 (s_98 S) f_12_7_12 M.nh ?_
    refine p_bipush (v := nI 6) k136_18 (by decide) ?_
    refine p_icmp_neN (tgt := 26) k136_20 (by decide) (by omega) (by omega) (fun c20 => ?_) (fun c20 => ?_)
    · skip
      refine p_aload_n k136_26 rfl ?_
      refine p_getRv k136_27 (s_98 S) f_12_19_12 (r_98_3 S) ?_
      refine p_aload_n k136_30 rfl ?_
      refine p_getIv k136_31 (s_98 S) f_12_7_12 M.nh ?_
      refine p_iload_n k136_34 rfl ?_
      refine p_iastN k136_35 (s_99 S) (by omega) (by decide) ?_
      refine p_aload_n k136_36 rfl ?_
      refine p_getRv k136_37 (s_98 S) f_12_23_12 (r_98_4 S) ?_
      refine p_aload_n k136_40 rfl ?_
      refine p_getIv k136_41 (s_98 S) f_12_7_12 M.nh ?_
      refine p_iconst (v := (-1)) k136_44 (by decide) ?_
      refine p_iastN k136_45 (s_100 S) (by omega) (by decide) ?_
      refine p_aload_n k136_46 rfl ?_
      refine p_getRv k136_47 (s_98 S) f_12_26_12 (r_98_5 S) ?_
      refine p_aload_n k136_50 rfl ?_
      refine p_getIv k136_51 (s_98 S) f_12_7_12 M.nh ?_
      refine p_iconst (v := (-1)) k136_54 (by decide) ?_
      refine p_iastN k136_55 (s_101 S) (by omega) (by decide) ?_
      refine p_aload_n k136_56 rfl ?_
      refine p_dup k136_57 rfl ?_
      refine p_getIv k136_58 (s_98 S) f_12_7_12 M.nh ?_
      refine p_iconst (v := nI 1) k136_61 (by decide) ?_
      refine p_iaddN k136_62 ?_
      refine p_putIv k136_63 (s_98 S) g_12_7_12 n_136_12_0 ?_
      refine p_aload_n k136_66 rfl ?_
      refine p_getIv k136_67 (s_98 S) f_12_7_12 (show _ = nI (nh + 1) from rfl) ?_
      refine p_iconst (v := nI 1) k136_70 (by decide) ?_
      refine p_isubN (by omega) k136_71 ?_
      refine p_ireturn k136_72 rt_136 ?_
      exact ⟨by simp [headM, s1, *], by simp [headM, s1, *]⟩
    · skip
      refine p_bipush (v := (-4)) k136_23 (by decide) ?_
      refine p_ireturn k136_25 rt_136 ?_
      exact ⟨by simp [headM, s1, *], by simp [headM, s1, *]⟩
  · skip
    refine p_bipush (v := (-2)) k136_11 (by decide) ?_
    refine p_ireturn k136_13 rt_136 ?_
    exact ⟨by simp [headM, s1, *], by simp [headM, s1, *]⟩

def skillM (I : Nat → Nat → Int32) (na : Nat) (v w : Int32) : Int32 × (Nat → Nat → Int32) := if ixB v na = false then (-1, I) else if inB w (nI 0) (nI 50) = false then (-2, I) else (I 105 v.toNatClampNeg, s1 I 105 v.toNatClampNeg w)
set_option maxRecDepth 100000 in
set_option maxHeartbeats 4000000 in
theorem M_skill {d : Nat} {I : Nat → Nat → Int32} {J : Nat → Nat → Int64} {K : Nat → Nat → Option Nat} {h : List xSh} (S : St K h) {nh na dd cb ce : Nat} (M : MI I nh na dd cb ce) (v w : Int32) : EvP (d + 2) 142 0 [(0, .ref (98)), (1, .int (v)), (2, .int (w))] [] (I, J, K, h) (QI (fun x t => x = (skillM I na v w).1 ∧ t = ((skillM I na v w).2, J, K, h))) := by
  have hnh := M.nh
  have hnh6 := M.nh6
  have hna := M.na
  have hna6 := M.na6
  refine p_aload_n k142_0 rfl ?_
  refine p_iload_n k142_1 rfl ?_
  refine p_cV1i k142_2 (s_98 S) c_12_256_12 rfl (Nat.le_of_ble_eq_true rfl) (M_isHat S hna hna6 (v)) (fun x1 m1 hq => ?_)
  obtain ⟨rfl, rfl⟩ := hq
  refine p_if_neB (tgt := 10) k142_5 (by decide) (fun c5 => ?_) (fun c5 => ?_)
  · skip
    refine p_aload_n k142_10 rfl ?_
    refine p_iload_n k142_11 rfl ?_
    refine p_iconst (v := nI 0) k142_12 (by decide) ?_
    refine p_bipush (v := nI 50) k142_13 (by decide) ?_
    refine p_cV3i k142_15 (s_98 S) c_12_248_12 rfl rfl rfl (Nat.le_of_ble_eq_true rfl) (M_in S (w) (nI (0)) (nI (50))) (fun x1 m1 hq => ?_)
    obtain ⟨rfl, rfl⟩ := hq
    refine p_if_neB (tgt := 24) k142_18 (by decide) (fun c18 => ?_) (fun c18 => ?_)
    · skip
      obtain ⟨a, ha, rfl⟩ := ixB_of (n := na) (by omega) c5
      have hca := nI_clamp (n := a) (by omega)
      refine p_aload_n k142_24 rfl ?_
      refine p_getRv k142_25 (s_98 S) f_12_38_12 (r_98_9 S) ?_
      refine p_iload_n k142_28 rfl ?_
      refine p_ialdN k142_29 (s_105 S) (by omega) (by decide) rfl ?_
      refine p_istore_n (ls' := [(0, _), (1, _), (2, _), (3, _)]) k142_30 rfl ?_
      refine p_aload_n k142_31 rfl ?_
      refine p_getRv k142_32 (s_98 S) f_12_38_12 (r_98_9 S) ?_
      refine p_iload_n k142_35 rfl ?_
      refine p_iload_n k142_36 rfl ?_
      refine p_iastN k142_37 (s_105 S) (by omega) (by decide) ?_
      refine p_iload_n k142_38 rfl ?_
      refine p_ireturn k142_39 rt_142 ?_
      exact ⟨by simp [skillM, s1, *], by simp [skillM, s1, *]⟩
    · skip
      refine p_bipush (v := (-2)) k142_21 (by decide) ?_
      refine p_ireturn k142_23 rt_142 ?_
      exact ⟨by simp [skillM, s1, *], by simp [skillM, s1, *]⟩
  · skip
    refine p_iconst (v := (-1)) k142_8 (by decide) ?_
    refine p_ireturn k142_9 rt_142 ?_
    exact ⟨by simp [skillM, s1, *], by simp [skillM, s1, *]⟩

def feedM (I : Nat → Nat → Int32) (fd : Nat) (v : Int32) : Int32 × (Nat → Nat → Int32) := if inB v (nI 0) (nI 127) = false then (-2, I) else if fd = 100 then (-4, I) else (nI (fd + 1), s1 (s1 I 110 fd v) 98 16 (nI (fd + 1)))
set_option maxRecDepth 100000 in
set_option maxHeartbeats 4000000 in
theorem M_feed {d : Nat} {I : Nat → Nat → Int32} {J : Nat → Nat → Int64} {K : Nat → Nat → Option Nat} {h : List xSh} (S : St K h) {nh na dd cb ce : Nat} (M : MI I nh na dd cb ce) {fd : Nat} (hfd : I 98 16 = nI fd) (hf100 : fd ≤ 100) (v : Int32) : EvP (d + 1) 143 0 [(0, .ref (98)), (1, .int (v))] [] (I, J, K, h) (QI (fun x t => x = (feedM I fd v).1 ∧ t = ((feedM I fd v).2, J, K, h))) := by
  have hnh := M.nh
  have hnh6 := M.nh6
  have hna := M.na
  have hna6 := M.na6
  refine p_aload_n k143_0 rfl ?_
  refine p_iload_n k143_1 rfl ?_
  refine p_iconst (v := nI 0) k143_2 (by decide) ?_
  refine p_bipush (v := nI 127) k143_3 (by decide) ?_
  refine p_cV3i k143_5 (s_98 S) c_12_248_12 rfl rfl rfl (Nat.le_of_ble_eq_true rfl) (M_in S (v) (nI (0)) (nI (127))) (fun x1 m1 hq => ?_)
  obtain ⟨rfl, rfl⟩ := hq
  refine p_if_neB (tgt := 14) k143_8 (by decide) (fun c8 => ?_) (fun c8 => ?_)
  · skip
    refine p_aload_n k143_14 rfl ?_
    refine p_getIv k143_15 (s_98 S) f_12_59_12 hfd ?_
    refine p_bipush (v := nI 100) k143_18 (by decide) ?_
    refine p_icmp_neN (tgt := 26) k143_20 (by decide) (by omega) (by omega) (fun c20 => ?_) (fun c20 => ?_)
    · skip
      refine p_aload_n k143_26 rfl ?_
      refine p_getRv k143_27 (s_98 S) f_12_68_12 (r_98_19 S) ?_
      refine p_aload_n k143_30 rfl ?_
      refine p_getIv k143_31 (s_98 S) f_12_59_12 hfd ?_
      refine p_iload_n k143_34 rfl ?_
      refine p_iastN k143_35 (s_110 S) (by omega) (by decide) ?_
      refine p_aload_n k143_36 rfl ?_
      refine p_dup k143_37 rfl ?_
      refine p_getIv k143_38 (s_98 S) f_12_59_12 hfd ?_
      refine p_iconst (v := nI 1) k143_41 (by decide) ?_
      refine p_iaddN k143_42 ?_
      refine p_putIv k143_43 (s_98 S) g_12_59_12 n_143_12_16 ?_
      refine p_aload_n k143_46 rfl ?_
      refine p_getIv k143_47 (s_98 S) f_12_59_12 (show _ = nI (fd + 1) from rfl) ?_
      refine p_ireturn k143_50 rt_143 ?_
      exact ⟨by simp [feedM, s1, *], by simp [feedM, s1, *]⟩
    · skip
      refine p_bipush (v := (-4)) k143_23 (by decide) ?_
      refine p_ireturn k143_25 rt_143 ?_
      exact ⟨by simp [feedM, s1, *], by simp [feedM, s1, *]⟩
  · skip
    refine p_bipush (v := (-2)) k143_11 (by decide) ?_
    refine p_ireturn k143_13 rt_143 ?_
    exact ⟨by simp [feedM, s1, *], by simp [feedM, s1, *]⟩

def ownM (I : Nat → Nat → Int32) (nh na : Nat) (v w : Int32) : Int32 × (Nat → Nat → Int32) := if ixB v nh = false then (-1, I) else if w = -1 ∨ ixB w na = true then (orN (I 100 v.toNatClampNeg), s1 I 100 v.toNatClampNeg w) else (-1, I)
set_option maxRecDepth 100000 in
set_option maxHeartbeats 4000000 in
theorem M_own {d : Nat} {I : Nat → Nat → Int32} {J : Nat → Nat → Int64} {K : Nat → Nat → Option Nat} {h : List xSh} (S : St K h) {nh na dd cb ce : Nat} (M : MI I nh na dd cb ce) (v w : Int32) : EvP (d + 2) 141 0 [(0, .ref (98)), (1, .int (v)), (2, .int (w))] [] (I, J, K, h) (QI (fun x t => x = (ownM I nh na v w).1 ∧ t = ((ownM I nh na v w).2, J, K, h))) := by
  have hnh := M.nh
  have hnh6 := M.nh6
  have hna := M.na
  have hna6 := M.na6
  refine p_aload_n k141_0 rfl ?_
  refine p_iload_n k141_1 rfl ?_
  refine p_cV1i k141_2 (s_98 S) c_12_259_12 rfl (Nat.le_of_ble_eq_true rfl) (M_isHead S hnh hnh6 (v)) (fun x1 m1 hq => ?_)
  obtain ⟨rfl, rfl⟩ := hq
  refine p_if_eqB (tgt := 21) k141_5 (by decide) (fun c5 => ?_) (fun c5 => ?_)
  · skip
    refine p_iconst (v := (-1)) k141_21 (by decide) ?_
    refine p_ireturn k141_22 rt_141 ?_
    exact ⟨by simp [ownM, s1, *], by simp [ownM, s1, *]⟩
  · skip
    refine p_iload_n k141_8 rfl ?_
    refine p_iconst (v := (-1)) k141_9 (by decide) ?_
    refine p_icmp_eq (tgt := 23) k141_10 (by decide) (fun c10 => ?_) (fun c10 => ?_)
    · skip
      obtain ⟨a, ha, rfl⟩ := ixB_of (n := nh) (by omega) c5
      have hca := nI_clamp (n := a) (by omega)
      refine p_aload_n k141_23 rfl ?_
      refine p_getRv k141_24 (s_98 S) f_12_23_12 (r_98_4 S) ?_
      refine p_iload_n k141_27 rfl ?_
      refine p_ialdN k141_28 (s_100 S) (by omega) (by decide) rfl ?_
      refine p_istore_n (ls' := [(0, _), (1, _), (2, _), (3, _)]) k141_29 rfl ?_
      refine p_aload_n k141_30 rfl ?_
      refine p_getRv k141_31 (s_98 S) f_12_23_12 (r_98_4 S) ?_
      refine p_iload_n k141_34 rfl ?_
      refine p_iload_n k141_35 rfl ?_
      refine p_iastN k141_36 (s_100 S) (by omega) (by decide) ?_
      refine p_aload_n k141_37 rfl ?_
      refine p_iload_n k141_38 rfl ?_
      refine p_cV1i k141_39 (s_98 S) c_12_266_12 rfl (Nat.le_of_ble_eq_true rfl) (M_orNone S (_)) (fun x1 m1 hq => ?_)
      obtain ⟨rfl, rfl⟩ := hq
      refine p_ireturn k141_42 rt_141 ?_
      exact ⟨by simp [ownM, s1, *], by simp [ownM, s1, *]⟩
    · skip
      refine p_aload_n k141_13 rfl ?_
      refine p_iload_n k141_14 rfl ?_
      refine p_cV1i k141_15 (s_98 S) c_12_256_12 rfl (Nat.le_of_ble_eq_true rfl) (M_isHat S hna hna6 (w)) (fun x1 m1 hq => ?_)
      obtain ⟨rfl, rfl⟩ := hq
      refine p_if_neB (tgt := 23) k141_18 (by decide) (fun c18 => ?_) (fun c18 => ?_)
      · skip
        obtain ⟨a, ha, rfl⟩ := ixB_of (n := nh) (by omega) c5
        have hca := nI_clamp (n := a) (by omega)
        refine p_aload_n k141_23 rfl ?_
        refine p_getRv k141_24 (s_98 S) f_12_23_12 (r_98_4 S) ?_
        refine p_iload_n k141_27 rfl ?_
        refine p_ialdN k141_28 (s_100 S) (by omega) (by decide) rfl ?_
        refine p_istore_n (ls' := [(0, _), (1, _), (2, _), (3, _)]) k141_29 rfl ?_
        refine p_aload_n k141_30 rfl ?_
        refine p_getRv k141_31 (s_98 S) f_12_23_12 (r_98_4 S) ?_
        refine p_iload_n k141_34 rfl ?_
        refine p_iload_n k141_35 rfl ?_
        refine p_iastN k141_36 (s_100 S) (by omega) (by decide) ?_
        refine p_aload_n k141_37 rfl ?_
        refine p_iload_n k141_38 rfl ?_
        refine p_cV1i k141_39 (s_98 S) c_12_266_12 rfl (Nat.le_of_ble_eq_true rfl) (M_orNone S (_)) (fun x1 m1 hq => ?_)
        obtain ⟨rfl, rfl⟩ := hq
        refine p_ireturn k141_42 rt_141 ?_
        exact ⟨by simp [ownM, s1, *], by simp [ownM, s1, *]⟩
      · skip
        refine p_iconst (v := (-1)) k141_21 (by decide) ?_
        refine p_ireturn k141_22 rt_141 ?_
        exact ⟨by simp [ownM, s1, *], by simp [ownM, s1, *]⟩

def rowM (I : Nat → Nat → Int32) (na : Nat) (v w n : Int32) : Int32 × (Nat → Nat → Int32) := if ixB v na = false ∨ inB w (nI 0) (nI 3) = false then (-1, I) else if inB n (nI 0) (nI 9) = false then (-2, I) else if I 102 v.toNatClampNeg = nI 6 then (I 108 (4 * v.toNatClampNeg + w.toNatClampNeg), s1 I 108 (4 * v.toNatClampNeg + w.toNatClampNeg) n) else (-3, I)
set_option maxRecDepth 100000 in
set_option maxHeartbeats 4000000 in
theorem M_row {d : Nat} {I : Nat → Nat → Int32} {J : Nat → Nat → Int64} {K : Nat → Nat → Option Nat} {h : List xSh} (S : St K h) {nh na dd cb ce : Nat} (M : MI I nh na dd cb ce) (v w n : Int32) : EvP (d + 2) 139 0 [(0, .ref (98)), (1, .int (v)), (2, .int (w)), (3, .int (n))] [] (I, J, K, h) (QI (fun x t => x = (rowM I na v w n).1 ∧ t = ((rowM I na v w n).2, J, K, h))) := by
  have hnh := M.nh
  have hnh6 := M.nh6
  have hna := M.na
  have hna6 := M.na6
  refine p_aload_n k139_0 rfl ?_
  refine p_iload_n k139_1 rfl ?_
  refine p_cV1i k139_2 (s_98 S) c_12_256_12 rfl (Nat.le_of_ble_eq_true rfl) (M_isHat S hna hna6 (v)) (fun x1 m1 hq => ?_)
  obtain ⟨rfl, rfl⟩ := hq
  refine p_if_eqB (tgt := 18) k139_5 (by decide) (fun c5 => ?_) (fun c5 => ?_)
  · skip
    refine p_iconst (v := (-1)) k139_18 (by decide) ?_
    refine p_ireturn k139_19 rt_139 ?_
    exact ⟨by simp [rowM, s1, *], by simp [rowM, s1, *]⟩
  · skip
    refine p_aload_n k139_8 rfl ?_
    refine p_iload_n k139_9 rfl ?_
    refine p_iconst (v := nI 0) k139_10 (by decide) ?_
    refine p_iconst (v := nI 3) k139_11 (by decide) ?_
    refine p_cV3i k139_12 (s_98 S) c_12_248_12 rfl rfl rfl (Nat.le_of_ble_eq_true rfl) (M_in S (w) (nI (0)) (nI (3))) (fun x1 m1 hq => ?_)
    obtain ⟨rfl, rfl⟩ := hq
    refine p_if_neB (tgt := 20) k139_15 (by decide) (fun c15 => ?_) (fun c15 => ?_)
    · skip
      refine p_aload_n k139_20 rfl ?_
      refine p_iload_n k139_21 rfl ?_
      refine p_iconst (v := nI 0) k139_22 (by decide) ?_
      refine p_bipush (v := nI 9) k139_23 (by decide) ?_
      refine p_cV3i k139_25 (s_98 S) c_12_248_12 rfl rfl rfl (Nat.le_of_ble_eq_true rfl) (M_in S (n) (nI (0)) (nI (9))) (fun x1 m1 hq => ?_)
      obtain ⟨rfl, rfl⟩ := hq
      refine p_if_neB (tgt := 34) k139_28 (by decide) (fun c28 => ?_) (fun c28 => ?_)
      · skip
        obtain ⟨a, ha, rfl⟩ := ixB_of (n := na) (by omega) c5
        have hca := nI_clamp (n := a) (by omega)
        obtain ⟨p, hp, rfl⟩ := ixB_of (n := 4) (by omega) (by rw [← ixB_in0 (m := 3) (by decide)]; exact c15)
        have hcp := nI_clamp (n := p) (by omega)
        refine p_aload_n k139_34 rfl ?_
        refine p_getRv k139_35 (s_98 S) f_12_29_12 (r_98_6 S) ?_
        refine p_iload_n k139_38 rfl ?_
        refine p_ialdN k139_39 (s_102 S) (by omega) (by decide) rfl ?_
        refine p_bipush (v := nI 6) k139_40 (by decide) ?_
        refine p_icmp_eq (tgt := 48) k139_42 (by decide) (fun c42 => ?_) (fun c42 => ?_)
        · skip
          refine p_aload_n k139_48 rfl ?_
          refine p_getRv k139_49 (s_98 S) f_12_47_12 (r_98_12 S) ?_
          refine p_iconst (v := nI 4) k139_52 (by decide) ?_
          refine p_iload_n k139_53 rfl ?_
          refine p_imulN k139_54 ?_
          refine p_iload_n k139_55 rfl ?_
          refine p_iaddN k139_56 ?_
          refine p_ialdN k139_57 (s_108 S) (by omega) (by decide) rfl ?_
          refine p_istore (ls' := [(0, _), (1, _), (2, _), (3, _), (4, _)]) k139_58 rfl ?_
          refine p_aload_n k139_60 rfl ?_
          refine p_getRv k139_61 (s_98 S) f_12_47_12 (r_98_12 S) ?_
          refine p_iconst (v := nI 4) k139_64 (by decide) ?_
          refine p_iload_n k139_65 rfl ?_
          refine p_imulN k139_66 ?_
          refine p_iload_n k139_67 rfl ?_
          refine p_iaddN k139_68 ?_
          refine p_iload_n k139_69 rfl ?_
          refine p_iastN k139_70 (s_108 S) (by omega) (by decide) ?_
          refine p_iload k139_71 rfl ?_
          refine p_ireturn k139_73 rt_139 ?_
          exact ⟨by simp [rowM, s1, *], by simp [rowM, s1, *]⟩
        · skip
          refine p_bipush (v := (-3)) k139_45 (by decide) ?_
          refine p_ireturn k139_47 rt_139 ?_
          exact ⟨by simp [rowM, s1, *], by simp [rowM, s1, *]⟩
      · skip
        refine p_bipush (v := (-2)) k139_31 (by decide) ?_
        refine p_ireturn k139_33 rt_139 ?_
        exact ⟨by simp [rowM, s1, *], by simp [rowM, s1, *]⟩
    · skip
      refine p_iconst (v := (-1)) k139_18 (by decide) ?_
      refine p_ireturn k139_19 rt_139 ?_
      exact ⟨by simp [rowM, s1, *], by simp [rowM, s1, *]⟩

def putM (I : Nat → Nat → Int32) (nh na : Nat) (v w : Int32) : Int32 × (Nat → Nat → Int32) :=
  if ixB v na = false ∨ (¬ w = -1 ∧ ixB w nh = false) then (-1, I) else if ¬ w < 0 ∧ ¬ I 101 w.toNatClampNeg < 0 ∧ ¬ I 101 w.toNatClampNeg = v then (-3, I)
  else (optI (-5) (fnd (isI (I 101) v) nh 0), if w < 0 then (match fnd (isI (I 101) v) nh 0 with
    | some p => s1 I 101 p (-1)
    | none => I) else s1 (match fnd (isI (I 101) v) nh 0 with
    | some p => s1 I 101 p (-1)
    | none => I) 101 w.toNatClampNeg v)
set_option maxRecDepth 100000 in
set_option maxHeartbeats 4000000 in
theorem M_put {d : Nat} {I : Nat → Nat → Int32} {J : Nat → Nat → Int64} {K : Nat → Nat → Option Nat} {h : List xSh} (S : St K h) {nh na dd cb ce : Nat} (M : MI I nh na dd cb ce) (v w : Int32) : EvP (d + 2) 140 0 [(0, .ref (98)), (1, .int (v)), (2, .int (w))] [] (I, J, K, h) (QI (fun x t => x = (putM I nh na v w).1 ∧ t = ((putM I nh na v w).2, J, K, h))) := by
  have hnh := M.nh
  have hnh6 := M.nh6
  have hna := M.na
  have hna6 := M.na6
  refine p_aload_n k140_0 rfl ?_
  refine p_iload_n k140_1 rfl ?_
  refine p_cV1i k140_2 (s_98 S) c_12_256_12 rfl (Nat.le_of_ble_eq_true rfl) (M_isHat S hna hna6 (v)) (fun x1 m1 hq => ?_)
  obtain ⟨rfl, rfl⟩ := hq
  refine p_if_eqB (tgt := 21) k140_5 (by decide) (fun c5 => ?_) (fun c5 => ?_)
  · skip
    refine p_iconst (v := (-1)) k140_21 (by decide) ?_
    refine p_ireturn k140_22 rt_140 ?_
    exact ⟨by simp [putM, optI, s1, *], by simp [putM, optI, s1, *]⟩
  · skip
    refine p_iload_n k140_8 rfl ?_
    refine p_iconst (v := (-1)) k140_9 (by decide) ?_
    refine p_icmp_eq (tgt := 23) k140_10 (by decide) (fun c10 => ?_) (fun c10 => ?_)
    · skip
      obtain ⟨a, ha, rfl⟩ := ixB_of (n := na) (by omega) c5
      have hca := nI_clamp (n := a) (by omega)
      subst c10
      have hq0 : (-1 : Int32) < 0 := by decide
      have hq1 : ¬ (0 : Int32) ≤ -1 := by decide
      refine p_iload_n k140_23 rfl ?_
      refine p_if_lt (tgt := 49) k140_24 (by decide) (fun _ => ?_) (fun c => False.elim (by exact absurd hq0 c))
      refine p_aload_n k140_49 rfl ?_
      refine p_iload_n k140_50 rfl ?_
      refine p_cV1i k140_51 (s_98 S) c_12_262_12 rfl (Nat.le_of_ble_eq_true rfl) (M_headOf S hnh hnh6 (nI (a))) (fun x1 m1 hq => ?_)
      obtain ⟨rfl, rfl⟩ := hq
      rcases hfd : fnd (isI (I 101) (nI a)) nh 0 with _ | p
      · skip
        refine p_toI (z := ((-5))) rfl ?_
        refine p_istore_n (ls' := [(0, _), (1, _), (2, _), (3, _)]) k140_54 rfl ?_
        refine p_iload_n k140_55 rfl ?_
        refine p_if_lt (tgt := 66) k140_56 (by decide) (fun _ => ?_) (fun c => False.elim (by exact absurd (by decide) c))
        refine p_iload_n k140_66 rfl ?_
        refine p_if_lt (tgt := 77) k140_67 (by decide) (fun _ => ?_) (fun c => False.elim (by exact absurd hq0 c))
        refine p_iload_n k140_77 rfl ?_
        refine p_ireturn k140_78 rt_140 ?_
        exact ⟨by simp [putM, optI, s1, *], by simp [putM, optI, s1, *]⟩
      · skip
        have hp6 := (fnd_some hfd).2.1
        refine p_toI (z := (nI (p))) rfl ?_
        refine p_istore_n (ls' := [(0, _), (1, _), (2, _), (3, _)]) k140_54 rfl ?_
        refine p_iload_n k140_55 rfl ?_
        refine p_if_ltN (tgt := 66) k140_56 (by decide) (by omega) ?_
        refine p_aload_n k140_59 rfl ?_
        refine p_getRv k140_60 (s_98 S) f_12_26_12 (r_98_5 S) ?_
        refine p_iload_n k140_63 rfl ?_
        refine p_iconst (v := (-1)) k140_64 (by decide) ?_
        refine p_iastN k140_65 (s_101 S) (by omega) (by decide) ?_
        refine p_iload_n k140_66 rfl ?_
        refine p_if_lt (tgt := 77) k140_67 (by decide) (fun _ => ?_) (fun c => False.elim (by exact absurd hq0 c))
        refine p_iload_n k140_77 rfl ?_
        refine p_ireturn k140_78 rt_140 ?_
        exact ⟨by simp [putM, optI, s1, *], by simp [putM, optI, s1, *]⟩
    · skip
      refine p_aload_n k140_13 rfl ?_
      refine p_iload_n k140_14 rfl ?_
      refine p_cV1i k140_15 (s_98 S) c_12_259_12 rfl (Nat.le_of_ble_eq_true rfl) (M_isHead S hnh hnh6 (w )) (fun x1 m1 hq => ?_)
      obtain ⟨rfl, rfl⟩ := hq
      refine p_if_neB (tgt := 23) k140_18 (by decide) (fun c18 => ?_) (fun c18 => ?_)
      · skip
        obtain ⟨a, ha, rfl⟩ := ixB_of (n := na) (by omega) c5
        have hca := nI_clamp (n := a) (by omega)
        obtain ⟨q, hq6, rfl⟩ := ixB_of (n := nh) (by omega) c18
        have hcq := nI_clamp (n := q) (by omega)
        have hq0 : ¬ nI q < 0 := by rw [i_lt, nI_t (by omega)]; show ¬ (q : Int) < 0; omega
        have hq1 : (0 : Int32) ≤ nI q := by rw [i_le, nI_t (by omega)]; show (0 : Int) ≤ q; omega
        refine p_iload_n k140_23 rfl ?_
        refine p_if_ltN (tgt := 49) k140_24 (by decide) (by omega) ?_
        refine p_aload_n k140_27 rfl ?_
        refine p_getRv k140_28 (s_98 S) f_12_26_12 (r_98_5 S) ?_
        refine p_iload_n k140_31 rfl ?_
        refine p_ialdN k140_32 (s_101 S) (by omega) (by decide) rfl ?_
        refine p_if_lt (tgt := 49) k140_33 (by decide) (fun c33 => ?_) (fun c33 => ?_)
        · skip
          refine p_aload_n k140_49 rfl ?_
          refine p_iload_n k140_50 rfl ?_
          refine p_cV1i k140_51 (s_98 S) c_12_262_12 rfl (Nat.le_of_ble_eq_true rfl) (M_headOf S hnh hnh6 (nI (a))) (fun x1 m1 hq => ?_)
          obtain ⟨rfl, rfl⟩ := hq
          rcases hfd : fnd (isI (I 101) (nI a)) nh 0 with _ | p
          · skip
            refine p_toI (z := ((-5))) rfl ?_
            refine p_istore_n (ls' := [(0, _), (1, _), (2, _), (3, _)]) k140_54 rfl ?_
            refine p_iload_n k140_55 rfl ?_
            refine p_if_lt (tgt := 66) k140_56 (by decide) (fun _ => ?_) (fun c => False.elim (by exact absurd (by decide) c))
            refine p_iload_n k140_66 rfl ?_
            refine p_if_ltN (tgt := 77) k140_67 (by decide) (by omega) ?_
            refine p_aload_n k140_70 rfl ?_
            refine p_getRv k140_71 (s_98 S) f_12_26_12 (r_98_5 S) ?_
            refine p_iload_n k140_74 rfl ?_
            refine p_iload_n k140_75 rfl ?_
            refine p_iastN k140_76 (s_101 S) (by omega) (by decide) ?_
            refine p_iload_n k140_77 rfl ?_
            refine p_ireturn k140_78 rt_140 ?_
            exact ⟨by simp [putM, optI, s1, *], by simp [putM, optI, s1, *]⟩
          · skip
            have hp6 := (fnd_some hfd).2.1
            refine p_toI (z := (nI (p))) rfl ?_
            refine p_istore_n (ls' := [(0, _), (1, _), (2, _), (3, _)]) k140_54 rfl ?_
            refine p_iload_n k140_55 rfl ?_
            refine p_if_ltN (tgt := 66) k140_56 (by decide) (by omega) ?_
            refine p_aload_n k140_59 rfl ?_
            refine p_getRv k140_60 (s_98 S) f_12_26_12 (r_98_5 S) ?_
            refine p_iload_n k140_63 rfl ?_
            refine p_iconst (v := (-1)) k140_64 (by decide) ?_
            refine p_iastN k140_65 (s_101 S) (by omega) (by decide) ?_
            refine p_iload_n k140_66 rfl ?_
            refine p_if_ltN (tgt := 77) k140_67 (by decide) (by omega) ?_
            refine p_aload_n k140_70 rfl ?_
            refine p_getRv k140_71 (s_98 S) f_12_26_12 (r_98_5 S) ?_
            refine p_iload_n k140_74 rfl ?_
            refine p_iload_n k140_75 rfl ?_
            refine p_iastN k140_76 (s_101 S) (by omega) (by decide) ?_
            refine p_iload_n k140_77 rfl ?_
            refine p_ireturn k140_78 rt_140 ?_
            exact ⟨by simp [putM, optI, s1, *], by simp [putM, optI, s1, *]⟩
        · skip
          refine p_aload_n k140_36 rfl ?_
          refine p_getRv k140_37 (s_98 S) f_12_26_12 (r_98_5 S) ?_
          refine p_iload_n k140_40 rfl ?_
          refine p_ialdN k140_41 (s_101 S) (by omega) (by decide) rfl ?_
          refine p_iload_n k140_42 rfl ?_
          refine p_icmp_eq (tgt := 49) k140_43 (by decide) (fun c43 => ?_) (fun c43 => ?_)
          · skip
            refine p_aload_n k140_49 rfl ?_
            refine p_iload_n k140_50 rfl ?_
            refine p_cV1i k140_51 (s_98 S) c_12_262_12 rfl (Nat.le_of_ble_eq_true rfl) (M_headOf S hnh hnh6 (nI (a))) (fun x1 m1 hq => ?_)
            obtain ⟨rfl, rfl⟩ := hq
            rcases hfd : fnd (isI (I 101) (nI a)) nh 0 with _ | p
            · skip
              refine p_toI (z := ((-5))) rfl ?_
              refine p_istore_n (ls' := [(0, _), (1, _), (2, _), (3, _)]) k140_54 rfl ?_
              refine p_iload_n k140_55 rfl ?_
              refine p_if_lt (tgt := 66) k140_56 (by decide) (fun _ => ?_) (fun c => False.elim (by exact absurd (by decide) c))
              refine p_iload_n k140_66 rfl ?_
              refine p_if_ltN (tgt := 77) k140_67 (by decide) (by omega) ?_
              refine p_aload_n k140_70 rfl ?_
              refine p_getRv k140_71 (s_98 S) f_12_26_12 (r_98_5 S) ?_
              refine p_iload_n k140_74 rfl ?_
              refine p_iload_n k140_75 rfl ?_
              refine p_iastN k140_76 (s_101 S) (by omega) (by decide) ?_
              refine p_iload_n k140_77 rfl ?_
              refine p_ireturn k140_78 rt_140 ?_
              exact ⟨by simp [putM, optI, s1, *], by simp [putM, optI, s1, *]⟩
            · skip
              have hp6 := (fnd_some hfd).2.1
              refine p_toI (z := (nI (p))) rfl ?_
              refine p_istore_n (ls' := [(0, _), (1, _), (2, _), (3, _)]) k140_54 rfl ?_
              refine p_iload_n k140_55 rfl ?_
              refine p_if_ltN (tgt := 66) k140_56 (by decide) (by omega) ?_
              refine p_aload_n k140_59 rfl ?_
              refine p_getRv k140_60 (s_98 S) f_12_26_12 (r_98_5 S) ?_
              refine p_iload_n k140_63 rfl ?_
              refine p_iconst (v := (-1)) k140_64 (by decide) ?_
              refine p_iastN k140_65 (s_101 S) (by omega) (by decide) ?_
              refine p_iload_n k140_66 rfl ?_
              refine p_if_ltN (tgt := 77) k140_67 (by decide) (by omega) ?_
              refine p_aload_n k140_70 rfl ?_
              refine p_getRv k140_71 (s_98 S) f_12_26_12 (r_98_5 S) ?_
              refine p_iload_n k140_74 rfl ?_
              refine p_iload_n k140_75 rfl ?_
              refine p_iastN k140_76 (s_101 S) (by omega) (by decide) ?_
              refine p_iload_n k140_77 rfl ?_
              refine p_ireturn k140_78 rt_140 ?_
              exact ⟨by simp [putM, optI, s1, *], by simp [putM, optI, s1, *]⟩
          · skip
            refine p_bipush (v := (-3)) k140_46 (by decide) ?_
            refine p_ireturn k140_48 rt_140 ?_
            exact ⟨by simp [putM, optI, s1, *], by simp [putM, optI, s1, *]⟩
      · skip
        refine p_iconst (v := (-1)) k140_21 (by decide) ?_
        refine p_ireturn k140_22 rt_140 ?_
        exact ⟨by simp [putM, optI, s1, *], by simp [putM, optI, s1, *]⟩

