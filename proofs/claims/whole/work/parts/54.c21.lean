/-! the class: swap -/
/-- what a swap of two heads' hats brings -/
def gaC (R : Nat → Nat → Int32) (cb ce nh na a b : Nat) : Int32 := ntD R cb ce nh na (R 101 a) (nI b) + ntD R cb ce nh na (R 101 b) (nI a) - ntD R cb ce nh na (R 101 a) (nI a) - ntD R cb ce nh na (R 101 b) (nI b)
def fScB (R : Nat → Nat → Int32) (cb ce nh na a : Nat) (b : Nat) (s : Int32 × Int32) : Int32 × Int32 := if gaC R cb ce nh na a b ≤ s.2 then s else (nI (10 * a + b), gaC R cb ce nh na a b)
def fScA (R : Nat → Nat → Int32) (cb ce nh na : Nat) (a : Nat) (s : Int32 × Int32) : Int32 × Int32 := fld (fScB R cb ce nh na a) (nh - (a + 1)) (a + 1) s
def swpC (R : Nat → Nat → Int32) (cb ce nh na : Nat) : Int32 := (fld (fScA R cb ce nh na) nh 0 (-5, nI 0)).1
set_option maxRecDepth 100000 in
set_option maxHeartbeats 4000000 in
theorem C_swap {d : Nat} {I : Nat → Nat → Int32} {J : Nat → Nat → Int64} {K : Nat → Nat → Option Nat} {h : List xSh} (S : St K h) {R0 : Nat → Nat → Int32} {nh na dd cb ce tw : Nat} (C : CR I K h R0 na tw) (M : MI R0 nh na dd cb ce) (Q : AR R0 nh na dd) (g : Nat → Int32)  : EvP (d + 7) 80 0 [(0, .ref (0))] [] (upc I 39 g, J, K, h) (QI (fun x t => x = swpC R0 cb ce nh na ∧ ∃ u g, t = (upc (upc I 40 u) 39 g, J, K, h))) := by
  have hnh6 := M.nh6
  have hna6 := M.na6
  refine p_aload_n k80_0 rfl ?_
  refine p_cV0v k80_1 (s_0 S) c_11_228_11 (Nat.le_of_ble_eq_true rfl) (C_noteDeeds S C M Q g) (fun m1 hq => ?_)
  obtain ⟨u, g, rfl, hu⟩ := hq
  refine p_bipush (v := (-5)) k80_4 (by decide) ?_
  refine p_istore_n (ls' := [(0, _), (1, _)]) k80_6 rfl ?_
  refine p_iconst (v := nI 0) k80_7 (by decide) ?_
  refine p_istore_n (ls' := [(0, _), (1, _), (2, _)]) k80_8 rfl ?_
  refine p_iconst (v := nI 0) k80_9 (by decide) ?_
  refine p_istore_n (ls' := [(0, _), (1, _), (2, _), (3, _)]) k80_10 rfl ?_
  have L : ∀ (j : Nat) (k : Nat) (s1 s2 : Int32), k + j = nh → (fld (fScA R0 cb ce nh na) j k (s1, s2)).1 = swpC R0 cb ce nh na → EvP (d + 7) 80 11 [(0, .ref (0)), (1, .int (s1)), (2, .int (s2)), (3, .int (nI (k)))] [] (upc (upc I 40 u) 39 g, J, K, h) (QI (fun x t => x = swpC R0 cb ce nh na ∧ ∃ u g, t = (upc (upc I 40 u) 39 g, J, K, h))) := by
    intro j
    induction j with
    | zero =>
      intro k s1 s2 hk
      intro hs
      refine p_iload_n k80_11 rfl ?_
      refine p_aload_n k80_12 rfl ?_
      refine p_getRv k80_13 (s_0 S) f_11_14_11 (r_0_0 S) ?_
      refine p_getIv k80_16 (s_1 S) f_11_89_3 (show _ = nI nh from C.heads.trans M.nh) ?_
      refine p_icmp_geN (tgt := 133) k80_19 (by decide) (by omega) (by omega) (fun _ => ?_) (fun c => False.elim (by omega))
      refine p_iload_n k80_133 rfl ?_
      refine p_ireturn k80_134 rt_80 ?_
      exact ⟨hs, u, g, rfl⟩
    | succ j ih =>
      intro k s1 s2 hk
      intro hs
      have ih0 := ih
      obtain ⟨j0, hj0⟩ : ∃ j0, j0 = j := ⟨j, rfl⟩
      subst hj0
      refine p_iload_n k80_11 rfl ?_
      refine p_aload_n k80_12 rfl ?_
      refine p_getRv k80_13 (s_0 S) f_11_14_11 (r_0_0 S) ?_
      refine p_getIv k80_16 (s_1 S) f_11_89_3 (show _ = nI nh from C.heads.trans M.nh) ?_
      refine p_icmp_geN (tgt := 133) k80_19 (by decide) (by omega) (by omega) (fun c => False.elim (by omega)) (fun _ => ?_)
      refine p_iload_n k80_22 rfl ?_
      refine p_iconst (v := nI 1) k80_23 (by decide) ?_
      refine p_iaddN k80_24 ?_
      refine p_istore (ls' := [(0, _), (1, _), (2, _), (3, _), (4, _)]) k80_25 rfl ?_
      have L2 : ∀ (j : Nat) (m : Nat) (s1 s2 : Int32), m + j = nh → (fld (fScA R0 cb ce nh na) j0 (k + 1) (fld (fScB R0 cb ce nh na k) j m (s1, s2))).1 = swpC R0 cb ce nh na → EvP (d + 7) 80 27 [(0, .ref (0)), (1, .int (s1)), (2, .int (s2)), (3, .int (nI (k))), (4, .int (nI (m)))] [] (upc (upc I 40 u) 39 g, J, K, h) (QI (fun x t => x = swpC R0 cb ce nh na ∧ ∃ u g, t = (upc (upc I 40 u) 39 g, J, K, h))) := by
        intro j
        induction j with
        | zero =>
          intro m s1 s2 hk
          intro hs
          refine p_iload k80_27 rfl ?_
          refine p_aload_n k80_29 rfl ?_
          refine p_getRv k80_30 (s_0 S) f_11_14_11 (r_0_0 S) ?_
          refine p_getIv k80_33 (s_1 S) f_11_89_3 (show _ = nI nh from C.heads.trans M.nh) ?_
          refine p_icmp_geN (tgt := 127) k80_36 (by decide) (by omega) (by omega) (fun _ => ?_) (fun c => False.elim (by omega))
          refine p_iincN (ls1 := [(0, _), (1, _), (2, _), (3, _), (4, _)]) k80_127 rfl rfl ?_
          refine p_goto (tgt := 11) k80_130 (by decide) ?_
          refine p_drop [0, 1, 2, 3] rfl ?_
          exact ih0 (k + 1) _ _ (by omega) hs
        | succ j ih =>
          intro m s1 s2 hk
          intro hs
          refine p_iload k80_27 rfl ?_
          refine p_aload_n k80_29 rfl ?_
          refine p_getRv k80_30 (s_0 S) f_11_14_11 (r_0_0 S) ?_
          refine p_getIv k80_33 (s_1 S) f_11_89_3 (show _ = nI nh from C.heads.trans M.nh) ?_
          refine p_icmp_geN (tgt := 127) k80_36 (by decide) (by omega) (by omega) (fun c => False.elim (by omega)) (fun _ => ?_)
          refine p_aload_n k80_39 rfl ?_
          refine p_aload_n k80_40 rfl ?_
          refine p_getRv k80_41 (s_0 S) f_11_14_11 (r_0_0 S) ?_
          refine p_getRv k80_44 (s_1 S) f_11_98_3 (r_1_3 S) ?_
          refine p_iload_n k80_47 rfl ?_
          refine p_ialdN k80_48 (s_4 S) (by omega) (by decide) (show _ = R0 101 k from congrFun C.a4 k) ?_
          refine p_iload k80_49 rfl ?_
          refine p_cV2i k80_51 (s_0 S) c_11_248_11 rfl rfl (Nat.le_of_ble_eq_true rfl) (C_noted S C M Q g hu (R0 101 k) (nI m)) (fun x1 m1 hq => ?_)
          obtain ⟨rfl, rfl⟩ := hq
          refine p_aload_n k80_54 rfl ?_
          refine p_aload_n k80_55 rfl ?_
          refine p_getRv k80_56 (s_0 S) f_11_14_11 (r_0_0 S) ?_
          refine p_getRv k80_59 (s_1 S) f_11_98_3 (r_1_3 S) ?_
          refine p_iload k80_62 rfl ?_
          refine p_ialdN k80_64 (s_4 S) (by omega) (by decide) (show _ = R0 101 m from congrFun C.a4 m) ?_
          refine p_iload_n k80_65 rfl ?_
          refine p_cV2i k80_66 (s_0 S) c_11_248_11 rfl rfl (Nat.le_of_ble_eq_true rfl) (C_noted S C M Q g hu (R0 101 m) (nI k)) (fun x1 m1 hq => ?_)
          obtain ⟨rfl, rfl⟩ := hq
          refine p_iadd k80_69 ?_
          refine p_aload_n k80_70 rfl ?_
          refine p_aload_n k80_71 rfl ?_
          refine p_getRv k80_72 (s_0 S) f_11_14_11 (r_0_0 S) ?_
          refine p_getRv k80_75 (s_1 S) f_11_98_3 (r_1_3 S) ?_
          refine p_iload_n k80_78 rfl ?_
          refine p_ialdN k80_79 (s_4 S) (by omega) (by decide) (show _ = R0 101 k from congrFun C.a4 k) ?_
          refine p_iload_n k80_80 rfl ?_
          refine p_cV2i k80_81 (s_0 S) c_11_248_11 rfl rfl (Nat.le_of_ble_eq_true rfl) (C_noted S C M Q g hu (R0 101 k) (nI k)) (fun x1 m1 hq => ?_)
          obtain ⟨rfl, rfl⟩ := hq
          refine p_isub k80_84 ?_
          refine p_aload_n k80_85 rfl ?_
          refine p_aload_n k80_86 rfl ?_
          refine p_getRv k80_87 (s_0 S) f_11_14_11 (r_0_0 S) ?_
          refine p_getRv k80_90 (s_1 S) f_11_98_3 (r_1_3 S) ?_
          refine p_iload k80_93 rfl ?_
          refine p_ialdN k80_95 (s_4 S) (by omega) (by decide) (show _ = R0 101 m from congrFun C.a4 m) ?_
          refine p_iload k80_96 rfl ?_
          refine p_cV2i k80_98 (s_0 S) c_11_248_11 rfl rfl (Nat.le_of_ble_eq_true rfl) (C_noted S C M Q g hu (R0 101 m) (nI m)) (fun x1 m1 hq => ?_)
          obtain ⟨rfl, rfl⟩ := hq
          refine p_isub k80_101 ?_
          refine p_istore (ls' := [(0, _), (1, _), (2, _), (3, _), (4, _), (5, _)]) k80_102 rfl ?_
          refine p_iload k80_104 rfl ?_
          refine p_iload_n k80_106 rfl ?_
          refine p_icmp_le (tgt := 121) k80_107 (by decide) (fun cq107 => ?_) (fun cq107 => ?_)
          · skip
            refine p_iincN (ls1 := [(0, _), (1, _), (2, _), (3, _), (4, _), (5, _)]) k80_121 rfl rfl ?_
            refine p_goto (tgt := 27) k80_124 (by decide) ?_
            refine p_drop [0, 1, 2, 3, 4] rfl ?_
            exact ih (m + 1) _ _ (by omega) (by rw [← hs]; exact congrArg (fun z => (fld (fScA R0 cb ce nh na) j0 (k + 1) (fld (fScB R0 cb ce nh na k) j (m + 1) z)).1) (by unfold fScB; first | exact (if_pos cq107).symm | exact (if_neg cq107).symm | exact if_pos cq107 | exact if_neg cq107))
          · skip
            refine p_iload k80_110 rfl ?_
            refine p_istore_n (ls' := [(0, _), (1, _), (2, _), (3, _), (4, _), (5, _)]) k80_112 rfl ?_
            refine p_bipush (v := nI 10) k80_113 (by decide) ?_
            refine p_iload_n k80_115 rfl ?_
            refine p_imulN k80_116 ?_
            refine p_iload k80_117 rfl ?_
            refine p_iaddN k80_119 ?_
            refine p_istore_n (ls' := [(0, _), (1, _), (2, _), (3, _), (4, _), (5, _)]) k80_120 rfl ?_
            refine p_iincN (ls1 := [(0, _), (1, _), (2, _), (3, _), (4, _), (5, _)]) k80_121 rfl rfl ?_
            refine p_goto (tgt := 27) k80_124 (by decide) ?_
            refine p_drop [0, 1, 2, 3, 4] rfl ?_
            exact ih (m + 1) _ _ (by omega) (by rw [← hs]; exact congrArg (fun z => (fld (fScA R0 cb ce nh na) j0 (k + 1) (fld (fScB R0 cb ce nh na k) j (m + 1) z)).1) (by unfold fScB; first | exact (if_pos cq107).symm | exact (if_neg cq107).symm | exact if_pos cq107 | exact if_neg cq107))
      exact L2 (nh - (k + 1)) (k + 1) _ _ (by omega) hs
  exact L nh 0 _ _ (by omega) rfl

