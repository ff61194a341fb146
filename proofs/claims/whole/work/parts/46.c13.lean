/-! the class: put, row, of -/
theorem orA_opt {P : Nat → Bool} {n : Nat} (hn : n ≤ 6) : orA (optI (-1) (fnd P n 0)) = optI (-5) (fnd P n 0) := by
  rcases hfd : fnd P n 0 with _ | p
  · rfl
  · have hp := (fnd_some hfd).2.1
    show (if nI p = -1 then -5 else nI p) = nI p
    exact if_neg (nI_neg (by omega) (by decide))
theorem worn_lt {x : Int32} (h : x = -1 ∨ ∃ k, k < 100 ∧ x = nI k) : x < 0 ↔ x = -1 := by
  rcases h with e | ⟨s, hs, e⟩
  · rw [e]; exact ⟨fun _ => rfl, fun _ => by decide⟩
  · rw [e]; exact ⟨fun z => absurd z (opt_neg hs), fun z => absurd z (nI_neg (by omega) (by decide))⟩
set_option maxRecDepth 100000 in
set_option maxHeartbeats 4000000 in
theorem C_put {d : Nat} {I : Nat → Nat → Int32} {J : Nat → Nat → Int64} {K : Nat → Nat → Option Nat} {h : List xSh} (S : St K h) {R0 : Nat → Nat → Int32} {nh na dd cb ce tw : Nat} (C : CR I K h R0 na tw) (M : MI R0 nh na dd cb ce) (Q : AR R0 nh na dd) (v w : Int32) : EvP (d + 2) 61 0 [(0, .ref (0)), (1, .int (v)), (2, .int (w))] [] (I, J, K, h) (QI (fun x t => x = (putM R0 nh na v w).1 ∧ ∃ I2, t = (I2, J, K, h) ∧ CE I2 (putM R0 nh na v w).2 ∧ FRC I I2)) := by
  have hnh6 := M.nh6
  have hna6 := M.na6
  refine p_aload_n k61_0 rfl ?_
  refine p_getRv k61_1 (s_0 S) f_11_14_11 (r_0_0 S) ?_
  refine p_iload_n k61_4 rfl ?_
  refine p_cV1i k61_5 (s_1 S) c_11_151_3 rfl (Nat.le_of_ble_eq_true rfl) (C_isHat S (n := na) (C.hats.trans M.na) hna6 (v)) (fun x1 m1 hq => ?_)
  obtain ⟨rfl, rfl⟩ := hq
  refine p_if_eqB (tgt := 19) k61_8 (by decide) (fun cq8 => ?_) (fun cq8 => ?_)
  · skip
    refine p_iconst (v := (-1)) k61_19 (by decide) ?_
    refine p_ireturn k61_20 rt_61 ?_
    rw [show putM R0 nh na v w = (-1, R0) from by unfold putM; first | rw [if_pos (Or.inl cq8)] | rw [if_pos (Or.inr (by by_cases hw : w = -1; rw [decide_eq_true hw] at cq16; cases cq16; rw [decide_eq_false hw] at cq16; exact ⟨hw, cq16⟩))]]
    exact ⟨rfl, _, rfl, C.ce, FRC.refl I⟩
  · skip
    refine p_aload_n k61_11 rfl ?_
    refine p_iload_n k61_12 rfl ?_
    refine p_cV1i k61_13 (s_0 S) c_11_180_11 rfl (Nat.le_of_ble_eq_true rfl) (C_isHeadOrEmpty S (n := nh) (C.heads.trans M.nh) hnh6 w) (fun x1 m1 hq => ?_)
    obtain ⟨rfl, rfl⟩ := hq
    refine p_if_neB (tgt := 21) k61_16 (by decide) (fun cq16 => ?_) (fun cq16 => ?_)
    · skip
      obtain ⟨i, hi, rfl⟩ := ixB_of (n := na) (by omega) cq8
      have hci := nI_clamp (n := i) (by omega)
      by_cases hw : w = -1
      · skip
        subst hw
        refine p_iload_n k61_21 rfl ?_
        refine p_iconst (v := (-1)) k61_22 (by decide) ?_
        refine p_icmp_eq (tgt := 55) k61_23 (by decide) (fun _ => ?_) (fun c => False.elim (by exact absurd rfl c))
        refine p_aload_n k61_55 rfl ?_
        refine p_getRv k61_56 (s_0 S) f_11_14_11 (r_0_0 S) ?_
        refine p_iload_n k61_59 rfl ?_
        refine p_cV1i k61_60 (s_1 S) c_11_166_3 rfl (Nat.le_of_ble_eq_true rfl) (C_wearer S (n := nh) (C.heads.trans M.nh) hnh6 (nI i)) (fun x1 m1 hq => ?_)
        obtain ⟨rfl, rfl⟩ := hq
        rw [C.a4]
        refine p_istore_n (ls' := [(0, _), (1, _), (2, _), (3, _)]) k61_63 rfl ?_
        rcases hfd : fnd (isI (R0 101) (nI i)) nh 0 with _ | p
        · skip
          refine p_iload_n k61_64 rfl ?_
          refine p_iconst (v := (-1)) k61_65 (by decide) ?_
          refine p_icmp_eq (tgt := 79) k61_66 (by decide) (fun _ => ?_) (fun c => False.elim (by exact absurd rfl c))
          refine p_iload_n k61_79 rfl ?_
          refine p_iconst (v := (-1)) k61_80 (by decide) ?_
          refine p_icmp_eq (tgt := 94) k61_81 (by decide) (fun _ => ?_) (fun c => False.elim (by exact absurd rfl c))
          refine p_iload_n k61_94 rfl ?_
          refine p_cS1i k61_95 c_11_170 rfl (Nat.le_of_ble_eq_true rfl) (C_orNotAny S ((-1))) (fun x1 m1 hq => ?_)
          obtain ⟨rfl, rfl⟩ := hq
          refine p_ireturn k61_98 rt_61 ?_
          have hP : putM R0 nh na (nI i) (-1) = (-5, R0) := by unfold putM; rw [if_neg (fun z => z.elim (fun z => by rw [cq8] at z; cases z) (fun z => z.1 rfl)), if_neg (fun z => z.1 (by decide)), hfd, if_pos (show (-1 : Int32) < 0 by decide)]; first | done | rfl
          rw [hP]
          exact ⟨rfl, _, rfl, C.ce, (FRC.refl I)⟩
        · skip
          have hp6 := (fnd_some hfd).2.1
          refine p_iload_n k61_64 rfl ?_
          refine p_iconst (v := (-1)) k61_65 (by decide) ?_
          refine p_icmp_eq (tgt := 79) k61_66 (by decide) (fun c => False.elim (by exact absurd c (nI_neg (by omega) (by decide)))) (fun _ => ?_)
          refine p_aload_n k61_69 rfl ?_
          refine p_getRv k61_70 (s_0 S) f_11_14_11 (r_0_0 S) ?_
          refine p_getRv k61_73 (s_1 S) f_11_98_3 (r_1_3 S) ?_
          refine p_iload_n k61_76 rfl ?_
          refine p_iconst (v := (-1)) k61_77 (by decide) ?_
          refine p_iastN k61_78 (s_4 S) (by omega) (by decide) ?_
          refine p_iload_n k61_79 rfl ?_
          refine p_iconst (v := (-1)) k61_80 (by decide) ?_
          refine p_icmp_eq (tgt := 94) k61_81 (by decide) (fun _ => ?_) (fun c => False.elim (by exact absurd rfl c))
          refine p_iload_n k61_94 rfl ?_
          refine p_cS1i k61_95 c_11_170 rfl (Nat.le_of_ble_eq_true rfl) (C_orNotAny S (nI (p))) (fun x1 m1 hq => ?_)
          obtain ⟨rfl, rfl⟩ := hq
          refine p_ireturn k61_98 rt_61 ?_
          have hP : putM R0 nh na (nI i) (-1) = (nI p, s1 R0 101 p (-1)) := by unfold putM; rw [if_neg (fun z => z.elim (fun z => by rw [cq8] at z; cases z) (fun z => z.1 rfl)), if_neg (fun z => z.1 (by decide)), hfd, if_pos (show (-1 : Int32) < 0 by decide)]; first | done | rfl
          rw [hP]
          exact ⟨(if_neg (nI_neg (by omega) (by decide))), _, rfl, (C.ce.ar4 p (-1)), ((FRC.refl I).ar (by decide) p (-1))⟩
      · skip
        have hwn : ixB w nh = true := by rw [decide_eq_false hw] at cq16; exact cq16
        obtain ⟨q, hq6, rfl⟩ := ixB_of (n := nh) (by omega) hwn
        have hcq := nI_clamp (n := q) (by omega)
        have hq0 : ¬ nI q < 0 := opt_neg (by omega)
        have hqn := hwn
        refine p_iload_n k61_21 rfl ?_
        refine p_iconst (v := (-1)) k61_22 (by decide) ?_
        refine p_icmp_eq (tgt := 55) k61_23 (by decide) (fun c => False.elim (by exact absurd c (nI_neg (by omega) (by decide)))) (fun _ => ?_)
        refine p_aload_n k61_26 rfl ?_
        refine p_getRv k61_27 (s_0 S) f_11_14_11 (r_0_0 S) ?_
        refine p_getRv k61_30 (s_1 S) f_11_98_3 (r_1_3 S) ?_
        refine p_iload_n k61_33 rfl ?_
        refine p_ialdN k61_34 (s_4 S) (by omega) (by decide) (congrFun C.a4 q) ?_
        refine p_iconst (v := (-1)) k61_35 (by decide) ?_
        refine p_icmp_eq (tgt := 55) k61_36 (by decide) (fun cq36 => ?_) (fun cq36 => ?_)
        · skip
          refine p_aload_n k61_55 rfl ?_
          refine p_getRv k61_56 (s_0 S) f_11_14_11 (r_0_0 S) ?_
          refine p_iload_n k61_59 rfl ?_
          refine p_cV1i k61_60 (s_1 S) c_11_166_3 rfl (Nat.le_of_ble_eq_true rfl) (C_wearer S (n := nh) (C.heads.trans M.nh) hnh6 (nI i)) (fun x1 m1 hq => ?_)
          obtain ⟨rfl, rfl⟩ := hq
          rw [C.a4]
          refine p_istore_n (ls' := [(0, _), (1, _), (2, _), (3, _)]) k61_63 rfl ?_
          rcases hfd : fnd (isI (R0 101) (nI i)) nh 0 with _ | p
          · skip
            refine p_iload_n k61_64 rfl ?_
            refine p_iconst (v := (-1)) k61_65 (by decide) ?_
            refine p_icmp_eq (tgt := 79) k61_66 (by decide) (fun _ => ?_) (fun c => False.elim (by exact absurd rfl c))
            refine p_iload_n k61_79 rfl ?_
            refine p_iconst (v := (-1)) k61_80 (by decide) ?_
            refine p_icmp_eq (tgt := 94) k61_81 (by decide) (fun c => False.elim (by exact absurd c (nI_neg (by omega) (by decide)))) (fun _ => ?_)
            refine p_aload_n k61_84 rfl ?_
            refine p_getRv k61_85 (s_0 S) f_11_14_11 (r_0_0 S) ?_
            refine p_getRv k61_88 (s_1 S) f_11_98_3 (r_1_3 S) ?_
            refine p_iload_n k61_91 rfl ?_
            refine p_iload_n k61_92 rfl ?_
            refine p_iastN k61_93 (s_4 S) (by omega) (by decide) ?_
            refine p_iload_n k61_94 rfl ?_
            refine p_cS1i k61_95 c_11_170 rfl (Nat.le_of_ble_eq_true rfl) (C_orNotAny S ((-1))) (fun x1 m1 hq => ?_)
            obtain ⟨rfl, rfl⟩ := hq
            refine p_ireturn k61_98 rt_61 ?_
            have hP : putM R0 nh na (nI i) (nI q) = (-5, s1 (R0) 101 q (nI i)) := by unfold putM; rw [if_neg (fun z => z.elim (fun z => by rw [cq8] at z; cases z) (fun z => (fun z => by rw [hqn] at z; cases z) z.2)), hcq, if_neg (fun z => by first | exact z.2.1 ((worn_lt (M.wornO hq6)).2 cq36) | exact z.2.2 cq49), hfd, if_neg hq0]; first | done | rfl
            rw [hP]
            exact ⟨rfl, _, rfl, C.ce.ar4 q (nI i), (FRC.refl I).ar (by decide) q (nI i)⟩
          · skip
            have hp6 := (fnd_some hfd).2.1
            refine p_iload_n k61_64 rfl ?_
            refine p_iconst (v := (-1)) k61_65 (by decide) ?_
            refine p_icmp_eq (tgt := 79) k61_66 (by decide) (fun c => False.elim (by exact absurd c (nI_neg (by omega) (by decide)))) (fun _ => ?_)
            refine p_aload_n k61_69 rfl ?_
            refine p_getRv k61_70 (s_0 S) f_11_14_11 (r_0_0 S) ?_
            refine p_getRv k61_73 (s_1 S) f_11_98_3 (r_1_3 S) ?_
            refine p_iload_n k61_76 rfl ?_
            refine p_iconst (v := (-1)) k61_77 (by decide) ?_
            refine p_iastN k61_78 (s_4 S) (by omega) (by decide) ?_
            refine p_iload_n k61_79 rfl ?_
            refine p_iconst (v := (-1)) k61_80 (by decide) ?_
            refine p_icmp_eq (tgt := 94) k61_81 (by decide) (fun c => False.elim (by exact absurd c (nI_neg (by omega) (by decide)))) (fun _ => ?_)
            refine p_aload_n k61_84 rfl ?_
            refine p_getRv k61_85 (s_0 S) f_11_14_11 (r_0_0 S) ?_
            refine p_getRv k61_88 (s_1 S) f_11_98_3 (r_1_3 S) ?_
            refine p_iload_n k61_91 rfl ?_
            refine p_iload_n k61_92 rfl ?_
            refine p_iastN k61_93 (s_4 S) (by omega) (by decide) ?_
            refine p_iload_n k61_94 rfl ?_
            refine p_cS1i k61_95 c_11_170 rfl (Nat.le_of_ble_eq_true rfl) (C_orNotAny S (nI (p))) (fun x1 m1 hq => ?_)
            obtain ⟨rfl, rfl⟩ := hq
            refine p_ireturn k61_98 rt_61 ?_
            have hP : putM R0 nh na (nI i) (nI q) = (nI p, s1 (s1 R0 101 p (-1)) 101 q (nI i)) := by unfold putM; rw [if_neg (fun z => z.elim (fun z => by rw [cq8] at z; cases z) (fun z => (fun z => by rw [hqn] at z; cases z) z.2)), hcq, if_neg (fun z => by first | exact z.2.1 ((worn_lt (M.wornO hq6)).2 cq36) | exact z.2.2 cq49), hfd, if_neg hq0]; first | done | rfl
            rw [hP]
            exact ⟨(if_neg (nI_neg (by omega) (by decide))), _, rfl, (C.ce.ar4 p (-1)).ar4 q (nI i), ((FRC.refl I).ar (by decide) p (-1)).ar (by decide) q (nI i)⟩
        · skip
          refine p_aload_n k61_39 rfl ?_
          refine p_getRv k61_40 (s_0 S) f_11_14_11 (r_0_0 S) ?_
          refine p_getRv k61_43 (s_1 S) f_11_98_3 (r_1_3 S) ?_
          refine p_iload_n k61_46 rfl ?_
          refine p_ialdN k61_47 (s_4 S) (by omega) (by decide) (congrFun C.a4 q) ?_
          refine p_iload_n k61_48 rfl ?_
          refine p_icmp_eq (tgt := 55) k61_49 (by decide) (fun cq49 => ?_) (fun cq49 => ?_)
          · skip
            refine p_aload_n k61_55 rfl ?_
            refine p_getRv k61_56 (s_0 S) f_11_14_11 (r_0_0 S) ?_
            refine p_iload_n k61_59 rfl ?_
            refine p_cV1i k61_60 (s_1 S) c_11_166_3 rfl (Nat.le_of_ble_eq_true rfl) (C_wearer S (n := nh) (C.heads.trans M.nh) hnh6 (nI i)) (fun x1 m1 hq => ?_)
            obtain ⟨rfl, rfl⟩ := hq
            rw [C.a4]
            refine p_istore_n (ls' := [(0, _), (1, _), (2, _), (3, _)]) k61_63 rfl ?_
            rcases hfd : fnd (isI (R0 101) (nI i)) nh 0 with _ | p
            · skip
              refine p_iload_n k61_64 rfl ?_
              refine p_iconst (v := (-1)) k61_65 (by decide) ?_
              refine p_icmp_eq (tgt := 79) k61_66 (by decide) (fun _ => ?_) (fun c => False.elim (by exact absurd rfl c))
              refine p_iload_n k61_79 rfl ?_
              refine p_iconst (v := (-1)) k61_80 (by decide) ?_
              refine p_icmp_eq (tgt := 94) k61_81 (by decide) (fun c => False.elim (by exact absurd c (nI_neg (by omega) (by decide)))) (fun _ => ?_)
              refine p_aload_n k61_84 rfl ?_
              refine p_getRv k61_85 (s_0 S) f_11_14_11 (r_0_0 S) ?_
              refine p_getRv k61_88 (s_1 S) f_11_98_3 (r_1_3 S) ?_
              refine p_iload_n k61_91 rfl ?_
              refine p_iload_n k61_92 rfl ?_
              refine p_iastN k61_93 (s_4 S) (by omega) (by decide) ?_
              refine p_iload_n k61_94 rfl ?_
              refine p_cS1i k61_95 c_11_170 rfl (Nat.le_of_ble_eq_true rfl) (C_orNotAny S ((-1))) (fun x1 m1 hq => ?_)
              obtain ⟨rfl, rfl⟩ := hq
              refine p_ireturn k61_98 rt_61 ?_
              have hP : putM R0 nh na (nI i) (nI q) = (-5, s1 (R0) 101 q (nI i)) := by unfold putM; rw [if_neg (fun z => z.elim (fun z => by rw [cq8] at z; cases z) (fun z => (fun z => by rw [hqn] at z; cases z) z.2)), hcq, if_neg (fun z => by first | exact z.2.1 ((worn_lt (M.wornO hq6)).2 cq36) | exact z.2.2 cq49), hfd, if_neg hq0]; first | done | rfl
              rw [hP]
              exact ⟨rfl, _, rfl, C.ce.ar4 q (nI i), (FRC.refl I).ar (by decide) q (nI i)⟩
            · skip
              have hp6 := (fnd_some hfd).2.1
              refine p_iload_n k61_64 rfl ?_
              refine p_iconst (v := (-1)) k61_65 (by decide) ?_
              refine p_icmp_eq (tgt := 79) k61_66 (by decide) (fun c => False.elim (by exact absurd c (nI_neg (by omega) (by decide)))) (fun _ => ?_)
              refine p_aload_n k61_69 rfl ?_
              refine p_getRv k61_70 (s_0 S) f_11_14_11 (r_0_0 S) ?_
              refine p_getRv k61_73 (s_1 S) f_11_98_3 (r_1_3 S) ?_
              refine p_iload_n k61_76 rfl ?_
              refine p_iconst (v := (-1)) k61_77 (by decide) ?_
              refine p_iastN k61_78 (s_4 S) (by omega) (by decide) ?_
              refine p_iload_n k61_79 rfl ?_
              refine p_iconst (v := (-1)) k61_80 (by decide) ?_
              refine p_icmp_eq (tgt := 94) k61_81 (by decide) (fun c => False.elim (by exact absurd c (nI_neg (by omega) (by decide)))) (fun _ => ?_)
              refine p_aload_n k61_84 rfl ?_
              refine p_getRv k61_85 (s_0 S) f_11_14_11 (r_0_0 S) ?_
              refine p_getRv k61_88 (s_1 S) f_11_98_3 (r_1_3 S) ?_
              refine p_iload_n k61_91 rfl ?_
              refine p_iload_n k61_92 rfl ?_
              refine p_iastN k61_93 (s_4 S) (by omega) (by decide) ?_
              refine p_iload_n k61_94 rfl ?_
              refine p_cS1i k61_95 c_11_170 rfl (Nat.le_of_ble_eq_true rfl) (C_orNotAny S (nI (p))) (fun x1 m1 hq => ?_)
              obtain ⟨rfl, rfl⟩ := hq
              refine p_ireturn k61_98 rt_61 ?_
              have hP : putM R0 nh na (nI i) (nI q) = (nI p, s1 (s1 R0 101 p (-1)) 101 q (nI i)) := by unfold putM; rw [if_neg (fun z => z.elim (fun z => by rw [cq8] at z; cases z) (fun z => (fun z => by rw [hqn] at z; cases z) z.2)), hcq, if_neg (fun z => by first | exact z.2.1 ((worn_lt (M.wornO hq6)).2 cq36) | exact z.2.2 cq49), hfd, if_neg hq0]; first | done | rfl
              rw [hP]
              exact ⟨(if_neg (nI_neg (by omega) (by decide))), _, rfl, (C.ce.ar4 p (-1)).ar4 q (nI i), ((FRC.refl I).ar (by decide) p (-1)).ar (by decide) q (nI i)⟩
          · skip
            refine p_bipush (v := (-3)) k61_52 (by decide) ?_
            refine p_ireturn k61_54 rt_61 ?_
            rw [show putM R0 nh na (nI i) (nI q) = (-3, R0) from by unfold putM; rw [if_neg (fun z => z.elim (fun z => by rw [cq8] at z; cases z) (fun z => (fun z => by rw [hqn] at z; cases z) z.2)), hcq, if_pos ⟨hq0, fun z => cq36 ((worn_lt (M.wornO hq6)).1 z), cq49⟩]]
            exact ⟨rfl, _, rfl, C.ce, FRC.refl I⟩
    · skip
      refine p_iconst (v := (-1)) k61_19 (by decide) ?_
      refine p_ireturn k61_20 rt_61 ?_
      rw [show putM R0 nh na v w = (-1, R0) from by unfold putM; first | rw [if_pos (Or.inl cq8)] | rw [if_pos (Or.inr (by by_cases hw : w = -1; rw [decide_eq_true hw] at cq16; cases cq16; rw [decide_eq_false hw] at cq16; exact ⟨hw, cq16⟩))]]
      exact ⟨rfl, _, rfl, C.ce, FRC.refl I⟩

set_option maxRecDepth 100000 in
set_option maxHeartbeats 4000000 in
theorem C_row {d : Nat} {I : Nat → Nat → Int32} {J : Nat → Nat → Int64} {K : Nat → Nat → Option Nat} {h : List xSh} (S : St K h) {R0 : Nat → Nat → Int32} {nh na dd cb ce tw : Nat} (C : CR I K h R0 na tw) (M : MI R0 nh na dd cb ce) (Q : AR R0 nh na dd) (v w n : Int32) : EvP (d + 2) 60 0 [(0, .ref (0)), (1, .int (v)), (2, .int (w)), (3, .int (n))] [] (I, J, K, h) (QI (fun x t => x = (rowM R0 na v w n).1 ∧ ∃ I2, t = (I2, J, K, h) ∧ CE I2 (rowM R0 na v w n).2 ∧ FRC I I2)) := by
  have hnh6 := M.nh6
  have hna6 := M.na6
  refine p_aload_n k60_0 rfl ?_
  refine p_getRv k60_1 (s_0 S) f_11_14_11 (r_0_0 S) ?_
  refine p_iload_n k60_4 rfl ?_
  refine p_cV1i k60_5 (s_1 S) c_11_151_3 rfl (Nat.le_of_ble_eq_true rfl) (C_isHat S (n := na) (C.hats.trans M.na) hna6 (v)) (fun x1 m1 hq => ?_)
  obtain ⟨rfl, rfl⟩ := hq
  refine p_if_eqB (tgt := 20) k60_8 (by decide) (fun cq8 => ?_) (fun cq8 => ?_)
  · skip
    refine p_iconst (v := (-1)) k60_20 (by decide) ?_
    refine p_ireturn k60_21 rt_60 ?_
    rw [show rowM R0 na v w n = (-1, R0) from by unfold rowM; rw [if_pos (by first | exact Or.inl cq8 | exact Or.inr cq17)]]
    exact ⟨rfl, _, rfl, C.ce, FRC.refl I⟩
  · skip
    refine p_iload_n k60_11 rfl ?_
    refine p_iconst (v := nI 0) k60_12 (by decide) ?_
    refine p_iconst (v := nI 3) k60_13 (by decide) ?_
    refine p_cS3i k60_14 c_11_101 rfl rfl rfl (Nat.le_of_ble_eq_true rfl) (C_within S (w) (nI (0)) (nI (3))) (fun x1 m1 hq => ?_)
    obtain ⟨rfl, rfl⟩ := hq
    refine p_if_neB (tgt := 22) k60_17 (by decide) (fun cq17 => ?_) (fun cq17 => ?_)
    · skip
      refine p_iload_n k60_22 rfl ?_
      refine p_cS1i k60_23 c_11_85 rfl (Nat.le_of_ble_eq_true rfl) (C_isDigit S (n)) (fun x1 m1 hq => ?_)
      obtain ⟨rfl, rfl⟩ := hq
      refine p_if_neB (tgt := 32) k60_26 (by decide) (fun cq26 => ?_) (fun cq26 => ?_)
      · skip
        obtain ⟨i, hi, rfl⟩ := ixB_of (n := na) (by omega) cq8
        have hci := nI_clamp (n := i) (by omega)
        obtain ⟨p, hp, rfl⟩ := ixB_of (n := 4) (by omega) (by rw [← ixB_in0 (m := 3) (by decide)]; exact cq17)
        have hcp := nI_clamp (n := p) (by omega)
        obtain ⟨qq, kk, ⟨hKq, hq153⟩, ⟨hk7, hkR, hqs⟩, e0, e1, e2, e3, e4, e5⟩ := C.hat i hi
        have hin : ¬ (ixB (nI i) na = false ∨ inB (nI p) (nI 0) (nI 3) = false) := by rw [cq8, cq17]; decide
        rcases (show kk = 0 ∨ kk = 1 ∨ kk = 2 ∨ kk = 3 ∨ kk = 4 ∨ kk = 5 ∨ kk = 6 by omega) with rfl | rfl | rfl | rfl | rfl | rfl | rfl
        · skip
          replace hqs : h[qq]? = some (.inl 2) := hqs
          refine p_aload_n k60_32 rfl ?_
          refine p_getRv k60_33 (s_0 S) f_11_14_11 (r_0_0 S) ?_
          refine p_getRv k60_36 (s_1 S) f_11_111_3 (r_1_5 S) ?_
          refine p_iload_n k60_39 rfl ?_
          refine p_aaldNj k60_40 (s_5 S) xaty_2 (by omega) (by decide) hKq ?_
          refine p_inst0 (ti := 7) k60_41 hqs (by decide) (by decide) ?_
          refine p_if_ne (tgt := 50) k60_44 (by decide) (fun c => False.elim (by exact absurd rfl c)) (fun _ => ?_)
          refine p_bipush (v := (-3)) k60_47 (by decide) ?_
          refine p_ireturn k60_49 rt_60 ?_
          rw [show rowM R0 na (nI i) (nI p) n = (-3, R0) from by unfold rowM; rw [if_neg hin, if_neg (by rw [cq26]; decide), hci, hkR, if_neg (by decide)]]
          exact ⟨rfl, _, rfl, C.ce, FRC.refl I⟩
        · skip
          replace hqs : h[qq]? = some (.inl 6) := hqs
          refine p_aload_n k60_32 rfl ?_
          refine p_getRv k60_33 (s_0 S) f_11_14_11 (r_0_0 S) ?_
          refine p_getRv k60_36 (s_1 S) f_11_111_3 (r_1_5 S) ?_
          refine p_iload_n k60_39 rfl ?_
          refine p_aaldNj k60_40 (s_5 S) xaty_2 (by omega) (by decide) hKq ?_
          refine p_inst0 (ti := 7) k60_41 hqs (by decide) (by decide) ?_
          refine p_if_ne (tgt := 50) k60_44 (by decide) (fun c => False.elim (by exact absurd rfl c)) (fun _ => ?_)
          refine p_bipush (v := (-3)) k60_47 (by decide) ?_
          refine p_ireturn k60_49 rt_60 ?_
          rw [show rowM R0 na (nI i) (nI p) n = (-3, R0) from by unfold rowM; rw [if_neg hin, if_neg (by rw [cq26]; decide), hci, hkR, if_neg (by decide)]]
          exact ⟨rfl, _, rfl, C.ce, FRC.refl I⟩
        · skip
          replace hqs : h[qq]? = some (.inl 10) := hqs
          refine p_aload_n k60_32 rfl ?_
          refine p_getRv k60_33 (s_0 S) f_11_14_11 (r_0_0 S) ?_
          refine p_getRv k60_36 (s_1 S) f_11_111_3 (r_1_5 S) ?_
          refine p_iload_n k60_39 rfl ?_
          refine p_aaldNj k60_40 (s_5 S) xaty_2 (by omega) (by decide) hKq ?_
          refine p_inst0 (ti := 7) k60_41 hqs (by decide) (by decide) ?_
          refine p_if_ne (tgt := 50) k60_44 (by decide) (fun c => False.elim (by exact absurd rfl c)) (fun _ => ?_)
          refine p_bipush (v := (-3)) k60_47 (by decide) ?_
          refine p_ireturn k60_49 rt_60 ?_
          rw [show rowM R0 na (nI i) (nI p) n = (-3, R0) from by unfold rowM; rw [if_neg hin, if_neg (by rw [cq26]; decide), hci, hkR, if_neg (by decide)]]
          exact ⟨rfl, _, rfl, C.ce, FRC.refl I⟩
        · skip
          replace hqs : h[qq]? = some (.inl 0) := hqs
          refine p_aload_n k60_32 rfl ?_
          refine p_getRv k60_33 (s_0 S) f_11_14_11 (r_0_0 S) ?_
          refine p_getRv k60_36 (s_1 S) f_11_111_3 (r_1_5 S) ?_
          refine p_iload_n k60_39 rfl ?_
          refine p_aaldNj k60_40 (s_5 S) xaty_2 (by omega) (by decide) hKq ?_
          refine p_inst0 (ti := 7) k60_41 hqs (by decide) (by decide) ?_
          refine p_if_ne (tgt := 50) k60_44 (by decide) (fun c => False.elim (by exact absurd rfl c)) (fun _ => ?_)
          refine p_bipush (v := (-3)) k60_47 (by decide) ?_
          refine p_ireturn k60_49 rt_60 ?_
          rw [show rowM R0 na (nI i) (nI p) n = (-3, R0) from by unfold rowM; rw [if_neg hin, if_neg (by rw [cq26]; decide), hci, hkR, if_neg (by decide)]]
          exact ⟨rfl, _, rfl, C.ce, FRC.refl I⟩
        · skip
          replace hqs : h[qq]? = some (.inl 4) := hqs
          refine p_aload_n k60_32 rfl ?_
          refine p_getRv k60_33 (s_0 S) f_11_14_11 (r_0_0 S) ?_
          refine p_getRv k60_36 (s_1 S) f_11_111_3 (r_1_5 S) ?_
          refine p_iload_n k60_39 rfl ?_
          refine p_aaldNj k60_40 (s_5 S) xaty_2 (by omega) (by decide) hKq ?_
          refine p_inst0 (ti := 7) k60_41 hqs (by decide) (by decide) ?_
          refine p_if_ne (tgt := 50) k60_44 (by decide) (fun c => False.elim (by exact absurd rfl c)) (fun _ => ?_)
          refine p_bipush (v := (-3)) k60_47 (by decide) ?_
          refine p_ireturn k60_49 rt_60 ?_
          rw [show rowM R0 na (nI i) (nI p) n = (-3, R0) from by unfold rowM; rw [if_neg hin, if_neg (by rw [cq26]; decide), hci, hkR, if_neg (by decide)]]
          exact ⟨rfl, _, rfl, C.ce, FRC.refl I⟩
        · skip
          replace hqs : h[qq]? = some (.inl 1) := hqs
          refine p_aload_n k60_32 rfl ?_
          refine p_getRv k60_33 (s_0 S) f_11_14_11 (r_0_0 S) ?_
          refine p_getRv k60_36 (s_1 S) f_11_111_3 (r_1_5 S) ?_
          refine p_iload_n k60_39 rfl ?_
          refine p_aaldNj k60_40 (s_5 S) xaty_2 (by omega) (by decide) hKq ?_
          refine p_inst0 (ti := 7) k60_41 hqs (by decide) (by decide) ?_
          refine p_if_ne (tgt := 50) k60_44 (by decide) (fun c => False.elim (by exact absurd rfl c)) (fun _ => ?_)
          refine p_bipush (v := (-3)) k60_47 (by decide) ?_
          refine p_ireturn k60_49 rt_60 ?_
          rw [show rowM R0 na (nI i) (nI p) n = (-3, R0) from by unfold rowM; rw [if_neg hin, if_neg (by rw [cq26]; decide), hci, hkR, if_neg (by decide)]]
          exact ⟨rfl, _, rfl, C.ce, FRC.refl I⟩
        · skip
          replace hqs : h[qq]? = some (.inl 7) := hqs
          refine p_aload_n k60_32 rfl ?_
          refine p_getRv k60_33 (s_0 S) f_11_14_11 (r_0_0 S) ?_
          refine p_getRv k60_36 (s_1 S) f_11_111_3 (r_1_5 S) ?_
          refine p_iload_n k60_39 rfl ?_
          refine p_aaldNj k60_40 (s_5 S) xaty_2 (by omega) (by decide) hKq ?_
          refine p_inst1 (ti := 7) k60_41 hqs (by decide) (by decide) ?_
          refine p_if_ne (tgt := 50) k60_44 (by decide) (fun _ => ?_) (fun c => False.elim (by exact absurd c (by decide)))
          refine p_iload_n k60_50 rfl ?_
          refine p_iconst (v := nI 4) k60_51 (by decide) ?_
          refine p_imulN k60_52 ?_
          refine p_iload_n k60_53 rfl ?_
          refine p_iaddN k60_54 ?_
          refine p_istore (ls' := [(0, _), (1, _), (2, _), (3, _), (4, _)]) k60_55 rfl ?_
          refine p_aload_n k60_57 rfl ?_
          refine p_getRv k60_58 (s_0 S) f_11_14_11 (r_0_0 S) ?_
          refine p_getRv k60_61 (s_1 S) f_11_125_3 (r_1_8 S) ?_
          refine p_iload k60_64 rfl ?_
          refine p_ialdN k60_66 (s_8 S) (by omega) (by decide) (show _ = R0 108 (i * 4 + p) from congrFun C.a8 (i * 4 + p)) ?_
          refine p_istore (ls' := [(0, _), (1, _), (2, _), (3, _), (4, _), (5, _)]) k60_67 rfl ?_
          refine p_aload_n k60_69 rfl ?_
          refine p_getRv k60_70 (s_0 S) f_11_14_11 (r_0_0 S) ?_
          refine p_getRv k60_73 (s_1 S) f_11_125_3 (r_1_8 S) ?_
          refine p_iload k60_76 rfl ?_
          refine p_iload_n k60_78 rfl ?_
          refine p_iastN k60_79 (s_8 S) (by omega) (by decide) ?_
          refine p_iload k60_80 rfl ?_
          refine p_ireturn k60_82 rt_60 ?_
          rw [show rowM R0 na (nI i) (nI p) n = (R0 108 (i * 4 + p), s1 R0 108 (i * 4 + p) n) from by unfold rowM; rw [if_neg hin, if_neg (by rw [cq26]; decide), hci, hcp, hkR, if_pos rfl, Nat.mul_comm i 4]]
          exact ⟨rfl, _, rfl, C.ce.ar8 (i * 4 + p) n, (FRC.refl I).ar (by decide) (i * 4 + p) n⟩
      · skip
        refine p_bipush (v := (-2)) k60_29 (by decide) ?_
        refine p_ireturn k60_31 rt_60 ?_
        rw [show rowM R0 na v w n = (-2, R0) from by unfold rowM; rw [if_neg (fun z => z.elim (fun z => by rw [cq8] at z; cases z) (fun z => by rw [cq17] at z; cases z)), if_pos cq26]]
        exact ⟨rfl, _, rfl, C.ce, FRC.refl I⟩
    · skip
      refine p_iconst (v := (-1)) k60_20 (by decide) ?_
      refine p_ireturn k60_21 rt_60 ?_
      rw [show rowM R0 na v w n = (-1, R0) from by unfold rowM; rw [if_pos (by first | exact Or.inl cq8 | exact Or.inr cq17)]]
      exact ⟨rfl, _, rfl, C.ce, FRC.refl I⟩

