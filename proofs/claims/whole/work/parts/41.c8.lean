/-! the class: at, told, how, looked, count, trace, of -/
theorem orA_N {x : Int32} (h : x = -1 ∨ ∃ k, k < 100 ∧ x = nI k) : orA x = orN x := by
  unfold orA orN
  rcases h with rfl | ⟨k, hk, rfl⟩
  · rfl
  · rw [if_neg (nI_neg (by omega) (by decide)), if_neg (opt_neg hk)]
theorem MI.wornO {I : Nat → Nat → Int32} {nh na dd cb ce : Nat} (M : MI I nh na dd cb ce) {k : Nat} (hk : k < nh) : I 101 k = -1 ∨ ∃ a, a < 100 ∧ I 101 k = nI a := by
  have h6 := M.na6
  rcases M.worn k hk with e | ⟨a, h1, h2⟩
  · exact Or.inl e
  · exact Or.inr ⟨a, by omega, h2⟩
theorem AR.ownO {I : Nat → Nat → Int32} {nh na dd : Nat} (Q : AR I nh na dd) (h6 : na ≤ 6) {k : Nat} (hk : k < nh) : I 100 k = -1 ∨ ∃ a, a < 100 ∧ I 100 k = nI a := by
  rcases Q.own k hk with e | ⟨a, h1, h2⟩
  · exact Or.inl e
  · exact Or.inr ⟨a, by omega, h2⟩
set_option maxRecDepth 100000 in
set_option maxHeartbeats 4000000 in
theorem C_at {d : Nat} {I : Nat → Nat → Int32} {J : Nat → Nat → Int64} {K : Nat → Nat → Option Nat} {h : List xSh} (S : St K h) {R0 : Nat → Nat → Int32} {nh na dd cb ce tw : Nat} (C : CR I K h R0 na tw) (M : MI R0 nh na dd cb ce) (Q : AR R0 nh na dd) (v w : Int32) : EvP (d + 1) 59 0 [(0, .ref (0)), (1, .int (v)), (2, .int (w))] [] (I, J, K, h) (QI (fun x t => x = atM R0 nh v w ∧ t = (I, J, K, h))) := by
  have hnh6 := M.nh6
  have hna6 := M.na6
  refine p_aload_n k59_0 rfl ?_
  refine p_getRv k59_1 (s_0 S) f_11_14_11 (r_0_0 S) ?_
  refine p_iload_n k59_4 rfl ?_
  refine p_cV1i k59_5 (s_1 S) c_11_173_3 rfl (Nat.le_of_ble_eq_true rfl) (C_isHead S (n := nh) (C.heads.trans M.nh) hnh6 (v)) (fun x1 m1 hq => ?_)
  obtain ⟨rfl, rfl⟩ := hq
  refine p_if_neB (tgt := 13) k59_8 (by decide) (fun cq8 => ?_) (fun cq8 => ?_)
  · skip
    obtain ⟨a, ha, rfl⟩ := ixB_of (n := nh) (by omega) cq8
    have hca := nI_clamp (n := a) (by omega)
    refine p_iload_n k59_13 rfl ?_
    by_cases hw3 : ixB w 3 = true
    · skip
      obtain ⟨k, hk, rfl⟩ := ixB_of (by decide) hw3
      rcases (show k = 0 ∨ k = 1 ∨ k = 2 by omega) with rfl | rfl | rfl
      · skip
        refine p_tswI (tgt := 40) k59_14 (by decide) (by decide) (by decide) rfl (by decide) ?_
        refine p_aload_n k59_40 rfl ?_
        refine p_getRv k59_41 (s_0 S) f_11_14_11 (r_0_0 S) ?_
        refine p_getRv k59_44 (s_1 S) f_11_92_3 (r_1_1 S) ?_
        refine p_iload_n k59_47 rfl ?_
        refine p_ialdN k59_48 (s_2 S) (by omega) (by decide) (show _ = R0 99 a from congrFun C.a2 a) ?_
        refine p_ireturn k59_49 rt_59 ?_
        exact ⟨by unfold atM; rw [if_pos cq8, hca]; rfl, rfl⟩
      · skip
        refine p_tswI (tgt := 50) k59_14 (by decide) (by decide) (by decide) rfl (by decide) ?_
        refine p_aload_n k59_50 rfl ?_
        refine p_getRv k59_51 (s_0 S) f_11_14_11 (r_0_0 S) ?_
        refine p_getRv k59_54 (s_1 S) f_11_98_3 (r_1_3 S) ?_
        refine p_iload_n k59_57 rfl ?_
        refine p_ialdN k59_58 (s_4 S) (by omega) (by decide) (show _ = R0 101 a from congrFun C.a4 a) ?_
        refine p_cS1i k59_59 c_11_170 rfl (Nat.le_of_ble_eq_true rfl) (C_orNotAny S (R0 101 a)) (fun x1 m1 hq => ?_)
        obtain ⟨rfl, rfl⟩ := hq
        refine p_ireturn k59_62 rt_59 ?_
        exact ⟨by unfold atM; rw [if_pos cq8, hca]; exact orA_N (M.wornO ha), rfl⟩
      · skip
        refine p_tswI (tgt := 63) k59_14 (by decide) (by decide) (by decide) rfl (by decide) ?_
        refine p_aload_n k59_63 rfl ?_
        refine p_getRv k59_64 (s_0 S) f_11_14_11 (r_0_0 S) ?_
        refine p_getRv k59_67 (s_1 S) f_11_95_3 (r_1_2 S) ?_
        refine p_iload_n k59_70 rfl ?_
        refine p_ialdN k59_71 (s_3 S) (by omega) (by decide) (show _ = R0 100 a from congrFun C.a3 a) ?_
        refine p_cS1i k59_72 c_11_170 rfl (Nat.le_of_ble_eq_true rfl) (C_orNotAny S (R0 100 a)) (fun x1 m1 hq => ?_)
        obtain ⟨rfl, rfl⟩ := hq
        refine p_ireturn k59_75 rt_59 ?_
        exact ⟨by unfold atM; rw [if_pos cq8, hca]; exact orA_N (Q.ownO M.na6 ha), rfl⟩
    · skip
      refine p_tableOut (tgt := 76) k59_14 (by have z := ixB_out hw3; omega) (by decide) ?_
      refine p_iconst (v := (-1)) k59_76 (by decide) ?_
      refine p_ireturn k59_77 rt_59 ?_
      exact ⟨by unfold atM; rw [if_pos cq8, if_neg (fun e => hw3 (by rw [e]; decide)), if_neg (fun e => hw3 (by rw [e]; decide)), if_neg (fun e => hw3 (by rw [e]; decide))], rfl⟩
  · skip
    refine p_iconst (v := (-1)) k59_11 (by decide) ?_
    refine p_ireturn k59_12 rt_59 ?_
    exact ⟨by unfold atM; rw [if_neg (by rw [cq8]; decide)], rfl⟩

set_option maxRecDepth 100000 in
set_option maxHeartbeats 4000000 in
theorem C_told {d : Nat} {I : Nat → Nat → Int32} {J : Nat → Nat → Int64} {K : Nat → Nat → Option Nat} {h : List xSh} (S : St K h) {R0 : Nat → Nat → Int32} {nh na dd cb ce tw : Nat} (C : CR I K h R0 na tw) (M : MI R0 nh na dd cb ce) (Q : AR R0 nh na dd) (w : Int32) : EvP (d + 2) 66 0 [(0, .ref (0)), (1, .int (w))] [] (I, J, K, h) (QI (fun x t => x = toldM R0 cb ce w ∧ t = (I, J, K, h))) := by
  have hnh6 := M.nh6
  have hna6 := M.na6
  refine p_iload_n k66_0 rfl ?_
  refine p_if_ne (tgt := 12) k66_1 (by decide) (fun cq1 => ?_) (fun cq1 => ?_)
  · skip
    refine p_iload_n k66_12 rfl ?_
    refine p_iconst (v := nI 1) k66_13 (by decide) ?_
    refine p_icmp_ne (tgt := 25) k66_14 (by decide) (fun cq14 => ?_) (fun cq14 => ?_)
    · skip
      refine p_iload_n k66_25 rfl ?_
      refine p_bipush (v := nI 10) k66_26 (by decide) ?_
      refine p_bipush (v := nI 14) k66_28 (by decide) ?_
      refine p_cS3i k66_30 c_11_101 rfl rfl rfl (Nat.le_of_ble_eq_true rfl) (C_within S (w) (nI (10)) (nI (14))) (fun x1 m1 hq => ?_)
      obtain ⟨rfl, rfl⟩ := hq
      refine p_if_eqB (tgt := 49) k66_33 (by decide) (fun cq33 => ?_) (fun cq33 => ?_)
      · skip
        refine p_iload_n k66_49 rfl ?_
        refine p_bipush (v := nI 20) k66_50 (by decide) ?_
        refine p_bipush (v := nI 24) k66_52 (by decide) ?_
        refine p_cS3i k66_54 c_11_101 rfl rfl rfl (Nat.le_of_ble_eq_true rfl) (C_within S (w) (nI (20)) (nI (24))) (fun x1 m1 hq => ?_)
        obtain ⟨rfl, rfl⟩ := hq
        refine p_if_eqB (tgt := 72) k66_57 (by decide) (fun cq57 => ?_) (fun cq57 => ?_)
        · skip
          refine p_iconst (v := (-1)) k66_72 (by decide) ?_
          refine p_ireturn k66_73 rt_66 ?_
          exact ⟨by unfold toldM; rw [if_neg (by rw [cq33]; decide), if_neg (by rw [cq57]; decide), if_neg cq1, if_neg cq14], rfl⟩
        · skip
          refine p_aload_n k66_60 rfl ?_
          refine p_cV0r k66_61 (s_0 S) c_11_193_11 (Nat.le_of_ble_eq_true rfl) (C_holding S C M.th) (fun x1 m1 hq => ?_)
          obtain ⟨hCU, rfl⟩ := hq
          generalize x1 = b at hCU ⊢
          have hTS := hCU.1.1
          refine p_iload_n k66_64 rfl ?_
          refine p_bipush (v := nI 20) k66_65 (by decide) ?_
          refine p_isub k66_67 ?_
          refine p_cV1i k66_68 hTS.1.1 c_11_203_8 rfl (Nat.le_of_ble_eq_true rfl) (C_work S hCU _) (fun x1 m1 hq => ?_)
          obtain ⟨rfl, rfl⟩ := hq
          refine p_ireturn k66_71 rt_66 ?_
          exact ⟨by unfold toldM; rw [if_neg (by rw [cq33]; decide), if_pos cq57], rfl⟩
      · skip
        obtain ⟨k, hk9, rfl⟩ := inB_of (by decide) (by omega) cq33
        have hck := nI_clamp (n := 10 + k) (by omega)
        refine p_aload_n k66_36 rfl ?_
        refine p_getRv k66_37 (s_0 S) f_11_14_11 (r_0_0 S) ?_
        refine p_getRv k66_40 (s_1 S) f_11_200_3 (r_1_10 S) ?_
        refine p_iload_n k66_43 rfl ?_
        refine p_bipush (v := nI 10) k66_44 (by decide) ?_
        refine p_isubN (by omega) k66_46 ?_
        refine p_ialdN k66_47 (s_9 S) (by omega) (by decide) (show _ = R0 109 (10 + k - 10) from congrFun C.a9 _) ?_
        refine p_ireturn k66_48 rt_66 ?_
        exact ⟨by unfold toldM; rw [if_pos cq33, hck], rfl⟩
    · skip
      refine p_aload_n k66_17 rfl ?_
      refine p_cV0r k66_18 (s_0 S) c_11_193_11 (Nat.le_of_ble_eq_true rfl) (C_holding S C M.th) (fun x1 m1 hq => ?_)
      obtain ⟨hCU, rfl⟩ := hq
      generalize x1 = b at hCU ⊢
      have hTS := hCU.1.1
      refine p_cV0i k66_21 hTS.1.1 c_11_197_8 (Nat.le_of_ble_eq_true rfl) (C_moth S hCU) (fun x1 m1 hq => ?_)
      obtain ⟨rfl, rfl⟩ := hq
      refine p_ireturn k66_24 rt_66 ?_
      exact ⟨by subst cq14; unfold toldM; rw [if_neg (by decide), if_neg (by decide), if_neg (by decide), if_pos rfl], rfl⟩
  · skip
    refine p_aload_n k66_4 rfl ?_
    refine p_getRv k66_5 (s_0 S) f_11_14_11 (r_0_0 S) ?_
    refine p_getIv k66_8 (s_1 S) f_11_190_3 C.day ?_
    refine p_ireturn k66_11 rt_66 ?_
    exact ⟨by subst cq1; unfold toldM; rw [if_neg (by decide), if_neg (by decide), if_pos rfl], rfl⟩

theorem apart_ne {x y : Nat} (hx : x ≤ 9) (hy : y ≤ 9) : (x = y) ↔ (if nI x < nI y then nI y - nI x else nI x - nI y) ≤ 0 := by
  have H : ∀ x y : Fin 10, (x.val = y.val) ↔ (if nI x.val < nI y.val then nI y.val - nI x.val else nI x.val - nI y.val) ≤ 0 := by decide +kernel
  exact H ⟨x, by omega⟩ ⟨y, by omega⟩
set_option maxRecDepth 100000 in
set_option maxHeartbeats 4000000 in
theorem C_how {d : Nat} {I : Nat → Nat → Int32} {J : Nat → Nat → Int64} {K : Nat → Nat → Option Nat} {h : List xSh} (S : St K h) {R0 : Nat → Nat → Int32} {nh na dd cb ce tw : Nat} (C : CR I K h R0 na tw) (M : MI R0 nh na dd cb ce) (Q : AR R0 nh na dd) (v : Int32) : EvP (d + 1) 82 0 [(0, .ref (0)), (1, .int (v))] [] (I, J, K, h) (QI (fun x t => x = howM R0 nh v ∧ t = (I, J, K, h))) := by
  have hnh6 := M.nh6
  have hna6 := M.na6
  refine p_iload_n k82_0 rfl ?_
  refine p_iconst (v := nI 0) k82_1 (by decide) ?_
  refine p_iconst (v := nI 1) k82_2 (by decide) ?_
  refine p_cS3i k82_3 c_11_101 rfl rfl rfl (Nat.le_of_ble_eq_true rfl) (C_within S (v) (nI (0)) (nI (1))) (fun x1 m1 hq => ?_)
  obtain ⟨rfl, rfl⟩ := hq
  refine p_if_neB (tgt := 11) k82_6 (by decide) (fun cq6 => ?_) (fun cq6 => ?_)
  · skip
    refine p_iconst (v := nI 0) k82_11 (by decide) ?_
    refine p_istore_n (ls' := [(0, _), (1, _), (2, _)]) k82_12 rfl ?_
    refine p_iconst (v := nI 0) k82_13 (by decide) ?_
    refine p_istore_n (ls' := [(0, _), (1, _), (2, _), (3, _)]) k82_14 rfl ?_
    refine p_iconst (v := nI 0) k82_15 (by decide) ?_
    refine p_istore (ls' := [(0, _), (1, _), (2, _), (3, _), (4, _)]) k82_16 rfl ?_
    have L : ∀ (j : Nat) (k n s : Nat), k + j = nh → fld (fHoN R0) j k n = fld (fHoN R0) nh 0 0 → fld (fHoB (R0 101)) j k s = fld (fHoB (R0 101)) nh 0 0 → EvP (d + 1) 82 18 [(0, .ref (0)), (1, .int (v)), (2, .int (nI (n))), (3, .int (nI (s))), (4, .int (nI (k)))] [] (I, J, K, h) (QI (fun x t => x = howM R0 nh v ∧ t = (I, J, K, h))) := by
      intro j
      induction j with
      | zero =>
        intro k n s hk
        intro hn hs
        refine p_iload k82_18 rfl ?_
        refine p_aload_n k82_20 rfl ?_
        refine p_getRv k82_21 (s_0 S) f_11_14_11 (r_0_0 S) ?_
        refine p_getIv k82_24 (s_1 S) f_11_89_3 (C.heads.trans M.nh) ?_
        refine p_icmp_geN (tgt := 99) k82_27 (by decide) (by omega) (by omega) (fun _ => ?_) (fun c => False.elim (by omega))
        refine p_iload_n k82_99 rfl ?_
        refine p_if_ne (tgt := 107) k82_100 (by decide) (fun cq100 => ?_) (fun cq100 => ?_)
        · skip
          refine p_iload_n k82_107 rfl ?_
          refine p_ireturn k82_108 rt_82 ?_
          exact ⟨by unfold howM; rw [if_pos cq6]; first | (rw [if_pos cq100, ← hn]; rfl) | (rw [if_neg cq100, ← hs]; rfl), rfl⟩
        · skip
          refine p_iload_n k82_103 rfl ?_
          refine p_goto (tgt := 108) k82_104 (by decide) ?_
          refine p_ireturn k82_108 rt_82 ?_
          exact ⟨by unfold howM; rw [if_pos cq6]; first | (rw [if_pos cq100, ← hn]; rfl) | (rw [if_neg cq100, ← hs]; rfl), rfl⟩
      | succ j ih =>
        intro k n s hk
        intro hn hs
        rcases M.worn k (by omega) with hkw | ⟨a, ha, hka⟩
        · skip
          have hw0 : R0 101 k < 0 := by rw [hkw]; decide
          have hx0 : ixB (-1) na = false := by unfold ixB; exact decide_eq_false (by show ¬ ((0 : Int) ≤ -1 ∧ _); omega)
          refine p_iload k82_18 rfl ?_
          refine p_aload_n k82_20 rfl ?_
          refine p_getRv k82_21 (s_0 S) f_11_14_11 (r_0_0 S) ?_
          refine p_getIv k82_24 (s_1 S) f_11_89_3 (C.heads.trans M.nh) ?_
          refine p_icmp_geN (tgt := 99) k82_27 (by decide) (by omega) (by omega) (fun c => False.elim (by omega)) (fun _ => ?_)
          refine p_aload_n k82_30 rfl ?_
          refine p_getRv k82_31 (s_0 S) f_11_14_11 (r_0_0 S) ?_
          refine p_getRv k82_34 (s_1 S) f_11_98_3 (r_1_3 S) ?_
          refine p_iload k82_37 rfl ?_
          refine p_ialdN k82_39 (s_4 S) (by omega) (by decide) (show _ = -1 from (congrFun C.a4 k).trans hkw) ?_
          refine p_istore (ls' := [(0, _), (1, _), (2, _), (3, _), (4, _), (5, _)]) k82_40 rfl ?_
          refine p_aload_n k82_42 rfl ?_
          refine p_getRv k82_43 (s_0 S) f_11_14_11 (r_0_0 S) ?_
          refine p_iload k82_46 rfl ?_
          refine p_cV1i k82_48 (s_1 S) c_11_151_3 rfl (Nat.le_of_ble_eq_true rfl) (C_isHat S (n := na) (C.hats.trans M.na) hna6 ((-1))) (fun x1 m1 hq => ?_)
          obtain ⟨rfl, rfl⟩ := hq
          refine p_if_neB (tgt := 64) k82_51 (by decide) (fun c => False.elim (by rw [hx0] at c; cases c)) (fun _ => ?_)
          refine p_iload_n k82_54 rfl ?_
          refine p_iconst (v := nI 1) k82_55 (by decide) ?_
          refine p_iload k82_56 rfl ?_
          refine p_ishl1 (by omega) k82_58 ?_
          refine p_iorN k82_59 ?_
          refine p_istore_n (ls' := [(0, _), (1, _), (2, _), (3, _), (4, _), (5, _)]) k82_60 rfl ?_
          refine p_goto (tgt := 93) k82_61 (by decide) ?_
          refine p_iincN (ls1 := [(0, _), (1, _), (2, _), (3, _), (4, _), (5, _)]) k82_93 rfl rfl ?_
          refine p_goto (tgt := 18) k82_96 (by decide) ?_
          refine p_drop [0, 1, 2, 3, 4] rfl ?_
          exact ih (k + 1) _ _ (by omega) (by rw [← hn]; exact congrArg (fld (fHoN R0) j (k + 1)) (by unfold fHoN; rw [if_pos hw0])) (by rw [← hs]; exact congrArg (fld (fHoB (R0 101)) j (k + 1)) (by unfold fHoB; rw [if_pos hw0]))
        · skip
          have hcl : (R0 101 k).toNatClampNeg = a := by rw [hka, nI_clamp (by omega)]
          have hw0 : ¬ R0 101 k < 0 := by rw [hka]; exact opt_neg (by omega)
          have hx1 : ixB (nI a) na = true := by rw [ixB_nI (by omega)]; exact decide_eq_true ha
          obtain ⟨qq, kk, ⟨hKq, hq153⟩, ⟨hk7, hkR, hqs⟩, e0, e1, e2, e3, e4, e5⟩ := C.hat a ha
          obtain ⟨xx, hx9, hxx⟩ := Q.hsz a ha
          obtain ⟨yy, hy9, hyy⟩ := Q.fsz k (by omega)
          have hap : (xx = yy) ↔ apartI R0 a k ≤ 0 := by unfold apartI; rw [hxx, hyy]; exact apart_ne hx9 hy9
          refine p_iload k82_18 rfl ?_
          refine p_aload_n k82_20 rfl ?_
          refine p_getRv k82_21 (s_0 S) f_11_14_11 (r_0_0 S) ?_
          refine p_getIv k82_24 (s_1 S) f_11_89_3 (C.heads.trans M.nh) ?_
          refine p_icmp_geN (tgt := 99) k82_27 (by decide) (by omega) (by omega) (fun c => False.elim (by omega)) (fun _ => ?_)
          refine p_aload_n k82_30 rfl ?_
          refine p_getRv k82_31 (s_0 S) f_11_14_11 (r_0_0 S) ?_
          refine p_getRv k82_34 (s_1 S) f_11_98_3 (r_1_3 S) ?_
          refine p_iload k82_37 rfl ?_
          refine p_ialdN k82_39 (s_4 S) (by omega) (by decide) (show _ = nI a from (congrFun C.a4 k).trans hka) ?_
          refine p_istore (ls' := [(0, _), (1, _), (2, _), (3, _), (4, _), (5, _)]) k82_40 rfl ?_
          refine p_aload_n k82_42 rfl ?_
          refine p_getRv k82_43 (s_0 S) f_11_14_11 (r_0_0 S) ?_
          refine p_iload k82_46 rfl ?_
          refine p_cV1i k82_48 (s_1 S) c_11_151_3 rfl (Nat.le_of_ble_eq_true rfl) (C_isHat S (n := na) (C.hats.trans M.na) hna6 (nI (a))) (fun x1 m1 hq => ?_)
          obtain ⟨rfl, rfl⟩ := hq
          refine p_if_neB (tgt := 64) k82_51 (by decide) (fun _ => ?_) (fun c => False.elim (by rw [hx1] at c; cases c))
          refine p_aload_n k82_64 rfl ?_
          refine p_getRv k82_65 (s_0 S) f_11_14_11 (r_0_0 S) ?_
          refine p_getRv k82_68 (s_1 S) f_11_111_3 (r_1_5 S) ?_
          refine p_iload k82_71 rfl ?_
          refine p_aaldNj k82_73 (s_5 S) xaty_2 (by omega) (by decide) hKq ?_
          rcases (show kk = 0 ∨ kk = 1 ∨ kk = 2 ∨ kk = 3 ∨ kk = 4 ∨ kk = 5 ∨ kk = 6 by omega) with rfl | rfl | rfl | rfl | rfl | rfl | rfl
          · skip
            replace hqs : h[qq]? = some (.inl 2) := hqs
            refine p_getIv k82_74 hqs f_11_160_2 (show _ = nI xx from e3.trans hxx) ?_
            refine p_aload_n k82_77 rfl ?_
            refine p_getRv k82_78 (s_0 S) f_11_14_11 (r_0_0 S) ?_
            refine p_getRv k82_81 (s_1 S) f_11_92_3 (r_1_1 S) ?_
            refine p_iload k82_84 rfl ?_
            refine p_ialdN k82_86 (s_2 S) (by omega) (by decide) (show _ = nI yy from (congrFun C.a2 k).trans hyy) ?_
            refine p_icmp_eqN (tgt := 93) k82_87 (by decide) (by omega) (by omega) (fun cq87 => ?_) (fun cq87 => ?_)
            · skip
              refine p_iincN (ls1 := [(0, _), (1, _), (2, _), (3, _), (4, _), (5, _)]) k82_93 rfl rfl ?_
              refine p_goto (tgt := 18) k82_96 (by decide) ?_
              refine p_drop [0, 1, 2, 3, 4] rfl ?_
              exact ih (k + 1) _ _ (by omega) (by rw [← hn]; exact congrArg (fld (fHoN R0) j (k + 1)) (by unfold fHoN; rw [if_neg hw0, hcl]; first | rw [if_pos (hap.mp cq87), Nat.add_zero] | (rw [if_neg (fun z => cq87 (hap.mpr z))]))) (by rw [← hs]; exact congrArg (fld (fHoB (R0 101)) j (k + 1)) (by unfold fHoB; rw [if_neg hw0]))
            · skip
              refine p_iincN (ls1 := [(0, _), (1, _), (2, _), (3, _), (4, _), (5, _)]) k82_90 rfl rfl ?_
              refine p_iincN (ls1 := [(0, _), (1, _), (2, _), (3, _), (4, _), (5, _)]) k82_93 rfl rfl ?_
              refine p_goto (tgt := 18) k82_96 (by decide) ?_
              refine p_drop [0, 1, 2, 3, 4] rfl ?_
              exact ih (k + 1) _ _ (by omega) (by rw [← hn]; exact congrArg (fld (fHoN R0) j (k + 1)) (by unfold fHoN; rw [if_neg hw0, hcl]; first | rw [if_pos (hap.mp cq87), Nat.add_zero] | (rw [if_neg (fun z => cq87 (hap.mpr z))]))) (by rw [← hs]; exact congrArg (fld (fHoB (R0 101)) j (k + 1)) (by unfold fHoB; rw [if_neg hw0]))
          · skip
            replace hqs : h[qq]? = some (.inl 6) := hqs
            refine p_getIv k82_74 hqs f_11_160_6 (show _ = nI xx from e3.trans hxx) ?_
            refine p_aload_n k82_77 rfl ?_
            refine p_getRv k82_78 (s_0 S) f_11_14_11 (r_0_0 S) ?_
            refine p_getRv k82_81 (s_1 S) f_11_92_3 (r_1_1 S) ?_
            refine p_iload k82_84 rfl ?_
            refine p_ialdN k82_86 (s_2 S) (by omega) (by decide) (show _ = nI yy from (congrFun C.a2 k).trans hyy) ?_
            refine p_icmp_eqN (tgt := 93) k82_87 (by decide) (by omega) (by omega) (fun cq87 => ?_) (fun cq87 => ?_)
            · skip
              refine p_iincN (ls1 := [(0, _), (1, _), (2, _), (3, _), (4, _), (5, _)]) k82_93 rfl rfl ?_
              refine p_goto (tgt := 18) k82_96 (by decide) ?_
              refine p_drop [0, 1, 2, 3, 4] rfl ?_
              exact ih (k + 1) _ _ (by omega) (by rw [← hn]; exact congrArg (fld (fHoN R0) j (k + 1)) (by unfold fHoN; rw [if_neg hw0, hcl]; first | rw [if_pos (hap.mp cq87), Nat.add_zero] | (rw [if_neg (fun z => cq87 (hap.mpr z))]))) (by rw [← hs]; exact congrArg (fld (fHoB (R0 101)) j (k + 1)) (by unfold fHoB; rw [if_neg hw0]))
            · skip
              refine p_iincN (ls1 := [(0, _), (1, _), (2, _), (3, _), (4, _), (5, _)]) k82_90 rfl rfl ?_
              refine p_iincN (ls1 := [(0, _), (1, _), (2, _), (3, _), (4, _), (5, _)]) k82_93 rfl rfl ?_
              refine p_goto (tgt := 18) k82_96 (by decide) ?_
              refine p_drop [0, 1, 2, 3, 4] rfl ?_
              exact ih (k + 1) _ _ (by omega) (by rw [← hn]; exact congrArg (fld (fHoN R0) j (k + 1)) (by unfold fHoN; rw [if_neg hw0, hcl]; first | rw [if_pos (hap.mp cq87), Nat.add_zero] | (rw [if_neg (fun z => cq87 (hap.mpr z))]))) (by rw [← hs]; exact congrArg (fld (fHoB (R0 101)) j (k + 1)) (by unfold fHoB; rw [if_neg hw0]))
          · skip
            replace hqs : h[qq]? = some (.inl 10) := hqs
            refine p_getIv k82_74 hqs f_11_160_10 (show _ = nI xx from e3.trans hxx) ?_
            refine p_aload_n k82_77 rfl ?_
            refine p_getRv k82_78 (s_0 S) f_11_14_11 (r_0_0 S) ?_
            refine p_getRv k82_81 (s_1 S) f_11_92_3 (r_1_1 S) ?_
            refine p_iload k82_84 rfl ?_
            refine p_ialdN k82_86 (s_2 S) (by omega) (by decide) (show _ = nI yy from (congrFun C.a2 k).trans hyy) ?_
            refine p_icmp_eqN (tgt := 93) k82_87 (by decide) (by omega) (by omega) (fun cq87 => ?_) (fun cq87 => ?_)
            · skip
              refine p_iincN (ls1 := [(0, _), (1, _), (2, _), (3, _), (4, _), (5, _)]) k82_93 rfl rfl ?_
              refine p_goto (tgt := 18) k82_96 (by decide) ?_
              refine p_drop [0, 1, 2, 3, 4] rfl ?_
              exact ih (k + 1) _ _ (by omega) (by rw [← hn]; exact congrArg (fld (fHoN R0) j (k + 1)) (by unfold fHoN; rw [if_neg hw0, hcl]; first | rw [if_pos (hap.mp cq87), Nat.add_zero] | (rw [if_neg (fun z => cq87 (hap.mpr z))]))) (by rw [← hs]; exact congrArg (fld (fHoB (R0 101)) j (k + 1)) (by unfold fHoB; rw [if_neg hw0]))
            · skip
              refine p_iincN (ls1 := [(0, _), (1, _), (2, _), (3, _), (4, _), (5, _)]) k82_90 rfl rfl ?_
              refine p_iincN (ls1 := [(0, _), (1, _), (2, _), (3, _), (4, _), (5, _)]) k82_93 rfl rfl ?_
              refine p_goto (tgt := 18) k82_96 (by decide) ?_
              refine p_drop [0, 1, 2, 3, 4] rfl ?_
              exact ih (k + 1) _ _ (by omega) (by rw [← hn]; exact congrArg (fld (fHoN R0) j (k + 1)) (by unfold fHoN; rw [if_neg hw0, hcl]; first | rw [if_pos (hap.mp cq87), Nat.add_zero] | (rw [if_neg (fun z => cq87 (hap.mpr z))]))) (by rw [← hs]; exact congrArg (fld (fHoB (R0 101)) j (k + 1)) (by unfold fHoB; rw [if_neg hw0]))
          · skip
            replace hqs : h[qq]? = some (.inl 0) := hqs
            refine p_getIv k82_74 hqs f_11_160_0 (show _ = nI xx from e3.trans hxx) ?_
            refine p_aload_n k82_77 rfl ?_
            refine p_getRv k82_78 (s_0 S) f_11_14_11 (r_0_0 S) ?_
            refine p_getRv k82_81 (s_1 S) f_11_92_3 (r_1_1 S) ?_
            refine p_iload k82_84 rfl ?_
            refine p_ialdN k82_86 (s_2 S) (by omega) (by decide) (show _ = nI yy from (congrFun C.a2 k).trans hyy) ?_
            refine p_icmp_eqN (tgt := 93) k82_87 (by decide) (by omega) (by omega) (fun cq87 => ?_) (fun cq87 => ?_)
            · skip
              refine p_iincN (ls1 := [(0, _), (1, _), (2, _), (3, _), (4, _), (5, _)]) k82_93 rfl rfl ?_
              refine p_goto (tgt := 18) k82_96 (by decide) ?_
              refine p_drop [0, 1, 2, 3, 4] rfl ?_
              exact ih (k + 1) _ _ (by omega) (by rw [← hn]; exact congrArg (fld (fHoN R0) j (k + 1)) (by unfold fHoN; rw [if_neg hw0, hcl]; first | rw [if_pos (hap.mp cq87), Nat.add_zero] | (rw [if_neg (fun z => cq87 (hap.mpr z))]))) (by rw [← hs]; exact congrArg (fld (fHoB (R0 101)) j (k + 1)) (by unfold fHoB; rw [if_neg hw0]))
            · skip
              refine p_iincN (ls1 := [(0, _), (1, _), (2, _), (3, _), (4, _), (5, _)]) k82_90 rfl rfl ?_
              refine p_iincN (ls1 := [(0, _), (1, _), (2, _), (3, _), (4, _), (5, _)]) k82_93 rfl rfl ?_
              refine p_goto (tgt := 18) k82_96 (by decide) ?_
              refine p_drop [0, 1, 2, 3, 4] rfl ?_
              exact ih (k + 1) _ _ (by omega) (by rw [← hn]; exact congrArg (fld (fHoN R0) j (k + 1)) (by unfold fHoN; rw [if_neg hw0, hcl]; first | rw [if_pos (hap.mp cq87), Nat.add_zero] | (rw [if_neg (fun z => cq87 (hap.mpr z))]))) (by rw [← hs]; exact congrArg (fld (fHoB (R0 101)) j (k + 1)) (by unfold fHoB; rw [if_neg hw0]))
          · skip
            replace hqs : h[qq]? = some (.inl 4) := hqs
            refine p_getIv k82_74 hqs f_11_160_4 (show _ = nI xx from e3.trans hxx) ?_
            refine p_aload_n k82_77 rfl ?_
            refine p_getRv k82_78 (s_0 S) f_11_14_11 (r_0_0 S) ?_
            refine p_getRv k82_81 (s_1 S) f_11_92_3 (r_1_1 S) ?_
            refine p_iload k82_84 rfl ?_
            refine p_ialdN k82_86 (s_2 S) (by omega) (by decide) (show _ = nI yy from (congrFun C.a2 k).trans hyy) ?_
            refine p_icmp_eqN (tgt := 93) k82_87 (by decide) (by omega) (by omega) (fun cq87 => ?_) (fun cq87 => ?_)
            · skip
              refine p_iincN (ls1 := [(0, _), (1, _), (2, _), (3, _), (4, _), (5, _)]) k82_93 rfl rfl ?_
              refine p_goto (tgt := 18) k82_96 (by decide) ?_
              refine p_drop [0, 1, 2, 3, 4] rfl ?_
              exact ih (k + 1) _ _ (by omega) (by rw [← hn]; exact congrArg (fld (fHoN R0) j (k + 1)) (by unfold fHoN; rw [if_neg hw0, hcl]; first | rw [if_pos (hap.mp cq87), Nat.add_zero] | (rw [if_neg (fun z => cq87 (hap.mpr z))]))) (by rw [← hs]; exact congrArg (fld (fHoB (R0 101)) j (k + 1)) (by unfold fHoB; rw [if_neg hw0]))
            · skip
              refine p_iincN (ls1 := [(0, _), (1, _), (2, _), (3, _), (4, _), (5, _)]) k82_90 rfl rfl ?_
              refine p_iincN (ls1 := [(0, _), (1, _), (2, _), (3, _), (4, _), (5, _)]) k82_93 rfl rfl ?_
              refine p_goto (tgt := 18) k82_96 (by decide) ?_
              refine p_drop [0, 1, 2, 3, 4] rfl ?_
              exact ih (k + 1) _ _ (by omega) (by rw [← hn]; exact congrArg (fld (fHoN R0) j (k + 1)) (by unfold fHoN; rw [if_neg hw0, hcl]; first | rw [if_pos (hap.mp cq87), Nat.add_zero] | (rw [if_neg (fun z => cq87 (hap.mpr z))]))) (by rw [← hs]; exact congrArg (fld (fHoB (R0 101)) j (k + 1)) (by unfold fHoB; rw [if_neg hw0]))
          · skip
            replace hqs : h[qq]? = some (.inl 1) := hqs
            refine p_getIv k82_74 hqs f_11_160_1 (show _ = nI xx from e3.trans hxx) ?_
            refine p_aload_n k82_77 rfl ?_
            refine p_getRv k82_78 (s_0 S) f_11_14_11 (r_0_0 S) ?_
            refine p_getRv k82_81 (s_1 S) f_11_92_3 (r_1_1 S) ?_
            refine p_iload k82_84 rfl ?_
            refine p_ialdN k82_86 (s_2 S) (by omega) (by decide) (show _ = nI yy from (congrFun C.a2 k).trans hyy) ?_
            refine p_icmp_eqN (tgt := 93) k82_87 (by decide) (by omega) (by omega) (fun cq87 => ?_) (fun cq87 => ?_)
            · skip
              refine p_iincN (ls1 := [(0, _), (1, _), (2, _), (3, _), (4, _), (5, _)]) k82_93 rfl rfl ?_
              refine p_goto (tgt := 18) k82_96 (by decide) ?_
              refine p_drop [0, 1, 2, 3, 4] rfl ?_
              exact ih (k + 1) _ _ (by omega) (by rw [← hn]; exact congrArg (fld (fHoN R0) j (k + 1)) (by unfold fHoN; rw [if_neg hw0, hcl]; first | rw [if_pos (hap.mp cq87), Nat.add_zero] | (rw [if_neg (fun z => cq87 (hap.mpr z))]))) (by rw [← hs]; exact congrArg (fld (fHoB (R0 101)) j (k + 1)) (by unfold fHoB; rw [if_neg hw0]))
            · skip
              refine p_iincN (ls1 := [(0, _), (1, _), (2, _), (3, _), (4, _), (5, _)]) k82_90 rfl rfl ?_
              refine p_iincN (ls1 := [(0, _), (1, _), (2, _), (3, _), (4, _), (5, _)]) k82_93 rfl rfl ?_
              refine p_goto (tgt := 18) k82_96 (by decide) ?_
              refine p_drop [0, 1, 2, 3, 4] rfl ?_
              exact ih (k + 1) _ _ (by omega) (by rw [← hn]; exact congrArg (fld (fHoN R0) j (k + 1)) (by unfold fHoN; rw [if_neg hw0, hcl]; first | rw [if_pos (hap.mp cq87), Nat.add_zero] | (rw [if_neg (fun z => cq87 (hap.mpr z))]))) (by rw [← hs]; exact congrArg (fld (fHoB (R0 101)) j (k + 1)) (by unfold fHoB; rw [if_neg hw0]))
          · skip
            replace hqs : h[qq]? = some (.inl 7) := hqs
            refine p_getIv k82_74 hqs f_11_160_7 (show _ = nI xx from e3.trans hxx) ?_
            refine p_aload_n k82_77 rfl ?_
            refine p_getRv k82_78 (s_0 S) f_11_14_11 (r_0_0 S) ?_
            refine p_getRv k82_81 (s_1 S) f_11_92_3 (r_1_1 S) ?_
            refine p_iload k82_84 rfl ?_
            refine p_ialdN k82_86 (s_2 S) (by omega) (by decide) (show _ = nI yy from (congrFun C.a2 k).trans hyy) ?_
            refine p_icmp_eqN (tgt := 93) k82_87 (by decide) (by omega) (by omega) (fun cq87 => ?_) (fun cq87 => ?_)
            · skip
              refine p_iincN (ls1 := [(0, _), (1, _), (2, _), (3, _), (4, _), (5, _)]) k82_93 rfl rfl ?_
              refine p_goto (tgt := 18) k82_96 (by decide) ?_
              refine p_drop [0, 1, 2, 3, 4] rfl ?_
              exact ih (k + 1) _ _ (by omega) (by rw [← hn]; exact congrArg (fld (fHoN R0) j (k + 1)) (by unfold fHoN; rw [if_neg hw0, hcl]; first | rw [if_pos (hap.mp cq87), Nat.add_zero] | (rw [if_neg (fun z => cq87 (hap.mpr z))]))) (by rw [← hs]; exact congrArg (fld (fHoB (R0 101)) j (k + 1)) (by unfold fHoB; rw [if_neg hw0]))
            · skip
              refine p_iincN (ls1 := [(0, _), (1, _), (2, _), (3, _), (4, _), (5, _)]) k82_90 rfl rfl ?_
              refine p_iincN (ls1 := [(0, _), (1, _), (2, _), (3, _), (4, _), (5, _)]) k82_93 rfl rfl ?_
              refine p_goto (tgt := 18) k82_96 (by decide) ?_
              refine p_drop [0, 1, 2, 3, 4] rfl ?_
              exact ih (k + 1) _ _ (by omega) (by rw [← hn]; exact congrArg (fld (fHoN R0) j (k + 1)) (by unfold fHoN; rw [if_neg hw0, hcl]; first | rw [if_pos (hap.mp cq87), Nat.add_zero] | (rw [if_neg (fun z => cq87 (hap.mpr z))]))) (by rw [← hs]; exact congrArg (fld (fHoB (R0 101)) j (k + 1)) (by unfold fHoB; rw [if_neg hw0]))
    exact L nh 0 0 0 (by omega) rfl rfl
  · skip
    refine p_iconst (v := (-1)) k82_9 (by decide) ?_
    refine p_ireturn k82_10 rt_82 ?_
    exact ⟨by unfold howM; rw [if_neg (by rw [cq6]; decide)], rfl⟩

theorem wear_iff {w : Nat → Int32} {nh a q : Nat} (h6 : nh ≤ 6) (hq : q < nh) (hd : ∀ k l, k < nh → l < nh → w k = nI a → w l = nI a → k = l) : optI (-1) (fnd (isI w (nI a)) nh 0) = nI q ↔ w q = nI a := by
  cases e : fnd (isI w (nI a)) nh 0 with
  | none =>
    have h := fnd_none e q (Nat.zero_le _) (by omega)
    unfold isI at h
    have h2 := of_decide_eq_false h
    exact ⟨fun z => absurd z.symm (nI_neg (by omega) (by decide)), fun z => absurd z h2⟩
  | some p =>
    obtain ⟨h1, h2, h3, h4⟩ := fnd_some e
    have h3' : w p = nI a := of_decide_eq_true h3
    constructor
    · intro z
      have : p = q := nI_inj (by omega) (by omega) z
      rw [← this]; exact h3'
    · intro z
      rw [hd q p hq (by omega) z h3']
      rfl
set_option maxRecDepth 100000 in
set_option maxHeartbeats 4000000 in
theorem C_looked {d : Nat} {I : Nat → Nat → Int32} {J : Nat → Nat → Int64} {K : Nat → Nat → Option Nat} {h : List xSh} (S : St K h) {R0 : Nat → Nat → Int32} {nh na dd cb ce tw : Nat} (C : CR I K h R0 na tw) (M : MI R0 nh na dd cb ce) (Q : AR R0 nh na dd) {bn : Nat} (hbn : R0 98 47 = nI bn) (hb8 : bn ≤ 8) (hbk : ∀ k, k < bn → (∃ a, a < na ∧ R0 131 k = nI a) ∧ ∃ q, q < nh ∧ R0 132 k = nI q) : EvP (d + 1) 89 0 [(0, .ref (0))] [] (I, J, K, h) (QI (fun x t => x = lookM R0 bn ∧ t = (I, J, K, h))) := by
  have hnh6 := M.nh6
  have hna6 := M.na6
  refine p_iconst (v := nI 0) k89_0 (by decide) ?_
  refine p_istore_n (ls' := [(0, _), (1, _)]) k89_1 rfl ?_
  have L : ∀ (j : Nat) (k : Nat), k + j = bn → lookM R0 bn = optI (-5) (fnd (fun k => !(decide (R0 101 (R0 132 k).toNatClampNeg = R0 131 k))) j k) → EvP (d + 1) 89 2 [(0, .ref (0)), (1, .int (nI (k)))] [] (I, J, K, h) (QI (fun x t => x = lookM R0 bn ∧ t = (I, J, K, h))) := by
    intro j
    induction j with
    | zero =>
      intro k hk
      intro hs
      refine p_iload_n k89_2 rfl ?_
      refine p_aload_n k89_3 rfl ?_
      refine p_getRv k89_4 (s_0 S) f_11_14_11 (r_0_0 S) ?_
      refine p_getIv k89_7 (s_1 S) f_11_281_3 (C.booked.trans hbn) ?_
      refine p_icmp_geN (tgt := 49) k89_10 (by decide) (by omega) (by omega) (fun _ => ?_) (fun c => False.elim (by omega))
      refine p_bipush (v := (-5)) k89_49 (by decide) ?_
      refine p_ireturn k89_51 rt_89 ?_
      exact ⟨hs.symm, rfl⟩
    | succ j ih =>
      intro k hk
      intro hs
      obtain ⟨⟨a, ha, hba⟩, q, hq6, hbq⟩ := hbk k (by omega)
      have hqc : (R0 132 k).toNatClampNeg = q := by rw [hbq, nI_clamp (by omega)]
      have hwi := wear_iff (w := R0 101) hnh6 hq6 (fun k l h1 h2 h3 h4 => Q.dist k l a h1 h2 ha h3 h4)
      refine p_iload_n k89_2 rfl ?_
      refine p_aload_n k89_3 rfl ?_
      refine p_getRv k89_4 (s_0 S) f_11_14_11 (r_0_0 S) ?_
      refine p_getIv k89_7 (s_1 S) f_11_281_3 (C.booked.trans hbn) ?_
      refine p_icmp_geN (tgt := 49) k89_10 (by decide) (by omega) (by omega) (fun c => False.elim (by omega)) (fun _ => ?_)
      refine p_aload_n k89_13 rfl ?_
      refine p_getRv k89_14 (s_0 S) f_11_14_11 (r_0_0 S) ?_
      refine p_aload_n k89_17 rfl ?_
      refine p_getRv k89_18 (s_0 S) f_11_14_11 (r_0_0 S) ?_
      refine p_getRv k89_21 (s_1 S) f_11_284_3 (r_1_15 S) ?_
      refine p_iload_n k89_24 rfl ?_
      refine p_ialdN k89_25 (s_12 S) (by omega) (by decide) (show _ = nI a from (congrFun C.a12 k).trans hba) ?_
      refine p_cV1i k89_26 (s_1 S) c_11_166_3 rfl (Nat.le_of_ble_eq_true rfl) (C_wearer S (n := nh) (C.heads.trans M.nh) hnh6 (nI a)) (fun x1 m1 hq => ?_)
      obtain ⟨rfl, rfl⟩ := hq
      rw [C.a4]
      refine p_aload_n k89_29 rfl ?_
      refine p_getRv k89_30 (s_0 S) f_11_14_11 (r_0_0 S) ?_
      refine p_getRv k89_33 (s_1 S) f_11_287_3 (r_1_16 S) ?_
      refine p_iload_n k89_36 rfl ?_
      refine p_ialdN k89_37 (s_13 S) (by omega) (by decide) (show _ = nI q from (congrFun C.a13 k).trans hbq) ?_
      refine p_icmp_eq (tgt := 43) k89_38 (by decide) (fun cq38 => ?_) (fun cq38 => ?_)
      · skip
        refine p_iincN (ls1 := [(0, _), (1, _)]) k89_43 rfl rfl ?_
        refine p_goto (tgt := 2) k89_46 (by decide) ?_
        exact ih (k + 1) (by omega) (by rw [hs]; congr 1; exact if_neg (by show ¬ (!(decide (R0 101 (R0 132 k).toNatClampNeg = R0 131 k))) = true; rw [hqc, hba, decide_eq_true (hwi.mp cq38)]; decide))
      · skip
        refine p_iload_n k89_41 rfl ?_
        refine p_ireturn k89_42 rt_89 ?_
        exact ⟨by rw [hs, show fnd (fun k => !(decide (R0 101 (R0 132 k).toNatClampNeg = R0 131 k))) (j + 1) k = some k from if_pos (by show (!(decide (R0 101 (R0 132 k).toNatClampNeg = R0 131 k))) = true; rw [hqc, hba, decide_eq_false (fun z => cq38 (hwi.mpr z))]; rfl)]; rfl, rfl⟩
  exact L bn 0 (by omega) rfl

set_option maxRecDepth 100000 in
set_option maxHeartbeats 4000000 in
theorem C_count {d : Nat} {I : Nat → Nat → Int32} {J : Nat → Nat → Int64} {K : Nat → Nat → Option Nat} {h : List xSh} (S : St K h) {R0 : Nat → Nat → Int32} {nh na dd cb ce tw : Nat} (C : CR I K h R0 na tw) (M : MI R0 nh na dd cb ce) (Q : AR R0 nh na dd) (htw : I 0 7 = R0 98 14) (htb : I 0 4 = R0 98 16) (htr : I 36 1 = R0 98 72) (w : Int32) : EvP d 96 0 [(0, .ref (0)), (1, .int (w))] [] (I, J, K, h) (QI (fun x t => x = countM R0 w ∧ t = (I, J, K, h))) := by
  have hnh6 := M.nh6
  have hna6 := M.na6
  refine p_iload_n k96_0 rfl ?_
  by_cases hw7 : ixB w 7 = true
  · skip
    obtain ⟨k, hk, rfl⟩ := ixB_of (by decide) hw7
    have hck := nI_clamp (n := k) (by omega)
    rcases (show k = 0 ∨ k = 1 ∨ k = 2 ∨ k = 3 ∨ k = 4 ∨ k = 5 ∨ k = 6 by omega) with rfl | rfl | rfl | rfl | rfl | rfl | rfl
    · skip
      refine p_tswI (tgt := 44) k96_1 (by decide) (by decide) (by decide) rfl (by decide) ?_
      refine p_aload_n k96_44 rfl ?_
      refine p_getRv k96_45 (s_0 S) f_11_14_11 (r_0_0 S) ?_
      refine p_getIv k96_48 (s_1 S) f_11_108_3 rfl ?_
      refine p_ireturn k96_51 rt_96 ?_
      exact ⟨by unfold countM; rw [if_pos hw7, hck]; exact C.hats, rfl⟩
    · skip
      refine p_tswI (tgt := 52) k96_1 (by decide) (by decide) (by decide) rfl (by decide) ?_
      refine p_aload_n k96_52 rfl ?_
      refine p_getRv k96_53 (s_0 S) f_11_14_11 (r_0_0 S) ?_
      refine p_getIv k96_56 (s_1 S) f_11_89_3 rfl ?_
      refine p_ireturn k96_59 rt_96 ?_
      exact ⟨by unfold countM; rw [if_pos hw7, hck]; exact C.heads, rfl⟩
    · skip
      refine p_tswI (tgt := 60) k96_1 (by decide) (by decide) (by decide) rfl (by decide) ?_
      refine p_aload_n k96_60 rfl ?_
      refine p_getIv k96_61 (s_0 S) f_11_44_11 rfl ?_
      refine p_ireturn k96_64 rt_96 ?_
      exact ⟨by unfold countM; rw [if_pos hw7, hck]; exact htw, rfl⟩
    · skip
      refine p_tswI (tgt := 65) k96_1 (by decide) (by decide) (by decide) rfl (by decide) ?_
      refine p_aload_n k96_65 rfl ?_
      refine p_getRv k96_66 (s_0 S) f_11_14_11 (r_0_0 S) ?_
      refine p_getIv k96_69 (s_1 S) f_11_251_3 rfl ?_
      refine p_ireturn k96_72 rt_96 ?_
      exact ⟨by unfold countM; rw [if_pos hw7, hck]; exact C.seen, rfl⟩
    · skip
      refine p_tswI (tgt := 73) k96_1 (by decide) (by decide) (by decide) rfl (by decide) ?_
      refine p_aload_n k96_73 rfl ?_
      refine p_getRv k96_74 (s_0 S) f_11_14_11 (r_0_0 S) ?_
      refine p_getIv k96_77 (s_1 S) f_11_281_3 rfl ?_
      refine p_ireturn k96_80 rt_96 ?_
      exact ⟨by unfold countM; rw [if_pos hw7, hck]; exact C.booked, rfl⟩
    · skip
      refine p_tswI (tgt := 81) k96_1 (by decide) (by decide) (by decide) rfl (by decide) ?_
      refine p_aload_n k96_81 rfl ?_
      refine p_getIv k96_82 (s_0 S) f_11_29_11 rfl ?_
      refine p_ireturn k96_85 rt_96 ?_
      exact ⟨by unfold countM; rw [if_pos hw7, hck]; exact htb, rfl⟩
    · skip
      refine p_tswI (tgt := 86) k96_1 (by decide) (by decide) (by decide) rfl (by decide) ?_
      refine p_aload_n k96_86 rfl ?_
      refine p_getRv k96_87 (s_0 S) f_11_50_11 (r_0_8 S) ?_
      refine p_getIv k96_90 (s_36 S) f_11_319_9 rfl ?_
      refine p_ireturn k96_93 rt_96 ?_
      exact ⟨by unfold countM; rw [if_pos hw7, hck]; exact htr, rfl⟩
  · skip
    refine p_tableOut (tgt := 94) k96_1 (by have z := ixB_out hw7; omega) (by decide) ?_
    refine p_bipush (v := (-2)) k96_94 (by decide) ?_
    refine p_ireturn k96_96 rt_96 ?_
    exact ⟨by unfold countM; rw [if_neg hw7], rfl⟩

theorem tr_in {v : Int32} {r : Nat} (hr : r < 100) : inB v (nI 0) ((if nI 20 < nI r then nI 20 else nI r) - nI 1) = true ↔ (inB v (nI 0) (nI 19) = true ∧ ¬ nI r ≤ v) := by
  have e : (if nI 20 < nI r then nI 20 else nI r) = nI (if 20 < r then 20 else r) := by
    by_cases h : 20 < r
    · rw [if_pos h, if_pos (by rw [i_lt, nI_t (by omega), nI_t (by omega)]; omega)]
    · rw [if_neg h, if_neg (by rw [i_lt, nI_t (by omega), nI_t (by omega)]; omega)]
  rw [e, show nI 1 = 1 from rfl, show nI 0 = 0 from rfl, ixB_in (by split <;> omega), show inB v 0 (nI 19) = ixB v 20 from ixB_in0 (m := 19) (by decide)]
  unfold ixB
  rw [decide_eq_true_iff, decide_eq_true_iff, i_le, nI_t (show r < 2 ^ 31 by omega)]
  split <;> omega
set_option maxRecDepth 100000 in
set_option maxHeartbeats 4000000 in
theorem C_trace {d : Nat} {I : Nat → Nat → Int32} {J : Nat → Nat → Int64} {K : Nat → Nat → Option Nat} {h : List xSh} (S : St K h) {R0 : Nat → Nat → Int32} {nh na dd cb ce tw : Nat} (C : CR I K h R0 na tw) (M : MI R0 nh na dd cb ce) (Q : AR R0 nh na dd) {r : Nat} (hr : R0 98 72 = nI r) (hr1 : r < 100) (htr : I 36 1 = R0 98 72) (htr2 : I 37 = R0 148) (v : Int32) : EvP (d + 1) 94 0 [(0, .ref (0)), (1, .int (v))] [] (I, J, K, h) (QI (fun x t => x = traceM R0 v ∧ t = (I, J, K, h))) := by
  have hnh6 := M.nh6
  have hna6 := M.na6
  refine p_iload_n k94_0 rfl ?_
  refine p_iconst (v := nI 0) k94_1 (by decide) ?_
  refine p_aload_n k94_2 rfl ?_
  refine p_getRv k94_3 (s_0 S) f_11_50_11 (r_0_8 S) ?_
  refine p_getIv k94_6 (s_36 S) f_11_319_9 (htr.trans hr) ?_
  refine p_bipush (v := nI 20) k94_9 (by decide) ?_
  refine p_min k94_11 (by decide) (Nat.le_of_ble_eq_true rfl) ?_
  refine p_iconst (v := nI 1) k94_14 (by decide) ?_
  refine p_isub k94_15 ?_
  refine p_cS3i k94_16 c_11_101 rfl rfl rfl (Nat.le_of_ble_eq_true rfl) (C_within S (v) (nI (0)) (_)) (fun x1 m1 hq => ?_)
  obtain ⟨rfl, rfl⟩ := hq
  refine p_if_eqB (tgt := 34) k94_19 (by decide) (fun cq19 => ?_) (fun cq19 => ?_)
  · skip
    refine p_iconst (v := (-1)) k94_34 (by decide) ?_
    refine p_ireturn k94_35 rt_94 ?_
    first | exact ⟨by unfold traceM; rw [if_pos ct1, hr, if_neg ct2, hck], rfl⟩ | exact ⟨by unfold traceM; rw [hr]; by_cases z1 : inB v (nI 0) (nI 19) = true; (rw [if_pos z1]; by_cases z2 : nI r ≤ v; rw [if_pos z2]; exact absurd ((tr_in hr1).mpr ⟨z1, z2⟩) (by rw [cq19]; decide)); rw [if_neg z1], rfl⟩
  · skip
    obtain ⟨ct1, ct2⟩ := (tr_in hr1).mp cq19
    obtain ⟨k, hk, rfl⟩ := inB_of0 (by decide) ct1
    have hck := nI_clamp (n := k) (by omega)
    refine p_aload_n k94_22 rfl ?_
    refine p_getRv k94_23 (s_0 S) f_11_50_11 (r_0_8 S) ?_
    refine p_getRv k94_26 (s_36 S) f_11_322_9 (r_36_0 S) ?_
    refine p_iload_n k94_29 rfl ?_
    refine p_ialdN k94_30 (s_37 S) (by omega) (by decide) (show _ = R0 148 k from congrFun htr2 k) ?_
    refine p_goto (tgt := 35) k94_31 (by decide) ?_
    refine p_ireturn k94_35 rt_94 ?_
    first | exact ⟨by unfold traceM; rw [if_pos ct1, hr, if_neg ct2, hck], rfl⟩ | exact ⟨by unfold traceM; rw [hr]; by_cases z1 : inB v (nI 0) (nI 19) = true; (rw [if_pos z1]; by_cases z2 : nI r ≤ v; rw [if_pos z2]; exact absurd ((tr_in hr1).mpr ⟨z1, z2⟩) (by rw [cq19]; decide)); rw [if_neg z1], rfl⟩

