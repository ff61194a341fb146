/-! the class: today, enough, gusted, lucky, best, quarrel, odds, mean, wore -/
set_option maxRecDepth 100000 in
set_option maxHeartbeats 4000000 in
theorem C_today {d : Nat} {I : Nat → Nat → Int32} {J : Nat → Nat → Int64} {K : Nat → Nat → Option Nat} {h : List xSh} (S : St K h) {R0 : Nat → Nat → Int32} {nh na dd cb ce tw : Nat} (C : CR I K h R0 na tw) (M : MI R0 nh na dd cb ce) (Q : AR R0 nh na dd) (g : Nat → Int32) (v : Int32) : EvP (d + 7) 70 0 [(0, .ref (0)), (1, .int (v))] [] (upc I 39 g, J, K, h) (QI (fun x t => x = todayM R0 cb ce nh v ∧ ∃ g, t = (upc I 39 g, J, K, h))) := by
  have hnh6 := M.nh6
  have hna6 := M.na6
  refine p_iload_n k70_0 rfl ?_
  refine p_iconst (v := (-1)) k70_1 (by decide) ?_
  refine p_icmp_eq (tgt := 12) k70_2 (by decide) (fun cq2 => ?_) (fun cq2 => ?_)
  · skip
    refine p_aload_n k70_12 rfl ?_
    refine p_iload_n k70_13 rfl ?_
    refine p_iconst (v := nI 0) k70_14 (by decide) ?_
    refine p_iconst (v := nI 0) k70_15 (by decide) ?_
    refine p_cV3i k70_16 (s_0 S) c_11_206_11 rfl rfl rfl (Nat.le_of_ble_eq_true rfl) (C_total S C M Q g (AHD.zero M Q) (gg := 0) (by omega) v) (fun x1 m1 hq => ?_)
    obtain ⟨rfl, g, rfl⟩ := hq
    refine p_goto (tgt := 23) k70_19 (by decide) ?_
    refine p_ireturn k70_23 rt_70 ?_
    first | exact ⟨by unfold todayM; rw [if_pos (Or.inl cq2)]; exact totC_0 (Or.inl cq2), g, rfl⟩ | exact ⟨by unfold todayM; rw [if_pos (Or.inr cq9)]; exact totC_0 (Or.inr cq9), g, rfl⟩ | exact ⟨by unfold todayM; rw [if_neg (fun z => z.elim cq2 (fun z => by rw [cq9] at z; cases z))], g, rfl⟩
  · skip
    refine p_iload_n k70_5 rfl ?_
    refine p_cS1i k70_6 c_11_105 rfl (Nat.le_of_ble_eq_true rfl) (C_isTrade S (v)) (fun x1 m1 hq => ?_)
    obtain ⟨rfl, rfl⟩ := hq
    refine p_if_eqB (tgt := 22) k70_9 (by decide) (fun cq9 => ?_) (fun cq9 => ?_)
    · skip
      refine p_iconst (v := (-1)) k70_22 (by decide) ?_
      refine p_ireturn k70_23 rt_70 ?_
      first | exact ⟨by unfold todayM; rw [if_pos (Or.inl cq2)]; exact totC_0 (Or.inl cq2), g, rfl⟩ | exact ⟨by unfold todayM; rw [if_pos (Or.inr cq9)]; exact totC_0 (Or.inr cq9), g, rfl⟩ | exact ⟨by unfold todayM; rw [if_neg (fun z => z.elim cq2 (fun z => by rw [cq9] at z; cases z))], g, rfl⟩
    · skip
      refine p_aload_n k70_12 rfl ?_
      refine p_iload_n k70_13 rfl ?_
      refine p_iconst (v := nI 0) k70_14 (by decide) ?_
      refine p_iconst (v := nI 0) k70_15 (by decide) ?_
      refine p_cV3i k70_16 (s_0 S) c_11_206_11 rfl rfl rfl (Nat.le_of_ble_eq_true rfl) (C_total S C M Q g (AHD.zero M Q) (gg := 0) (by omega) v) (fun x1 m1 hq => ?_)
      obtain ⟨rfl, g, rfl⟩ := hq
      refine p_goto (tgt := 23) k70_19 (by decide) ?_
      refine p_ireturn k70_23 rt_70 ?_
      first | exact ⟨by unfold todayM; rw [if_pos (Or.inl cq2)]; exact totC_0 (Or.inl cq2), g, rfl⟩ | exact ⟨by unfold todayM; rw [if_pos (Or.inr cq9)]; exact totC_0 (Or.inr cq9), g, rfl⟩ | exact ⟨by unfold todayM; rw [if_neg (fun z => z.elim cq2 (fun z => by rw [cq9] at z; cases z))], g, rfl⟩

set_option maxRecDepth 100000 in
set_option maxHeartbeats 4000000 in
theorem C_enough {d : Nat} {I : Nat → Nat → Int32} {J : Nat → Nat → Int64} {K : Nat → Nat → Option Nat} {h : List xSh} (S : St K h) {R0 : Nat → Nat → Int32} {nh na dd cb ce tw : Nat} (C : CR I K h R0 na tw) (M : MI R0 nh na dd cb ce) (Q : AR R0 nh na dd) (g : Nat → Int32)  : EvP (d + 8) 71 0 [(0, .ref (0))] [] (upc I 39 g, J, K, h) (QI (fun x t => x = nI (enoM R0 cb ce nh) ∧ ∃ g, t = (upc I 39 g, J, K, h))) := by
  have hnh6 := M.nh6
  have hna6 := M.na6
  refine p_iconst (v := nI 0) k71_0 (by decide) ?_
  refine p_istore_n (ls' := [(0, _), (1, _)]) k71_1 rfl ?_
  refine p_iconst (v := nI 0) k71_2 (by decide) ?_
  refine p_istore_n (ls' := [(0, _), (1, _), (2, _)]) k71_3 rfl ?_
  have L : ∀ (j : Nat) (k s : Nat) (g : Nat → Int32), k + j = 5 → fld (fEno R0 cb ce nh) j k s = enoM R0 cb ce nh → EvP (d + 8) 71 4 [(0, .ref (0)), (1, .int (nI (s))), (2, .int (nI (k)))] [] (upc I 39 g, J, K, h) (QI (fun x t => x = nI (enoM R0 cb ce nh) ∧ ∃ g, t = (upc I 39 g, J, K, h))) := by
    intro j
    induction j with
    | zero =>
      intro k s g hk
      intro hs
      refine p_iload_n k71_4 rfl ?_
      refine p_iconst (v := nI 5) k71_5 (by decide) ?_
      refine p_icmp_geN (tgt := 31) k71_6 (by decide) (by omega) (by omega) (fun _ => ?_) (fun c => False.elim (by omega))
      refine p_iload_n k71_31 rfl ?_
      refine p_ireturn k71_32 rt_71 ?_
      exact ⟨by rw [← hs]; rfl, g, rfl⟩
    | succ j ih =>
      intro k s g hk
      intro hs
      refine p_iload_n k71_4 rfl ?_
      refine p_iconst (v := nI 5) k71_5 (by decide) ?_
      refine p_icmp_geN (tgt := 31) k71_6 (by decide) (by omega) (by omega) (fun c => False.elim (by omega)) (fun _ => ?_)
      refine p_aload_n k71_9 rfl ?_
      refine p_iload_n k71_10 rfl ?_
      refine p_iconst (v := nI 0) k71_11 (by decide) ?_
      refine p_iconst (v := nI 0) k71_12 (by decide) ?_
      refine p_cV3i k71_13 (s_0 S) c_11_225_11 rfl rfl rfl (Nat.le_of_ble_eq_true rfl) (C_isEnough S C M Q g (AHD.zero M Q) (gg := 0) (by omega) (nI k)) (fun x1 m1 hq => ?_)
      rw [totC_0 (Or.inr (by rw [ixB_nI (by omega)]; exact decide_eq_true (by omega)))] at hq
      obtain ⟨rfl, g, rfl⟩ := hq
      refine p_if_eqB (tgt := 25) k71_16 (by decide) (fun cq16 => ?_) (fun cq16 => ?_)
      · skip
        refine p_iincN (ls1 := [(0, _), (1, _), (2, _)]) k71_25 rfl rfl ?_
        refine p_goto (tgt := 4) k71_28 (by decide) ?_
        exact ih (k + 1) _ _ (by omega) (by rw [← hs]; exact congrArg (fld (fEno R0 cb ce nh) j (k + 1)) (by unfold fEno; first | (rw [if_neg (fun z => by rw [decide_eq_true z] at cq16; cases cq16)]; done) | (rw [if_pos (by by_cases z : todM R0 cb ce nh (nI k) < workF R0 cb ce (nI k); exact z; rw [decide_eq_false z] at cq16; cases cq16), Nat.or_zero])))
      · skip
        refine p_iload_n k71_19 rfl ?_
        refine p_iconst (v := nI 1) k71_20 (by decide) ?_
        refine p_iload_n k71_21 rfl ?_
        refine p_ishl1 (by omega) k71_22 ?_
        refine p_iorN k71_23 ?_
        refine p_istore_n (ls' := [(0, _), (1, _), (2, _)]) k71_24 rfl ?_
        refine p_iincN (ls1 := [(0, _), (1, _), (2, _)]) k71_25 rfl rfl ?_
        refine p_goto (tgt := 4) k71_28 (by decide) ?_
        exact ih (k + 1) _ _ (by omega) (by rw [← hs]; exact congrArg (fld (fEno R0 cb ce nh) j (k + 1)) (by unfold fEno; first | (rw [if_neg (fun z => by rw [decide_eq_true z] at cq16; cases cq16)]; done) | (rw [if_pos (by by_cases z : todM R0 cb ce nh (nI k) < workF R0 cb ce (nI k); exact z; rw [decide_eq_false z] at cq16; cases cq16), Nat.or_zero])))
  exact L 5 0 0 g (by omega) rfl

theorem inB_of0 {w : Int32} {m : Nat} (hm : m < 2 ^ 31 - 1) (h : inB w (nI 0) (nI m) = true) : ∃ k, k ≤ m ∧ w = nI k := by
  rw [ixB_in0 (by omega)] at h
  obtain ⟨k, hk, e⟩ := ixB_of (by omega) h
  exact ⟨k, by omega, e⟩
set_option maxRecDepth 100000 in
set_option maxHeartbeats 4000000 in
theorem C_gusted {d : Nat} {I : Nat → Nat → Int32} {J : Nat → Nat → Int64} {K : Nat → Nat → Option Nat} {h : List xSh} (S : St K h) {R0 : Nat → Nat → Int32} {nh na dd cb ce tw : Nat} (C : CR I K h R0 na tw) (M : MI R0 nh na dd cb ce) (Q : AR R0 nh na dd) (g : Nat → Int32) (v : Int32) : EvP (d + 7) 78 0 [(0, .ref (0)), (1, .int (v))] [] (upc I 39 g, J, K, h) (QI (fun x t => x = gustedM R0 nh cb ce v ∧ ∃ g, t = (upc I 39 g, J, K, h))) := by
  have hnh6 := M.nh6
  have hna6 := M.na6
  refine p_iload_n k78_0 rfl ?_
  refine p_cS1i k78_1 c_11_216 rfl (Nat.le_of_ble_eq_true rfl) (C_isGust S (v)) (fun x1 m1 hq => ?_)
  obtain ⟨rfl, rfl⟩ := hq
  refine p_if_eqB (tgt := 17) k78_4 (by decide) (fun cq4 => ?_) (fun cq4 => ?_)
  · skip
    refine p_bipush (v := (-2)) k78_17 (by decide) ?_
    refine p_ireturn k78_19 rt_78 ?_
    first | exact ⟨by unfold gustedM; rw [if_pos cq4, hcg]; exact totC_gus M.nh6 (by omega) (Or.inl rfl), g, rfl⟩ | exact ⟨by unfold gustedM; rw [if_neg (by rw [cq4]; decide)], g, rfl⟩
  · skip
    obtain ⟨gg, hgg, rfl⟩ := inB_of0 (by decide) cq4
    have hcg := nI_clamp (n := gg) (by omega)
    refine p_aload_n k78_7 rfl ?_
    refine p_iconst (v := (-1)) k78_8 (by decide) ?_
    refine p_iload_n k78_9 rfl ?_
    refine p_iconst (v := nI 0) k78_10 (by decide) ?_
    refine p_cV3i k78_11 (s_0 S) c_11_206_11 rfl rfl rfl (Nat.le_of_ble_eq_true rfl) (C_total S C M Q g (AHD.zero M Q) (gg := gg) (by omega) (-1)) (fun x1 m1 hq => ?_)
    obtain ⟨rfl, g, rfl⟩ := hq
    refine p_goto (tgt := 19) k78_14 (by decide) ?_
    refine p_ireturn k78_19 rt_78 ?_
    first | exact ⟨by unfold gustedM; rw [if_pos cq4, hcg]; exact totC_gus M.nh6 (by omega) (Or.inl rfl), g, rfl⟩ | exact ⟨by unfold gustedM; rw [if_neg (by rw [cq4]; decide)], g, rfl⟩

set_option maxRecDepth 100000 in
set_option maxHeartbeats 4000000 in
theorem C_lucky {d : Nat} {I : Nat → Nat → Int32} {J : Nat → Nat → Int64} {K : Nat → Nat → Option Nat} {h : List xSh} (S : St K h) {R0 : Nat → Nat → Int32} {nh na dd cb ce tw : Nat} (C : CR I K h R0 na tw) (M : MI R0 nh na dd cb ce) (Q : AR R0 nh na dd) (g : Nat → Int32)  : EvP (d + 7) 79 0 [(0, .ref (0))] [] (upc I 39 g, J, K, h) (QI (fun x t => x = luckyM R0 nh cb ce ∧ ∃ g, t = (upc I 39 g, J, K, h))) := by
  have hnh6 := M.nh6
  have hna6 := M.na6
  refine p_bipush (v := (-5)) k79_0 (by decide) ?_
  refine p_istore_n (ls' := [(0, _), (1, _)]) k79_2 rfl ?_
  refine p_iconst (v := (-1)) k79_3 (by decide) ?_
  refine p_istore_n (ls' := [(0, _), (1, _), (2, _)]) k79_4 rfl ?_
  refine p_iconst (v := nI 0) k79_5 (by decide) ?_
  refine p_istore_n (ls' := [(0, _), (1, _), (2, _), (3, _)]) k79_6 rfl ?_
  have L : ∀ (j : Nat) (k : Nat) (s1 s2 : Int32) (g : Nat → Int32), k + j = nh → (fld (fLuc R0 nh cb ce) j k (s1, s2)).1 = luckyM R0 nh cb ce → EvP (d + 7) 79 7 [(0, .ref (0)), (1, .int (s1)), (2, .int (s2)), (3, .int (nI (k)))] [] (upc I 39 g, J, K, h) (QI (fun x t => x = luckyM R0 nh cb ce ∧ ∃ g, t = (upc I 39 g, J, K, h))) := by
    intro j
    induction j with
    | zero =>
      intro k s1 s2 g hk
      intro hs
      refine p_iload_n k79_7 rfl ?_
      refine p_aload_n k79_8 rfl ?_
      refine p_getRv k79_9 (s_0 S) f_11_14_11 (r_0_0 S) ?_
      refine p_getIv k79_12 (s_1 S) f_11_89_3 (show _ = nI nh from C.heads.trans M.nh) ?_
      refine p_icmp_geN (tgt := 44) k79_15 (by decide) (by omega) (by omega) (fun _ => ?_) (fun c => False.elim (by omega))
      refine p_iload_n k79_44 rfl ?_
      refine p_ireturn k79_45 rt_79 ?_
      exact ⟨hs, g, rfl⟩
    | succ j ih =>
      intro k s1 s2 g hk
      intro hs
      refine p_iload_n k79_7 rfl ?_
      refine p_aload_n k79_8 rfl ?_
      refine p_getRv k79_9 (s_0 S) f_11_14_11 (r_0_0 S) ?_
      refine p_getIv k79_12 (s_1 S) f_11_89_3 (show _ = nI nh from C.heads.trans M.nh) ?_
      refine p_icmp_geN (tgt := 44) k79_15 (by decide) (by omega) (by omega) (fun c => False.elim (by omega)) (fun _ => ?_)
      refine p_aload_n k79_18 rfl ?_
      refine p_iconst (v := (-1)) k79_19 (by decide) ?_
      refine p_iload_n k79_20 rfl ?_
      refine p_iconst (v := nI 0) k79_21 (by decide) ?_
      refine p_cV3i k79_22 (s_0 S) c_11_206_11 rfl rfl rfl (Nat.le_of_ble_eq_true rfl) (C_total S C M Q g (AHD.zero M Q) (gg := k) (by omega) (-1)) (fun x1 m1 hq => ?_)
      obtain ⟨rfl, g, rfl⟩ := hq
      rw [totC_gus M.nh6 (show k < 6 by omega) (Or.inl rfl)]
      refine p_istore (ls' := [(0, _), (1, _), (2, _), (3, _), (4, _)]) k79_25 rfl ?_
      refine p_iload k79_27 rfl ?_
      refine p_iload_n k79_29 rfl ?_
      refine p_icmp_le (tgt := 38) k79_30 (by decide) (fun cq30 => ?_) (fun cq30 => ?_)
      · skip
        refine p_iincN (ls1 := [(0, _), (1, _), (2, _), (3, _), (4, _)]) k79_38 rfl rfl ?_
        refine p_goto (tgt := 7) k79_41 (by decide) ?_
        refine p_drop [0, 1, 2, 3] rfl ?_
        exact ih (k + 1) _ _ _ (by omega) (by rw [← hs]; show (fld (fLuc R0 nh cb ce) j (k + 1) _).1 = (fld (fLuc R0 nh cb ce) j (k + 1) _).1; exact congrArg (fun z => (fld (fLuc R0 nh cb ce) j (k + 1) z).1) (by unfold fLuc; first | rw [if_pos (Int32.not_le.mp cq30)] | rw [if_neg (Int32.not_lt.mpr cq30)]))
      · skip
        refine p_iload k79_33 rfl ?_
        refine p_istore_n (ls' := [(0, _), (1, _), (2, _), (3, _), (4, _)]) k79_35 rfl ?_
        refine p_iload_n k79_36 rfl ?_
        refine p_istore_n (ls' := [(0, _), (1, _), (2, _), (3, _), (4, _)]) k79_37 rfl ?_
        refine p_iincN (ls1 := [(0, _), (1, _), (2, _), (3, _), (4, _)]) k79_38 rfl rfl ?_
        refine p_goto (tgt := 7) k79_41 (by decide) ?_
        refine p_drop [0, 1, 2, 3] rfl ?_
        exact ih (k + 1) _ _ _ (by omega) (by rw [← hs]; show (fld (fLuc R0 nh cb ce) j (k + 1) _).1 = (fld (fLuc R0 nh cb ce) j (k + 1) _).1; exact congrArg (fun z => (fld (fLuc R0 nh cb ce) j (k + 1) z).1) (by unfold fLuc; first | rw [if_pos (Int32.not_le.mp cq30)] | rw [if_neg (Int32.not_lt.mpr cq30)]))
  exact L nh 0 _ _ g (by omega) rfl

theorem C_deed0 {d : Nat} {I : Nat → Nat → Int32} {J : Nat → Nat → Int64} {K : Nat → Nat → Option Nat} {h : List xSh} (S : St K h) {R0 : Nat → Nat → Int32} {nh na dd cb ce tw : Nat} (C : CR I K h R0 na tw) (M : MI R0 nh na dd cb ce) (Q : AR R0 nh na dd) (g : Nat → Int32) {a hh : Nat} (ha : a < na) (hh6 : hh < nh) : EvP (d + 5) 110 0 [(0, .ref 0), (1, .int (nI a)), (2, .int (nI hh)), (3, .int (nI 0))] [] (upc I 39 g, J, K, h) (QI (fun x t => x = deedM R0 cb ce a hh ∧ ∃ g, t = (upc I 39 g, J, K, h))) := by
  obtain ⟨u, hu, hu2⟩ := Q.used a ha
  obtain ⟨x, hx, hx2⟩ := Q.hsz a ha
  obtain ⟨y, hy, hy2⟩ := Q.fsz hh hh6
  have hd := Q.dd9
  exact C_deedOn S C M g (fun _ _ _ _ => rfl) ha hh6 (ah := 0) hu2 hu2 M.dd (by omega) (by omega) hx2 hx hy2 hy
set_option maxRecDepth 100000 in
set_option maxHeartbeats 4000000 in
theorem C_best {d : Nat} {I : Nat → Nat → Int32} {J : Nat → Nat → Int64} {K : Nat → Nat → Option Nat} {h : List xSh} (S : St K h) {R0 : Nat → Nat → Int32} {nh na dd cb ce tw : Nat} (C : CR I K h R0 na tw) (M : MI R0 nh na dd cb ce) (Q : AR R0 nh na dd) (g : Nat → Int32) (v : Int32) : EvP (d + 6) 72 0 [(0, .ref (0)), (1, .int (v))] [] (upc I 39 g, J, K, h) (QI (fun x t => x = bestM R0 cb ce nh na v ∧ ∃ g, t = (upc I 39 g, J, K, h))) := by
  have hnh6 := M.nh6
  have hna6 := M.na6
  refine p_aload_n k72_0 rfl ?_
  refine p_getRv k72_1 (s_0 S) f_11_14_11 (r_0_0 S) ?_
  refine p_iload_n k72_4 rfl ?_
  refine p_cV1i k72_5 (s_1 S) c_11_151_3 rfl (Nat.le_of_ble_eq_true rfl) (C_isHat S (n := na) (show upc I 39 g 1 4 = nI na from C.hats.trans M.na) hna6 (v)) (fun x1 m1 hq => ?_)
  obtain ⟨rfl, rfl⟩ := hq
  refine p_if_neB (tgt := 13) k72_8 (by decide) (fun cq8 => ?_) (fun cq8 => ?_)
  · skip
    refine p_bipush (v := (-5)) k72_13 (by decide) ?_
    refine p_istore_n (ls' := [(0, _), (1, _), (2, _)]) k72_15 rfl ?_
    refine p_iconst (v := (-1)) k72_16 (by decide) ?_
    refine p_istore_n (ls' := [(0, _), (1, _), (2, _), (3, _)]) k72_17 rfl ?_
    refine p_iconst (v := nI 0) k72_18 (by decide) ?_
    refine p_istore (ls' := [(0, _), (1, _), (2, _), (3, _), (4, _)]) k72_19 rfl ?_
    obtain ⟨a, ha, rfl⟩ := ixB_of (n := na) (by omega) cq8
    have hca := nI_clamp (n := a) (by omega)
    have L : ∀ (j : Nat) (k : Nat) (s1 s2 : Int32) (g : Nat → Int32), k + j = nh → (fld (fBes R0 cb ce a) j k (s1, s2)).1 = bestM R0 cb ce nh na (nI a) → EvP (d + 6) 72 21 [(0, .ref (0)), (1, .int (nI (a))), (2, .int (s1)), (3, .int (s2)), (4, .int (nI (k)))] [] (upc I 39 g, J, K, h) (QI (fun x t => x = bestM R0 cb ce nh na (nI a) ∧ ∃ g, t = (upc I 39 g, J, K, h))) := by
      intro j
      induction j with
      | zero =>
        intro k s1 s2 g hk
        intro hs
        refine p_iload k72_21 rfl ?_
        refine p_aload_n k72_23 rfl ?_
        refine p_getRv k72_24 (s_0 S) f_11_14_11 (r_0_0 S) ?_
        refine p_getIv k72_27 (s_1 S) f_11_89_3 (show _ = nI nh from C.heads.trans M.nh) ?_
        refine p_icmp_geN (tgt := 61) k72_30 (by decide) (by omega) (by omega) (fun _ => ?_) (fun c => False.elim (by omega))
        refine p_iload_n k72_61 rfl ?_
        refine p_ireturn k72_62 rt_72 ?_
        exact ⟨hs, g, rfl⟩
      | succ j ih =>
        intro k s1 s2 g hk
        intro hs
        refine p_iload k72_21 rfl ?_
        refine p_aload_n k72_23 rfl ?_
        refine p_getRv k72_24 (s_0 S) f_11_14_11 (r_0_0 S) ?_
        refine p_getIv k72_27 (s_1 S) f_11_89_3 (show _ = nI nh from C.heads.trans M.nh) ?_
        refine p_icmp_geN (tgt := 61) k72_30 (by decide) (by omega) (by omega) (fun c => False.elim (by omega)) (fun _ => ?_)
        refine p_aload_n k72_33 rfl ?_
        refine p_iload_n k72_34 rfl ?_
        refine p_iload k72_35 rfl ?_
        refine p_iconst (v := nI 0) k72_37 (by decide) ?_
        refine p_cV3i k72_38 (s_0 S) c_11_176_11 rfl rfl rfl (Nat.le_of_ble_eq_true rfl) (C_deed0 S C M Q g (a := a) (hh := k) (by omega) (by omega)) (fun x1 m1 hq => ?_)
        obtain ⟨rfl, g, rfl⟩ := hq
        refine p_istore (ls' := [(0, _), (1, _), (2, _), (3, _), (4, _), (5, _)]) k72_41 rfl ?_
        refine p_iload k72_43 rfl ?_
        refine p_iload_n k72_45 rfl ?_
        refine p_icmp_le (tgt := 55) k72_46 (by decide) (fun cq46 => ?_) (fun cq46 => ?_)
        · skip
          refine p_iincN (ls1 := [(0, _), (1, _), (2, _), (3, _), (4, _), (5, _)]) k72_55 rfl rfl ?_
          refine p_goto (tgt := 21) k72_58 (by decide) ?_
          refine p_drop [0, 1, 2, 3, 4] rfl ?_
          exact ih (k + 1) _ _ _ (by omega) (by rw [← hs]; show (fld (fBes R0 cb ce a) j (k + 1) _).1 = (fld (fBes R0 cb ce a) j (k + 1) _).1; exact congrArg (fun z => (fld (fBes R0 cb ce a) j (k + 1) z).1) (by unfold fBes; first | rw [if_pos (Int32.not_le.mp cq46)] | rw [if_neg (Int32.not_lt.mpr cq46)]))
        · skip
          refine p_iload k72_49 rfl ?_
          refine p_istore_n (ls' := [(0, _), (1, _), (2, _), (3, _), (4, _), (5, _)]) k72_51 rfl ?_
          refine p_iload k72_52 rfl ?_
          refine p_istore_n (ls' := [(0, _), (1, _), (2, _), (3, _), (4, _), (5, _)]) k72_54 rfl ?_
          refine p_iincN (ls1 := [(0, _), (1, _), (2, _), (3, _), (4, _), (5, _)]) k72_55 rfl rfl ?_
          refine p_goto (tgt := 21) k72_58 (by decide) ?_
          refine p_drop [0, 1, 2, 3, 4] rfl ?_
          exact ih (k + 1) _ _ _ (by omega) (by rw [← hs]; show (fld (fBes R0 cb ce a) j (k + 1) _).1 = (fld (fBes R0 cb ce a) j (k + 1) _).1; exact congrArg (fun z => (fld (fBes R0 cb ce a) j (k + 1) z).1) (by unfold fBes; first | rw [if_pos (Int32.not_le.mp cq46)] | rw [if_neg (Int32.not_lt.mpr cq46)]))
    exact L nh 0 _ _ g (by omega) (by unfold bestM; rw [if_pos cq8, hca])
  · skip
    refine p_iconst (v := (-1)) k72_11 (by decide) ?_
    refine p_ireturn k72_12 rt_72 ?_
    exact ⟨by unfold bestM; rw [if_neg (by rw [cq8]; decide)], g, rfl⟩

set_option maxRecDepth 100000 in
set_option maxHeartbeats 4000000 in
theorem C_quarrel {d : Nat} {I : Nat → Nat → Int32} {J : Nat → Nat → Int64} {K : Nat → Nat → Option Nat} {h : List xSh} (S : St K h) {R0 : Nat → Nat → Int32} {nh na dd cb ce tw : Nat} (C : CR I K h R0 na tw) (M : MI R0 nh na dd cb ce) (Q : AR R0 nh na dd) (g : Nat → Int32) (v w z : Int32) : EvP (d + 6) 81 0 [(0, .ref (0)), (1, .int (v)), (2, .int (w)), (3, .int (z))] [] (upc I 39 g, J, K, h) (QI (fun x t => x = quarM R0 cb ce nh na v w z ∧ ∃ g, t = (upc I 39 g, J, K, h))) := by
  have hnh6 := M.nh6
  have hna6 := M.na6
  refine p_aload_n k81_0 rfl ?_
  refine p_getRv k81_1 (s_0 S) f_11_14_11 (r_0_0 S) ?_
  refine p_iload_n k81_4 rfl ?_
  refine p_cV1i k81_5 (s_1 S) c_11_151_3 rfl (Nat.le_of_ble_eq_true rfl) (C_isHat S (n := na) (show upc I 39 g 1 4 = nI na from C.hats.trans M.na) hna6 (v)) (fun x1 m1 hq => ?_)
  obtain ⟨rfl, rfl⟩ := hq
  refine p_if_eqB (tgt := 33) k81_8 (by decide) (fun cq8 => ?_) (fun cq8 => ?_)
  · skip
    refine p_sipush (v := (-10001)) k81_33 (by decide) ?_
    refine p_ireturn k81_36 rt_81 ?_
    exact ⟨by unfold quarM; rw [if_pos (by first | exact Or.inl cq8 | exact Or.inr (Or.inl cq19) | exact Or.inr (Or.inr cq30))], g, rfl⟩
  · skip
    refine p_aload_n k81_11 rfl ?_
    refine p_getRv k81_12 (s_0 S) f_11_14_11 (r_0_0 S) ?_
    refine p_iload_n k81_15 rfl ?_
    refine p_cV1i k81_16 (s_1 S) c_11_151_3 rfl (Nat.le_of_ble_eq_true rfl) (C_isHat S (n := na) (show upc I 39 g 1 4 = nI na from C.hats.trans M.na) hna6 (w)) (fun x1 m1 hq => ?_)
    obtain ⟨rfl, rfl⟩ := hq
    refine p_if_eqB (tgt := 33) k81_19 (by decide) (fun cq19 => ?_) (fun cq19 => ?_)
    · skip
      refine p_sipush (v := (-10001)) k81_33 (by decide) ?_
      refine p_ireturn k81_36 rt_81 ?_
      exact ⟨by unfold quarM; rw [if_pos (by first | exact Or.inl cq8 | exact Or.inr (Or.inl cq19) | exact Or.inr (Or.inr cq30))], g, rfl⟩
    · skip
      refine p_aload_n k81_22 rfl ?_
      refine p_getRv k81_23 (s_0 S) f_11_14_11 (r_0_0 S) ?_
      refine p_iload_n k81_26 rfl ?_
      refine p_cV1i k81_27 (s_1 S) c_11_173_3 rfl (Nat.le_of_ble_eq_true rfl) (C_isHead S (n := nh) (show upc I 39 g 1 0 = nI nh from C.heads.trans M.nh) hnh6 (z)) (fun x1 m1 hq => ?_)
      obtain ⟨rfl, rfl⟩ := hq
      refine p_if_neB (tgt := 37) k81_30 (by decide) (fun cq30 => ?_) (fun cq30 => ?_)
      · skip
        obtain ⟨a, ha, rfl⟩ := ixB_of (n := na) (by omega) cq8
        have hca := nI_clamp (n := a) (by omega)
        obtain ⟨b, hb, rfl⟩ := ixB_of (n := na) (by omega) cq19
        have hcb := nI_clamp (n := b) (by omega)
        obtain ⟨c, hc, rfl⟩ := ixB_of (n := nh) (by omega) cq30
        have hcc := nI_clamp (n := c) (by omega)
        refine p_iload_n k81_37 rfl ?_
        refine p_iload_n k81_38 rfl ?_
        refine p_icmp_ne (tgt := 46) k81_39 (by decide) (fun cq39 => ?_) (fun cq39 => ?_)
        · skip
          refine p_aload_n k81_46 rfl ?_
          refine p_iload_n k81_47 rfl ?_
          refine p_iload_n k81_48 rfl ?_
          refine p_iconst (v := nI 0) k81_49 (by decide) ?_
          refine p_cV3i k81_50 (s_0 S) c_11_176_11 rfl rfl rfl (Nat.le_of_ble_eq_true rfl) (C_deed0 S C M Q g (a := a) (hh := c) (by omega) (by omega)) (fun x1 m1 hq => ?_)
          obtain ⟨rfl, g, rfl⟩ := hq
          refine p_aload_n k81_53 rfl ?_
          refine p_iload_n k81_54 rfl ?_
          refine p_iload_n k81_55 rfl ?_
          refine p_iconst (v := nI 0) k81_56 (by decide) ?_
          refine p_cV3i k81_57 (s_0 S) c_11_176_11 rfl rfl rfl (Nat.le_of_ble_eq_true rfl) (C_deed0 S C M Q g (a := b) (hh := c) (by omega) (by omega)) (fun x1 m1 hq => ?_)
          obtain ⟨rfl, g, rfl⟩ := hq
          refine p_isub k81_60 ?_
          refine p_ireturn k81_61 rt_81 ?_
          exact ⟨by unfold quarM; rw [if_neg (by rw [cq8, cq19, cq30]; decide), hca, hcb, hcc]; first | rw [if_pos cq39] | rw [if_neg cq39], g, rfl⟩
        · skip
          refine p_sipush (v := (-10002)) k81_42 (by decide) ?_
          refine p_ireturn k81_45 rt_81 ?_
          exact ⟨by unfold quarM; rw [if_neg (by rw [cq8, cq19, cq30]; decide), hca, hcb, hcc]; first | rw [if_pos cq39] | rw [if_neg cq39], g, rfl⟩
      · skip
        refine p_sipush (v := (-10001)) k81_33 (by decide) ?_
        refine p_ireturn k81_36 rt_81 ?_
        exact ⟨by unfold quarM; rw [if_pos (by first | exact Or.inl cq8 | exact Or.inr (Or.inl cq19) | exact Or.inr (Or.inr cq30))], g, rfl⟩

set_option maxRecDepth 100000 in
set_option maxHeartbeats 4000000 in
theorem C_perHeads {d : Nat} {I : Nat → Nat → Int32} {J : Nat → Nat → Int64} {K : Nat → Nat → Option Nat} {h : List xSh} (S : St K h) {R0 : Nat → Nat → Int32} {nh na dd cb ce tw : Nat} (C : CR I K h R0 na tw) (M : MI R0 nh na dd cb ce) (Q : AR R0 nh na dd) (g : Nat → Int32) {n : Nat} (hn : n < 20000) (p : Int32) : EvP (d + 1) 127 0 [(0, .ref (0)), (1, .int (nI (n))), (2, .int (p))] [] (upc I 39 g, J, K, h) (QL (fun x t => x = (if inB p (nI 0) (nI 1) = false ∨ nh = 0 then -9223372036854775808 else lowM n nh p) ∧ t = (upc I 39 g, J, K, h))) := by
  have hnh6 := M.nh6
  have hna6 := M.na6
  refine p_iload_n k127_0 rfl ?_
  refine p_iconst (v := nI 0) k127_1 (by decide) ?_
  refine p_iconst (v := nI 1) k127_2 (by decide) ?_
  refine p_cS3i k127_3 c_11_101 rfl rfl rfl (Nat.le_of_ble_eq_true rfl) (C_within S (p) (nI (0)) (nI (1))) (fun x1 m1 hq => ?_)
  obtain ⟨rfl, rfl⟩ := hq
  refine p_if_neB (tgt := 13) k127_6 (by decide) (fun cq6 => ?_) (fun cq6 => ?_)
  · skip
    refine p_aload_n k127_13 rfl ?_
    refine p_getRv k127_14 (s_0 S) f_11_14_11 (r_0_0 S) ?_
    refine p_getIv k127_17 (s_1 S) f_11_89_3 (show _ = nI nh from C.heads.trans M.nh) ?_
    refine p_istore_n (ls' := [(0, _), (1, _), (2, _), (3, _)]) k127_20 rfl ?_
    have L : ∀ (j : Nat) (by9 : Nat), by9 = j → j ≤ nh → (0 < nh → Nat.gcd n nh ≤ j) → EvP (d + 1) 127 21 [(0, .ref (0)), (1, .int (nI (n))), (2, .int (p)), (3, .int (nI (by9)))] [] (upc I 39 g, J, K, h) (QL (fun x t => x = (if inB p (nI 0) (nI 1) = false ∨ nh = 0 then -9223372036854775808 else lowM n nh p) ∧ t = (upc I 39 g, J, K, h))) := by
      intro j
      induction j with
      | zero =>
        intro by9 hk
        intro hj hg2
        · skip
          subst hk
          have hn0 : nh = 0 := by by_cases z : nh = 0; exact z; exact absurd (hg2 (by omega)) (by have := Nat.gcd_pos_of_pos_right n (show 0 < nh by omega); omega)
          refine p_iload_n k127_21 rfl ?_
          refine p_if_leN (tgt := 68) k127_22 (by decide) (by omega) (fun _ => ?_) (fun c => False.elim (by omega))
          refine p_ldc2 (v := (-9223372036854775808)) k127_68 (by decide) ?_
          refine p_lreturn k127_71 rt_127 ?_
          exact ⟨by rw [if_pos (Or.inr hn0)], rfl⟩
      | succ j ih =>
        intro by9 hk
        intro hj hg2
        · skip
          subst hk
          refine p_iload_n k127_21 rfl ?_
          refine p_if_leN (tgt := 68) k127_22 (by decide) (by omega) (fun c => False.elim (by omega)) (fun _ => ?_)
          refine p_iload_n k127_25 rfl ?_
          refine p_iload_n k127_26 rfl ?_
          refine p_iremN (by omega) (by omega) (by omega) k127_27 ?_
          have hm1 := Nat.mod_lt n (show 0 < j + 1 by omega)
          refine p_if_neN (tgt := 62) k127_28 (by decide) (by omega) (fun cq28 => ?_) (fun cq28 => ?_)
          · skip
            refine p_iincD (ls1 := [(0, _), (1, _), (2, _), (3, _)]) k127_62 rfl rfl ?_
            refine p_goto (tgt := 21) k127_65 (by decide) ?_
            refine ih j rfl (by omega) (fun h0 => ?_)
            have h1 := hg2 h0
            have hd1 := Nat.gcd_dvd_left n nh
            have hd2 := Nat.gcd_dvd_right n nh
            have : Nat.gcd n nh ≠ j + 1 := by
              intro e
              rw [e] at hd1 hd2
              first | exact cq28 (Nat.mod_eq_zero_of_dvd hd1) | exact cq40 (Nat.mod_eq_zero_of_dvd hd2)
            omega
          · skip
            refine p_aload_n k127_31 rfl ?_
            refine p_getRv k127_32 (s_0 S) f_11_14_11 (r_0_0 S) ?_
            refine p_getIv k127_35 (s_1 S) f_11_89_3 (show _ = nI nh from C.heads.trans M.nh) ?_
            refine p_iload_n k127_38 rfl ?_
            refine p_iremN (by omega) (by omega) (by omega) k127_39 ?_
            have hm2 := Nat.mod_lt nh (show 0 < j + 1 by omega)
            refine p_if_neN (tgt := 62) k127_40 (by decide) (by omega) (fun cq40 => ?_) (fun cq40 => ?_)
            · skip
              refine p_iincD (ls1 := [(0, _), (1, _), (2, _), (3, _)]) k127_62 rfl rfl ?_
              refine p_goto (tgt := 21) k127_65 (by decide) ?_
              refine ih j rfl (by omega) (fun h0 => ?_)
              have h1 := hg2 h0
              have hd1 := Nat.gcd_dvd_left n nh
              have hd2 := Nat.gcd_dvd_right n nh
              have : Nat.gcd n nh ≠ j + 1 := by
                intro e
                rw [e] at hd1 hd2
                first | exact cq28 (Nat.mod_eq_zero_of_dvd hd1) | exact cq40 (Nat.mod_eq_zero_of_dvd hd2)
              omega
            · skip
              have hge : Nat.gcd n nh = j + 1 := Nat.le_antisymm (hg2 (by omega)) (Nat.le_of_dvd (Nat.gcd_pos_of_pos_right n (by omega)) (Nat.dvd_gcd (Nat.dvd_of_mod_eq_zero cq28) (Nat.dvd_of_mod_eq_zero cq40)))
              refine p_iload_n k127_43 rfl ?_
              refine p_if_ne (tgt := 51) k127_44 (by decide) (fun cq44 => ?_) (fun cq44 => ?_)
              · skip
                refine p_aload_n k127_51 rfl ?_
                refine p_getRv k127_52 (s_0 S) f_11_14_11 (r_0_0 S) ?_
                refine p_getIv k127_55 (s_1 S) f_11_89_3 (show _ = nI nh from C.heads.trans M.nh) ?_
                refine p_iload_n k127_58 rfl ?_
                refine p_idivN (by omega) (by omega) (by omega) k127_59 ?_
                refine p_i2l k127_60 ?_
                refine p_lreturn k127_61 rt_127 ?_
                exact ⟨by rw [if_neg (fun z => z.elim (fun z => by rw [cq6] at z; cases z) (fun z => absurd z (by omega)))]; unfold lowM; rw [hge]; first | rw [if_pos cq44] | rw [if_neg cq44], rfl⟩
              · skip
                refine p_iload_n k127_47 rfl ?_
                refine p_goto (tgt := 58) k127_48 (by decide) ?_
                refine p_iload_n k127_58 rfl ?_
                refine p_idivN (by omega) (by omega) (by omega) k127_59 ?_
                refine p_i2l k127_60 ?_
                refine p_lreturn k127_61 rt_127 ?_
                exact ⟨by rw [if_neg (fun z => z.elim (fun z => by rw [cq6] at z; cases z) (fun z => absurd z (by omega)))]; unfold lowM; rw [hge]; first | rw [if_pos cq44] | rw [if_neg cq44], rfl⟩
    exact L nh nh rfl (Nat.le_refl _) (fun h0 => Nat.gcd_le_right n h0)
  · skip
    refine p_ldc2 (v := (-9223372036854775808)) k127_9 (by decide) ?_
    refine p_lreturn k127_12 rt_127 ?_
    exact ⟨by rw [if_pos (Or.inl cq6)], rfl⟩

set_option maxRecDepth 100000 in
set_option maxHeartbeats 4000000 in
theorem C_odds {d : Nat} {I : Nat → Nat → Int32} {J : Nat → Nat → Int64} {K : Nat → Nat → Option Nat} {h : List xSh} (S : St K h) {R0 : Nat → Nat → Int32} {nh na dd cb ce tw : Nat} (C : CR I K h R0 na tw) (M : MI R0 nh na dd cb ce) (Q : AR R0 nh na dd) (g : Nat → Int32) (q p : Int32) : EvP (d + 8) 86 0 [(0, .ref (0)), (1, .int (q)), (2, .int (p))] [] (upc I 39 g, J, K, h) (QL (fun x t => x = oddM R0 nh cb ce q p ∧ ∃ g, t = (upc I 39 g, J, K, h))) := by
  have hnh6 := M.nh6
  have hna6 := M.na6
  refine p_iload_n k86_0 rfl ?_
  refine p_cS1i k86_1 c_11_105 rfl (Nat.le_of_ble_eq_true rfl) (C_isTrade S (q)) (fun x1 m1 hq => ?_)
  obtain ⟨rfl, rfl⟩ := hq
  refine p_if_neB (tgt := 11) k86_4 (by decide) (fun cq4 => ?_) (fun cq4 => ?_)
  · skip
    refine p_iconst (v := nI 0) k86_11 (by decide) ?_
    refine p_istore_n (ls' := [(0, _), (1, _), (2, _), (3, _)]) k86_12 rfl ?_
    refine p_iconst (v := nI 0) k86_13 (by decide) ?_
    refine p_istore (ls' := [(0, _), (1, _), (2, _), (3, _), (4, _)]) k86_14 rfl ?_
    have L : ∀ (j : Nat) (k n : Nat) (g : Nat → Int32), k + j = nh → n + j ≤ 6 → fld (fOdd R0 nh cb ce q) j k n = fld (fOdd R0 nh cb ce q) nh 0 0 → EvP (d + 8) 86 16 [(0, .ref (0)), (1, .int (q)), (2, .int (p)), (3, .int (nI (n))), (4, .int (nI (k)))] [] (upc I 39 g, J, K, h) (QL (fun x t => x = oddM R0 nh cb ce q p ∧ ∃ g, t = (upc I 39 g, J, K, h))) := by
      intro j
      induction j with
      | zero =>
        intro k n g hk
        intro hn6 hs
        refine p_iload k86_16 rfl ?_
        refine p_aload_n k86_18 rfl ?_
        refine p_getRv k86_19 (s_0 S) f_11_14_11 (r_0_0 S) ?_
        refine p_getIv k86_22 (s_1 S) f_11_89_3 (show _ = nI nh from C.heads.trans M.nh) ?_
        refine p_icmp_geN (tgt := 48) k86_25 (by decide) (by omega) (by omega) (fun _ => ?_) (fun c => False.elim (by omega))
        refine p_aload_n k86_48 rfl ?_
        refine p_iload_n k86_49 rfl ?_
        refine p_iload_n k86_50 rfl ?_
        refine p_cV2l k86_51 (s_0 S) c_11_277_11 rfl rfl (Nat.le_of_ble_eq_true rfl) (C_perHeads S C M Q g (n := n) (by omega) p) (fun x1 m1 hq => ?_)
        obtain ⟨rfl, rfl⟩ := hq
        refine p_lreturn k86_54 rt_86 ?_
        exact ⟨by unfold oddM; rw [← hs]; by_cases z : inB p (nI 0) (nI 1) = false ∨ nh = 0; rw [if_pos z, if_pos (Or.inr z)]; rw [if_neg z, if_neg (fun y => y.elim (fun y => by rw [cq4] at y; cases y) z)]; rfl, g, rfl⟩
      | succ j ih =>
        intro k n g hk
        intro hn6 hs
        refine p_iload k86_16 rfl ?_
        refine p_aload_n k86_18 rfl ?_
        refine p_getRv k86_19 (s_0 S) f_11_14_11 (r_0_0 S) ?_
        refine p_getIv k86_22 (s_1 S) f_11_89_3 (show _ = nI nh from C.heads.trans M.nh) ?_
        refine p_icmp_geN (tgt := 48) k86_25 (by decide) (by omega) (by omega) (fun c => False.elim (by omega)) (fun _ => ?_)
        refine p_aload_n k86_28 rfl ?_
        refine p_iload_n k86_29 rfl ?_
        refine p_iload k86_30 rfl ?_
        refine p_iconst (v := nI 0) k86_32 (by decide) ?_
        refine p_cV3i k86_33 (s_0 S) c_11_225_11 rfl rfl rfl (Nat.le_of_ble_eq_true rfl) (C_isEnough S C M Q g (AHD.zero M Q) (gg := k) (by omega) q) (fun x1 m1 hq => ?_)
        rw [totC_gus M.nh6 (show k < 6 by omega) (Or.inr cq4)] at hq
        obtain ⟨rfl, g, rfl⟩ := hq
        refine p_if_eqB (tgt := 42) k86_36 (by decide) (fun cq36 => ?_) (fun cq36 => ?_)
        · skip
          refine p_iincN (ls1 := [(0, _), (1, _), (2, _), (3, _), (4, _)]) k86_42 rfl rfl ?_
          refine p_goto (tgt := 16) k86_45 (by decide) ?_
          exact ih (k + 1) _ _ (by omega) (by omega) (by rw [← hs]; exact congrArg (fld (fOdd R0 nh cb ce q) j (k + 1)) (by unfold fOdd; first | (rw [if_neg (fun z => by rw [decide_eq_true z] at cq36; cases cq36)]; done) | (rw [if_pos (by by_cases z : gusM R0 k nh cb ce q < workF R0 cb ce q; exact z; rw [decide_eq_false z] at cq36; cases cq36)]; rfl)))
        · skip
          refine p_iincN (ls1 := [(0, _), (1, _), (2, _), (3, _), (4, _)]) k86_39 rfl rfl ?_
          refine p_iincN (ls1 := [(0, _), (1, _), (2, _), (3, _), (4, _)]) k86_42 rfl rfl ?_
          refine p_goto (tgt := 16) k86_45 (by decide) ?_
          exact ih (k + 1) _ _ (by omega) (by omega) (by rw [← hs]; exact congrArg (fld (fOdd R0 nh cb ce q) j (k + 1)) (by unfold fOdd; first | (rw [if_neg (fun z => by rw [decide_eq_true z] at cq36; cases cq36)]; done) | (rw [if_pos (by by_cases z : gusM R0 k nh cb ce q < workF R0 cb ce q; exact z; rw [decide_eq_false z] at cq36; cases cq36)]; rfl)))
    exact L nh 0 0 g (by omega) (by omega) rfl
  · skip
    refine p_ldc2 (v := (-9223372036854775808)) k86_7 (by decide) ?_
    refine p_lreturn k86_10 rt_86 ?_
    exact ⟨by unfold oddM; rw [if_pos (Or.inl cq4)], g, rfl⟩

set_option maxRecDepth 100000 in
set_option maxHeartbeats 4000000 in
theorem C_mean {d : Nat} {I : Nat → Nat → Int32} {J : Nat → Nat → Int64} {K : Nat → Nat → Option Nat} {h : List xSh} (S : St K h) {R0 : Nat → Nat → Int32} {nh na dd cb ce tw : Nat} (C : CR I K h R0 na tw) (M : MI R0 nh na dd cb ce) (Q : AR R0 nh na dd) (g : Nat → Int32) (hD : DB R0 cb ce nh na) (v p : Int32) : EvP (d + 6) 87 0 [(0, .ref (0)), (1, .int (v)), (2, .int (p))] [] (upc I 39 g, J, K, h) (QL (fun x t => x = meaM R0 nh na cb ce v p ∧ ∃ g, t = (upc I 39 g, J, K, h))) := by
  have hnh6 := M.nh6
  have hna6 := M.na6
  refine p_aload_n k87_0 rfl ?_
  refine p_getRv k87_1 (s_0 S) f_11_14_11 (r_0_0 S) ?_
  refine p_iload_n k87_4 rfl ?_
  refine p_cV1i k87_5 (s_1 S) c_11_151_3 rfl (Nat.le_of_ble_eq_true rfl) (C_isHat S (n := na) (show upc I 39 g 1 4 = nI na from C.hats.trans M.na) hna6 (v)) (fun x1 m1 hq => ?_)
  obtain ⟨rfl, rfl⟩ := hq
  refine p_if_neB (tgt := 15) k87_8 (by decide) (fun cq8 => ?_) (fun cq8 => ?_)
  · skip
    refine p_iconst (v := nI 0) k87_15 (by decide) ?_
    refine p_istore_n (ls' := [(0, _), (1, _), (2, _), (3, _)]) k87_16 rfl ?_
    refine p_iconst (v := nI 0) k87_17 (by decide) ?_
    refine p_istore (ls' := [(0, _), (1, _), (2, _), (3, _), (4, _)]) k87_18 rfl ?_
    obtain ⟨a, ha, rfl⟩ := ixB_of (n := na) (by omega) cq8
    have hca := nI_clamp (n := a) (by omega)
    have L : ∀ (j : Nat) (k n : Nat) (g : Nat → Int32), k + j = nh → n + 2000 * j ≤ 12000 → fld (fMea R0 cb ce a) j k n = fld (fMea R0 cb ce a) nh 0 0 → EvP (d + 6) 87 20 [(0, .ref (0)), (1, .int (nI (a))), (2, .int (p)), (3, .int (nI (n))), (4, .int (nI (k)))] [] (upc I 39 g, J, K, h) (QL (fun x t => x = meaM R0 nh na cb ce (nI a) p ∧ ∃ g, t = (upc I 39 g, J, K, h))) := by
      intro j
      induction j with
      | zero =>
        intro k n g hk
        intro hn6 hs
        refine p_iload k87_20 rfl ?_
        refine p_aload_n k87_22 rfl ?_
        refine p_getRv k87_23 (s_0 S) f_11_14_11 (r_0_0 S) ?_
        refine p_getIv k87_26 (s_1 S) f_11_89_3 (show _ = nI nh from C.heads.trans M.nh) ?_
        refine p_icmp_geN (tgt := 49) k87_29 (by decide) (by omega) (by omega) (fun _ => ?_) (fun c => False.elim (by omega))
        refine p_aload_n k87_49 rfl ?_
        refine p_iload_n k87_50 rfl ?_
        refine p_iload_n k87_51 rfl ?_
        refine p_cV2l k87_52 (s_0 S) c_11_277_11 rfl rfl (Nat.le_of_ble_eq_true rfl) (C_perHeads S C M Q g (n := n) (by omega) p) (fun x1 m1 hq => ?_)
        obtain ⟨rfl, rfl⟩ := hq
        refine p_lreturn k87_55 rt_87 ?_
        exact ⟨by unfold meaM; rw [hca, ← hs]; by_cases z : inB p (nI 0) (nI 1) = false ∨ nh = 0; rw [if_pos z, if_pos (Or.inr z)]; rw [if_neg z, if_neg (fun y => y.elim (fun y => by rw [cq8] at y; cases y) z)]; rfl, g, rfl⟩
      | succ j ih =>
        intro k n g hk
        intro hn6 hs
        refine p_iload k87_20 rfl ?_
        refine p_aload_n k87_22 rfl ?_
        refine p_getRv k87_23 (s_0 S) f_11_14_11 (r_0_0 S) ?_
        refine p_getIv k87_26 (s_1 S) f_11_89_3 (show _ = nI nh from C.heads.trans M.nh) ?_
        refine p_icmp_geN (tgt := 49) k87_29 (by decide) (by omega) (by omega) (fun c => False.elim (by omega)) (fun _ => ?_)
        refine p_iload_n k87_32 rfl ?_
        refine p_aload_n k87_33 rfl ?_
        refine p_iload_n k87_34 rfl ?_
        refine p_iload k87_35 rfl ?_
        refine p_iconst (v := nI 0) k87_37 (by decide) ?_
        refine p_cV3i k87_38 (s_0 S) c_11_176_11 rfl rfl rfl (Nat.le_of_ble_eq_true rfl) (C_deed0 S C M Q g (a := a) (hh := k) (by omega) (by omega)) (fun x1 m1 hq => ?_)
        obtain ⟨rfl, g, rfl⟩ := hq
        obtain ⟨m, hm2, hme⟩ := hD a k (by omega) (by omega)
        have hcm : (deedM R0 cb ce a k).toNatClampNeg = m := by rw [hme, nI_clamp (by omega)]
        rw [hme]
        refine p_iaddN k87_41 ?_
        refine p_istore_n (ls' := [(0, _), (1, _), (2, _), (3, _), (4, _)]) k87_42 rfl ?_
        refine p_iincN (ls1 := [(0, _), (1, _), (2, _), (3, _), (4, _)]) k87_43 rfl rfl ?_
        refine p_goto (tgt := 20) k87_46 (by decide) ?_
        exact ih (k + 1) _ _ (by omega) (by omega) (by rw [← hs]; exact congrArg (fld (fMea R0 cb ce a) j (k + 1)) (by unfold fMea; rw [hcm]))
    exact L nh 0 0 g (by omega) (by omega) rfl
  · skip
    refine p_ldc2 (v := (-9223372036854775808)) k87_11 (by decide) ?_
    refine p_lreturn k87_14 rt_87 ?_
    exact ⟨by unfold meaM; rw [if_pos (Or.inl cq8)], g, rfl⟩

