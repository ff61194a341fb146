/-! the class: on, lasts -/
theorem goA {w : Nat → Int32} {mu : Int32} {nh na a k0 x : Nat} (hd : ∀ k, k < nh → w k = nI a → k = k0) (h0 : w k0 = nI a) (hna : na ≤ 6) (ha : a < na) (hm : mu = 2000000000) (hx : x < 30000) (hw : ∀ k, k < nh → w k = -1 ∨ ∃ b, b < na ∧ w k = nI b) : ∀ (j k : Nat) (u : Nat → Int32), k + j = nh → k0 < nh → u a = nI (if k ≤ k0 then x else x + 1) → fld (fGo w mu) j k u a = nI (x + 1) := by
  intro j
  induction j with
  | zero => intro k u hk hk0 hu; rw [if_neg (by omega)] at hu; exact hu
  | succ j ih =>
    intro k u hk hk0 hu
    show fld (fGo w mu) j (k + 1) (fGo w mu k u) a = _
    refine ih (k + 1) _ (by omega) hk0 ?_
    unfold fGo
    rcases hw k (by omega) with e | ⟨b, hb, e⟩
    · have hne : k ≠ k0 := fun z => by subst z; exact nI_neg (v := a) (by omega) (by decide) (h0.symm.trans e)
      rw [if_pos (by rw [e]; decide), hu]
      by_cases h : k ≤ k0
      · rw [if_pos h, if_pos (by omega)]
      · rw [if_neg h, if_neg (by omega)]
    · rw [if_neg (by rw [e, i_lt, nI_t (by omega)]; show ¬ (b : Int) < 0; omega), e, nI_clamp (by omega)]
      by_cases hba : b = a
      · subst hba
        have hkk := hd k (by omega) e
        subst hkk
        rw [upc_eq, hu, if_pos (Nat.le_refl _), if_neg (Nat.not_succ_le_self k), if_neg]
        · exact (nI_succ x).symm
        · rw [hm, i_le, nI_t (by omega)]
          show ¬ (2000000000 : Int) ≤ _
          omega
      · have hne : k ≠ k0 := fun z => by subst z; exact hba (nI_inj (by omega) (by omega) (e.symm.trans h0))
        rw [upc_ne _ _ (Ne.symm hba), hu]
        by_cases h : k ≤ k0
        · rw [if_pos h, if_pos (by omega)]
        · rw [if_neg h, if_neg (by omega)]
theorem dS_AHD {R0 : Nat → Nat → Int32} {nh na dd cb ce n : Nat} (M : MI R0 nh na dd cb ce) (Q : AR R0 nh na dd) (hn : n ≤ 40) : AHD R0 (dS R0 nh n) nh na dd n := by
  have hdd := Q.dd9
  have hna6 := M.na6
  obtain ⟨f1, f2, f3, f4⟩ := dS_facts M n (by omega)
  have hsv : ∀ c, 99 ≤ c → c < 119 → svI R0 c = R0 c := by
    intro c h1 h2
    unfold svI s1
    rw [upc_ne _ _ (by omega), upc_ne _ _ (by omega), upc_ne _ _ (by omega), upc_ne _ _ (by omega)]
  refine ⟨fun c h1 h2 h3 => (f2 c (by omega) h3).trans (hsv c h1 h2), f1.dd, by omega, fun a k ha hk e => ?_⟩
  obtain ⟨u, hu9, hu⟩ := Q.used a ha
  refine ⟨u, hu, ?_, by omega⟩
  clear f1 f2 f3 f4
  induction n with
  | zero => exact (hsv 107 (by decide) (by decide) ▸ hu : svI R0 107 a = nI u)
  | succ n ih =>
    obtain ⟨f1, f2, f3, f4⟩ := dS_facts M n (by omega)
    show goU (dS R0 nh n) nh a = _
    unfold goU
    rw [f2 101 (by decide) (by decide), hsv 101 (by decide) (by decide)]
    exact goA (k0 := k) (x := u + n) (fun k2 h2 e2 => Q.dist k2 k a h2 hk ha e2 e) e hna6 ha (f3 33 (by decide)) (by omega) M.worn nh 0 _ (by omega) hk (by rw [if_pos (Nat.zero_le k)]; exact ih (by omega))
set_option maxRecDepth 100000 in
set_option maxHeartbeats 4000000 in
theorem C_on {d : Nat} {I : Nat → Nat → Int32} {J : Nat → Nat → Int64} {K : Nat → Nat → Option Nat} {h : List xSh} (S : St K h) {R0 : Nat → Nat → Int32} {nh na dd cb ce tw : Nat} (C : CR I K h R0 na tw) (M : MI R0 nh na dd cb ce) (Q : AR R0 nh na dd) (g : Nat → Int32) (q w : Int32) : EvP (d + 7) 73 0 [(0, .ref (0)), (1, .int (q)), (2, .int (w))] [] (upc I 39 g, J, K, h) (QI (fun x t => x = onM R0 nh cb ce q w ∧ ∃ g, t = (upc I 39 g, J, K, h))) := by
  have hnh6 := M.nh6
  have hna6 := M.na6
  refine p_iload_n k73_0 rfl ?_
  refine p_cS1i k73_1 c_11_105 rfl (Nat.le_of_ble_eq_true rfl) (C_isTrade S (q)) (fun x1 m1 hq => ?_)
  obtain ⟨rfl, rfl⟩ := hq
  refine p_if_neB (tgt := 9) k73_4 (by decide) (fun cq4 => ?_) (fun cq4 => ?_)
  · skip
    refine p_iload_n k73_9 rfl ?_
    refine p_iconst (v := nI 0) k73_10 (by decide) ?_
    refine p_bipush (v := nI 30) k73_11 (by decide) ?_
    refine p_cS3i k73_13 c_11_101 rfl rfl rfl (Nat.le_of_ble_eq_true rfl) (C_within S (w) (nI (0)) (nI (30))) (fun x1 m1 hq => ?_)
    obtain ⟨rfl, rfl⟩ := hq
    refine p_if_neB (tgt := 22) k73_16 (by decide) (fun cq16 => ?_) (fun cq16 => ?_)
    · skip
      refine p_iconst (v := nI 0) k73_22 (by decide) ?_
      refine p_istore_n (ls' := [(0, _), (1, _), (2, _), (3, _)]) k73_23 rfl ?_
      refine p_iconst (v := nI 0) k73_24 (by decide) ?_
      refine p_istore (ls' := [(0, _), (1, _), (2, _), (3, _), (4, _)]) k73_25 rfl ?_
      obtain ⟨n, hn, rfl⟩ := inB_of0 (by decide) cq16
      have hcn := nI_clamp (n := n) (by omega)
      have L : ∀ (j : Nat) (k : Nat) (s : Int32) (g : Nat → Int32), k + j = n → fld (fOn R0 nh cb ce q) j k s = fld (fOn R0 nh cb ce q) n 0 (nI 0) → EvP (d + 7) 73 27 [(0, .ref (0)), (1, .int (q)), (2, .int (nI (n))), (3, .int (s)), (4, .int (nI (k)))] [] (upc I 39 g, J, K, h) (QI (fun x t => x = onM R0 nh cb ce q (nI n) ∧ ∃ g, t = (upc I 39 g, J, K, h))) := by
        intro j
        induction j with
        | zero =>
          intro k s g hk
          intro hs
          refine p_iload k73_27 rfl ?_
          refine p_iload_n k73_29 rfl ?_
          refine p_icmp_geN (tgt := 50) k73_30 (by decide) (by omega) (by omega) (fun _ => ?_) (fun c => False.elim (by omega))
          refine p_iload_n k73_50 rfl ?_
          refine p_ireturn k73_51 rt_73 ?_
          exact ⟨by unfold onM; rw [if_neg (by rw [cq4]; decide), if_neg (by rw [cq16]; decide), hcn, ← hs]; rfl, g, rfl⟩
        | succ j ih =>
          intro k s g hk
          intro hs
          refine p_iload k73_27 rfl ?_
          refine p_iload_n k73_29 rfl ?_
          refine p_icmp_geN (tgt := 50) k73_30 (by decide) (by omega) (by omega) (fun c => False.elim (by omega)) (fun _ => ?_)
          refine p_iload_n k73_33 rfl ?_
          refine p_aload_n k73_34 rfl ?_
          refine p_iload_n k73_35 rfl ?_
          refine p_iconst (v := nI 0) k73_36 (by decide) ?_
          refine p_iload k73_37 rfl ?_
          refine p_cV3i k73_39 (s_0 S) c_11_206_11 rfl rfl rfl (Nat.le_of_ble_eq_true rfl) (C_total S C M Q g (dS_AHD M Q (n := k) (by omega)) (gg := 0) (by omega) q) (fun x1 m1 hq => ?_)
          rw [totC_0 (Or.inr cq4)] at hq
          obtain ⟨rfl, g, rfl⟩ := hq
          refine p_iadd k73_42 ?_
          refine p_istore_n (ls' := [(0, _), (1, _), (2, _), (3, _), (4, _)]) k73_43 rfl ?_
          refine p_iincN (ls1 := [(0, _), (1, _), (2, _), (3, _), (4, _)]) k73_44 rfl rfl ?_
          refine p_goto (tgt := 27) k73_47 (by decide) ?_
          exact ih (k + 1) _ g (by omega) hs
      exact L n 0 _ g (by omega) rfl
    · skip
      refine p_bipush (v := (-2)) k73_19 (by decide) ?_
      refine p_ireturn k73_21 rt_73 ?_
      exact ⟨by unfold onM; rw [if_neg (by rw [cq4]; decide), if_pos cq16], g, rfl⟩
  · skip
    refine p_iconst (v := (-1)) k73_7 (by decide) ?_
    refine p_ireturn k73_8 rt_73 ?_
    exact ⟨by unfold onM; rw [if_pos cq4], g, rfl⟩

set_option maxRecDepth 100000 in
set_option maxHeartbeats 4000000 in
theorem C_lasts {d : Nat} {I : Nat → Nat → Int32} {J : Nat → Nat → Int64} {K : Nat → Nat → Option Nat} {h : List xSh} (S : St K h) {R0 : Nat → Nat → Int32} {nh na dd cb ce tw : Nat} (C : CR I K h R0 na tw) (M : MI R0 nh na dd cb ce) (Q : AR R0 nh na dd) (g : Nat → Int32) (q : Int32) : EvP (d + 8) 74 0 [(0, .ref (0)), (1, .int (q))] [] (upc I 39 g, J, K, h) (QI (fun x t => x = lasM R0 nh cb ce q ∧ ∃ g, t = (upc I 39 g, J, K, h))) := by
  have hnh6 := M.nh6
  have hna6 := M.na6
  refine p_iload_n k74_0 rfl ?_
  refine p_cS1i k74_1 c_11_105 rfl (Nat.le_of_ble_eq_true rfl) (C_isTrade S (q)) (fun x1 m1 hq => ?_)
  obtain ⟨rfl, rfl⟩ := hq
  refine p_if_neB (tgt := 9) k74_4 (by decide) (fun cq4 => ?_) (fun cq4 => ?_)
  · skip
    refine p_iconst (v := nI 0) k74_9 (by decide) ?_
    refine p_istore_n (ls' := [(0, _), (1, _), (2, _)]) k74_10 rfl ?_
    have L : ∀ (j : Nat) (k : Nat) (g : Nat → Int32), k + j = 31 → optI (-5) (fnd (fun k => decide (todM (dS R0 nh k) cb ce nh q < workF R0 cb ce q)) j k) = optI (-5) (fnd (fun k => decide (todM (dS R0 nh k) cb ce nh q < workF R0 cb ce q)) 31 0) → EvP (d + 8) 74 11 [(0, .ref (0)), (1, .int (q)), (2, .int (nI (k)))] [] (upc I 39 g, J, K, h) (QI (fun x t => x = lasM R0 nh cb ce q ∧ ∃ g, t = (upc I 39 g, J, K, h))) := by
      intro j
      induction j with
      | zero =>
        intro k g hk
        intro hs
        refine p_iload_n k74_11 rfl ?_
        refine p_bipush (v := nI 30) k74_12 (by decide) ?_
        refine p_icmp_gtN (tgt := 35) k74_14 (by decide) (by omega) (by omega) (fun _ => ?_) (fun c => False.elim (by omega))
        refine p_bipush (v := (-5)) k74_35 (by decide) ?_
        refine p_ireturn k74_37 rt_74 ?_
        exact ⟨by unfold lasM; rw [if_neg (by rw [cq4]; decide), ← hs]; rfl, g, rfl⟩
      | succ j ih =>
        intro k g hk
        intro hs
        refine p_iload_n k74_11 rfl ?_
        refine p_bipush (v := nI 30) k74_12 (by decide) ?_
        refine p_icmp_gtN (tgt := 35) k74_14 (by decide) (by omega) (by omega) (fun c => False.elim (by omega)) (fun _ => ?_)
        refine p_aload_n k74_17 rfl ?_
        refine p_iload_n k74_18 rfl ?_
        refine p_iconst (v := nI 0) k74_19 (by decide) ?_
        refine p_iload_n k74_20 rfl ?_
        refine p_cV3i k74_21 (s_0 S) c_11_225_11 rfl rfl rfl (Nat.le_of_ble_eq_true rfl) (C_isEnough S C M Q g (dS_AHD M Q (n := k) (by omega)) (gg := 0) (by omega) q) (fun x1 m1 hq => ?_)
        rw [totC_0 (Or.inr cq4)] at hq
        obtain ⟨rfl, g, rfl⟩ := hq
        refine p_if_neB (tgt := 29) k74_24 (by decide) (fun cq24 => ?_) (fun cq24 => ?_)
        · skip
          refine p_iincN (ls1 := [(0, _), (1, _), (2, _)]) k74_29 rfl rfl ?_
          refine p_goto (tgt := 11) k74_32 (by decide) ?_
          have hP : ¬ (fun k => decide (todM (dS R0 nh k) cb ce nh q < workF R0 cb ce q)) k = true := by
            intro z
            have z2 : decide _ = true := z
            rw [z2] at cq24
            cases cq24
          exact ih (k + 1) g (by omega) (by rw [← hs]; exact (congrArg (optI (-5)) (if_neg hP)).symm)
        · skip
          refine p_iload_n k74_27 rfl ?_
          refine p_ireturn k74_28 rt_74 ?_
          have hP : (fun k => decide (todM (dS R0 nh k) cb ce nh q < workF R0 cb ce q)) k = true := by
            show decide _ = true
            cases z : decide (todM (dS R0 nh k) cb ce nh q < workF R0 cb ce q)
            · rw [z] at cq24; cases cq24
            · rfl
          exact ⟨by unfold lasM; rw [if_neg (by rw [cq4]; decide), ← hs, show fnd (fun k => decide (todM (dS R0 nh k) cb ce nh q < workF R0 cb ce q)) (j + 1) k = some k from if_pos hP]; rfl, g, rfl⟩
    exact L 31 0 g (by omega) rfl
  · skip
    refine p_iconst (v := (-1)) k74_7 (by decide) ?_
    refine p_ireturn k74_8 rt_74 ?_
    exact ⟨by unfold lasM; rw [if_pos cq4], g, rfl⟩

