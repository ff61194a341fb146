/-! the class: day -/
theorem CR.day9 {I R : Nat → Nat → Int32} {K : Nat → Nat → Option Nat} {h : List xSh} {na tw : Nat} (C : CR I K h R na tw) (u : Nat → Int32) : CR (upc I 9 u) K h (upc R 109 u) na tw :=
  C.fr (R2 := upc R 109 u) ⟨C.heads, C.hats, C.day, C.seen, C.booked, C.town, C.a2, C.a3, C.a4, C.a6, C.a7, C.a8, rfl, C.a10, C.a11, C.a12, C.a13⟩ (fun c h1 h2 => upc_ne _ _ (by omega)) (fun c h1 => upc_ne _ _ (by omega)) rfl
theorem CE.dayE {I R : Nat → Nat → Int32} {K : Nat → Nat → Option Nat} {h : List xSh} {nh na dd cb ce : Nat} (E : CE I R) (M : MI R nh na dd cb ce) {D U g : Nat → Int32} (hU : U = fld (fGo (R 101) (R 98 33)) nh 0 (R 107)) : CE (s1 (upc (upc (upc I 9 D) 7 U) 39 g) 1 9 (nI (dd + 1))) (goI (upc R 109 D) nh) := by
  subst hU
  exact ⟨E.heads, E.hats, (by show nI (dd + 1) = R 98 2 + nI 1; rw [M.dd]; exact (nI_add dd 1).symm), E.seen, E.booked, E.town, E.a2, E.a3, E.a4, E.a6, rfl, E.a8, rfl, E.a10, E.a11, E.a12, E.a13⟩
theorem FRS.day (I : Nat → Nat → Int32) (D U g : Nat → Int32) (v : Int32) : FRS I (s1 (upc (upc (upc I 9 D) 7 U) 39 g) 1 9 v) := by
  refine ⟨fun c h1 h2 => ?_, fun k h1 h2 h3 h4 h5 h6 => ?_⟩
  · unfold s1
    rw [upc_ne _ _ (by omega), upc_ne _ _ (by omega), upc_ne _ _ (by omega), upc_ne _ _ (by omega)]
  · unfold s1
    rw [upc_eq, upc_ne _ _ h3]
    rfl
theorem FRS.g39 (I : Nat → Nat → Int32) (g : Nat → Int32) : FRS I (upc I 39 g) := ⟨fun c h1 h2 => upc_ne _ _ (by omega), fun _ _ _ _ _ _ _ => rfl⟩
theorem CE.g39 {I R : Nat → Nat → Int32} (E : CE I R) (g : Nat → Int32) : CE (upc I 39 g) R := ⟨E.heads, E.hats, E.day, E.seen, E.booked, E.town, E.a2, E.a3, E.a4, E.a6, E.a7, E.a8, E.a9, E.a10, E.a11, E.a12, E.a13⟩
theorem dayW {na a m : Nat} {u : Nat → Int32} (hv : ∀ a, a < na → ∃ m, m ≤ 9999 ∧ u a = nI m) (hm : m ≤ 9999) : ∀ b, b < na → ∃ q, q ≤ 9999 ∧ upc u a (if nI (m + 1) < nI 9999 then nI (m + 1) else nI 9999) b = nI q := by
  intro b hb
  by_cases e : b = a
  · subst e
    rw [upc_eq]
    by_cases h2 : nI (m + 1) < nI 9999
    · rw [if_pos h2]
      refine ⟨m + 1, ?_, rfl⟩
      rw [i_lt, nI_t (by omega), nI_t (by decide)] at h2
      omega
    · rw [if_neg h2]; exact ⟨9999, Nat.le_refl _, rfl⟩
  · rw [upc_ne _ _ e]; exact hv b hb
set_option maxRecDepth 100000 in
set_option maxHeartbeats 4000000 in
theorem C_day {d : Nat} {I : Nat → Nat → Int32} {J : Nat → Nat → Int64} {K : Nat → Nat → Option Nat} {h : List xSh} (S : St K h) {R0 : Nat → Nat → Int32} {nh na dd cb ce tw : Nat} (C : CR I K h R0 na tw) (M : MI R0 nh na dd cb ce) (Q : AR R0 nh na dd) (g : Nat → Int32) : EvP (d + 7) 67 0 [(0, .ref (0))] [] (upc I 39 g, J, K, h) (QI (fun x t => x = (dayM R0 cb ce nh dd).1 ∧ ∃ I2, t = (I2, J, K, h) ∧ CE I2 (dayM R0 cb ce nh dd).2 ∧ FRS I I2)) := by
  have hnh6 := M.nh6
  have hna6 := M.na6
  have hdd9 := Q.dd9
  refine p_aload_n k67_0 rfl ?_
  refine p_getRv k67_1 (s_0 S) f_11_14_11 (r_0_0 S) ?_
  refine p_getIv k67_4 (s_1 S) f_11_190_3 (show _ = nI dd from C.day.trans M.dd) ?_
  refine p_sipush (v := nI 9999) k67_7 (by decide) ?_
  refine p_icmp_ltN (tgt := 16) k67_10 (by decide) (by omega) (by omega) (fun cq10 => ?_) (fun cq10 => ?_)
  · skip
    refine p_iconst (v := nI 0) k67_16 (by decide) ?_
    refine p_istore_n (ls' := [(0, _), (1, _)]) k67_17 rfl ?_
    refine p_iconst (v := nI 0) k67_18 (by decide) ?_
    refine p_istore_n (ls' := [(0, _), (1, _), (2, _)]) k67_19 rfl ?_
    have hE : dayM R0 cb ce nh dd = (todM R0 cb ce nh (-1), goI (upc R0 109 (dayU R0 cb ce nh)) nh) := by unfold dayM; rw [if_neg (by omega)]
    have L : ∀ (j : Nat) (k : Nat) (s : Int32) (u g : Nat → Int32), k + j = 5 → fld (fDay R0 cb ce nh) j k u = (dayU R0 cb ce nh) → fld (fSuD R0 cb ce nh) j k s = todM R0 cb ce nh (-1) → EvP (d + 7) 67 20 [(0, .ref (0)), (1, .int (s)), (2, .int (nI (k)))] [] (upc (upc I 9 u) 39 g, J, K, h) (QI (fun x t => x = (dayM R0 cb ce nh dd).1 ∧ ∃ I2, t = (I2, J, K, h) ∧ CE I2 (dayM R0 cb ce nh dd).2 ∧ FRS I I2)) := by
      intro j
      induction j with
      | zero =>
        intro k s u g hk
        intro hu hs
        have hu2 : u = (dayU R0 cb ce nh) := hu
        have hs2 : s = todM R0 cb ce nh (-1) := hs
        subst hu2; subst hs2
        refine p_iload_n k67_20 rfl ?_
        refine p_iconst (v := nI 5) k67_21 (by decide) ?_
        refine p_icmp_geN (tgt := 68) k67_22 (by decide) (by omega) (by omega) (fun _ => ?_) (fun c => False.elim (by omega))
        refine p_iconst (v := nI 0) k67_68 (by decide) ?_
        refine p_istore_n (ls' := [(0, _), (1, _), (2, _)]) k67_69 rfl ?_
        have L2 : ∀ (j : Nat) (k : Nat) (u g : Nat → Int32), k + j = nh → fld (fGo (R0 101) (R0 98 33)) j k u = fld (fGo (R0 101) (R0 98 33)) nh 0 (R0 107) → (∀ a, a < na → ∃ m, m ≤ 9999 ∧ u a = nI m) → EvP (d + 7) 67 70 [(0, .ref (0)), (1, .int (todM R0 cb ce nh (-1))), (2, .int (nI (k)))] [] (upc (upc (upc I 9 (dayU R0 cb ce nh)) 7 u) 39 g, J, K, h) (QI (fun x t => x = (dayM R0 cb ce nh dd).1 ∧ ∃ I2, t = (I2, J, K, h) ∧ CE I2 (dayM R0 cb ce nh dd).2 ∧ FRS I I2)) := by
          intro j
          induction j with
          | zero =>
            intro k u g hk
            intro hu hv
            refine p_iload_n k67_70 rfl ?_
            refine p_aload_n k67_71 rfl ?_
            refine p_getRv k67_72 (s_0 S) f_11_14_11 (r_0_0 S) ?_
            refine p_getIv k67_75 (s_1 S) f_11_89_3 (show _ = nI nh from C.heads.trans M.nh) ?_
            refine p_icmp_geN (tgt := 134) k67_78 (by decide) (by omega) (by omega) (fun _ => ?_) (fun c => False.elim (by omega))
            refine p_aload_n k67_134 rfl ?_
            refine p_getRv k67_135 (s_0 S) f_11_14_11 (r_0_0 S) ?_
            refine p_dup k67_138 rfl ?_
            refine p_getIv k67_139 (s_1 S) f_11_190_3 (show _ = nI dd from C.day.trans M.dd) ?_
            refine p_iconst (v := nI 1) k67_142 (by decide) ?_
            refine p_iaddN k67_143 ?_
            refine p_putIv k67_144 (s_1 S) g_11_190_3 n_67_3_9 ?_
            refine p_iload_n k67_147 rfl ?_
            refine p_ireturn k67_148 rt_67 ?_
            rw [hE]
            exact ⟨rfl, _, rfl, C.ce.dayE (K := K) (h := h) M hu, FRS.day I _ _ _ _⟩
          | succ j ih =>
            intro k u g hk
            intro hu hv
            rcases M.worn k (by omega) with hkw | ⟨a, ha, hka⟩
            · skip
              have hw0 : R0 101 k < 0 := by rw [hkw]; decide
              have hx0 : ixB (-1) na = false := by unfold ixB; exact decide_eq_false (by show ¬ ((0 : Int) ≤ -1 ∧ _); omega)
              refine p_iload_n k67_70 rfl ?_
              refine p_aload_n k67_71 rfl ?_
              refine p_getRv k67_72 (s_0 S) f_11_14_11 (r_0_0 S) ?_
              refine p_getIv k67_75 (s_1 S) f_11_89_3 (show _ = nI nh from C.heads.trans M.nh) ?_
              refine p_icmp_geN (tgt := 134) k67_78 (by decide) (by omega) (by omega) (fun c => False.elim (by omega)) (fun _ => ?_)
              refine p_aload_n k67_81 rfl ?_
              refine p_getRv k67_82 (s_0 S) f_11_14_11 (r_0_0 S) ?_
              refine p_getRv k67_85 (s_1 S) f_11_98_3 (r_1_3 S) ?_
              refine p_iload_n k67_88 rfl ?_
              refine p_ialdN k67_89 (s_4 S) (by omega) (by decide) (show _ = -1 from (congrFun C.a4 k).trans hkw) ?_
              refine p_istore_n (ls' := [(0, _), (1, _), (2, _), (3, _)]) k67_90 rfl ?_
              refine p_aload_n k67_91 rfl ?_
              refine p_getRv k67_92 (s_0 S) f_11_14_11 (r_0_0 S) ?_
              refine p_iload_n k67_95 rfl ?_
              refine p_cV1i k67_96 (s_1 S) c_11_151_3 rfl (Nat.le_of_ble_eq_true rfl) (C_isHat S (I := upc (upc (upc I 9 (dayU R0 cb ce nh)) 7 u) 39 g) (n := na) (show _ = nI na from C.hats.trans M.na) hna6 (-1)) (fun x1 m1 hq => ?_)
              obtain ⟨rfl, rfl⟩ := hq
              rw [hx0]
              refine p_if_eqB (tgt := 128) k67_99 (by decide) (fun _ => ?_) (fun c => False.elim (by cases c))
              refine p_iincN (ls1 := [(0, _), (1, _), (2, _), (3, _)]) k67_128 rfl rfl ?_
              refine p_goto (tgt := 70) k67_131 (by decide) ?_
              refine p_drop [0, 1, 2] rfl ?_
              exact ih (k + 1) _ _ (by omega) (by rw [← hu]; exact congrArg (fld (fGo (R0 101) (R0 98 33)) j (k + 1)) (by unfold fGo; rw [if_pos hw0])) hv
            · skip
              have hcl : (R0 101 k).toNatClampNeg = a := by rw [hka, nI_clamp (by omega)]
              have hw0 : ¬ R0 101 k < 0 := by rw [hka]; exact opt_neg (by omega)
              have hx1 : ixB (nI a) na = true := by rw [ixB_nI (by omega)]; exact decide_eq_true ha
              obtain ⟨m, hm9, hum⟩ := hv a ha
              refine p_iload_n k67_70 rfl ?_
              refine p_aload_n k67_71 rfl ?_
              refine p_getRv k67_72 (s_0 S) f_11_14_11 (r_0_0 S) ?_
              refine p_getIv k67_75 (s_1 S) f_11_89_3 (show _ = nI nh from C.heads.trans M.nh) ?_
              refine p_icmp_geN (tgt := 134) k67_78 (by decide) (by omega) (by omega) (fun c => False.elim (by omega)) (fun _ => ?_)
              refine p_aload_n k67_81 rfl ?_
              refine p_getRv k67_82 (s_0 S) f_11_14_11 (r_0_0 S) ?_
              refine p_getRv k67_85 (s_1 S) f_11_98_3 (r_1_3 S) ?_
              refine p_iload_n k67_88 rfl ?_
              refine p_ialdN k67_89 (s_4 S) (by omega) (by decide) (show _ = nI a from (congrFun C.a4 k).trans hka) ?_
              refine p_istore_n (ls' := [(0, _), (1, _), (2, _), (3, _)]) k67_90 rfl ?_
              refine p_aload_n k67_91 rfl ?_
              refine p_getRv k67_92 (s_0 S) f_11_14_11 (r_0_0 S) ?_
              refine p_iload_n k67_95 rfl ?_
              refine p_cV1i k67_96 (s_1 S) c_11_151_3 rfl (Nat.le_of_ble_eq_true rfl) (C_isHat S (I := upc (upc (upc I 9 (dayU R0 cb ce nh)) 7 u) 39 g) (n := na) (show _ = nI na from C.hats.trans M.na) hna6 (nI a)) (fun x1 m1 hq => ?_)
              obtain ⟨rfl, rfl⟩ := hq
              rw [hx1]
              refine p_if_eqB (tgt := 128) k67_99 (by decide) (fun c => False.elim (by cases c)) (fun _ => ?_)
              refine p_aload_n k67_102 rfl ?_
              refine p_getRv k67_103 (s_0 S) f_11_14_11 (r_0_0 S) ?_
              refine p_getRv k67_106 (s_1 S) f_11_122_3 (r_1_7 S) ?_
              refine p_iload_n k67_109 rfl ?_
              refine p_sipush (v := nI 9999) k67_110 (by decide) ?_
              refine p_aload_n k67_113 rfl ?_
              refine p_getRv k67_114 (s_0 S) f_11_14_11 (r_0_0 S) ?_
              refine p_getRv k67_117 (s_1 S) f_11_122_3 (r_1_7 S) ?_
              refine p_iload_n k67_120 rfl ?_
              refine p_ialdN k67_121 (s_7 S) (by omega) (by decide) (show _ = nI m from hum) ?_
              refine p_iconst (v := nI 1) k67_122 (by decide) ?_
              refine p_iaddN k67_123 ?_
              refine p_min k67_124 (by decide) (Nat.le_of_ble_eq_true rfl) ?_
              refine p_iastN k67_127 (s_7 S) (by omega) (by decide) ?_
              refine p_iincN (ls1 := [(0, _), (1, _), (2, _), (3, _)]) k67_128 rfl rfl ?_
              refine p_goto (tgt := 70) k67_131 (by decide) ?_
              refine p_drop [0, 1, 2] rfl ?_
              have e9 : ∀ (x : Int32), upc (upc (upc (upc I 9 (dayU R0 cb ce nh)) 7 u) 39 g) 7 (upc u a x) = upc (upc (upc I 9 (dayU R0 cb ce nh)) 7 (upc u a x)) 39 g := fun x => by rw [upc_sw _ (show 39 ≠ 7 by decide), upc_uu]
              refine (show _ = _ from congrArg (fun z => EvP _ _ _ _ _ (z, J, K, h) _) (e9 (if nI (m + 1) < nI 9999 then nI (m + 1) else nI 9999))).mpr ?_
              exact ih (k + 1) _ _ (by omega) (by rw [← hu]; exact congrArg (fld (fGo (R0 101) (R0 98 33)) j (k + 1)) (by unfold fGo; rw [if_neg hw0, hcl, hum, Q.mu, min_u hm9])) (dayW hv hm9)
        refine p_self 7 ?_
        rw [upc_sw _ (show 39 ≠ 7 by decide)]
        exact L2 nh 0 (I 7) g (by omega) (by rw [C.a7]) (fun a ha => by rw [C.a7]; exact Q.used a ha)
      | succ j ih =>
        intro k s u g hk
        intro hu hs
        refine p_iload_n k67_20 rfl ?_
        refine p_iconst (v := nI 5) k67_21 (by decide) ?_
        refine p_icmp_geN (tgt := 68) k67_22 (by decide) (by omega) (by omega) (fun c => False.elim (by omega)) (fun _ => ?_)
        refine p_aload_n k67_25 rfl ?_
        refine p_iload_n k67_26 rfl ?_
        refine p_iconst (v := nI 0) k67_27 (by decide) ?_
        refine p_iconst (v := nI 0) k67_28 (by decide) ?_
        refine p_cV3i k67_29 (s_0 S) c_11_206_11 rfl rfl rfl (Nat.le_of_ble_eq_true rfl) (C_total S (C.day9 u) (show MI (upc R0 109 u) nh na dd cb ce from M) (show AR (upc R0 109 u) nh na dd from Q) g (AHD.zero (show MI (upc R0 109 u) nh na dd cb ce from M) (show AR (upc R0 109 u) nh na dd from Q)) (gg := 0) (by omega) (nI k)) (fun x1 m1 hq => ?_)
        have hq0 := hq.1.trans ((totC_0 (Or.inr (by rw [ixB_nI (by omega)]; exact decide_eq_true (by omega)))).trans (show todM (upc R0 109 u) cb ce nh (nI k) = todM R0 cb ce nh (nI k) from rfl))
        obtain ⟨-, g, rfl⟩ := hq
        subst hq0
        refine p_istore_n (ls' := [(0, _), (1, _), (2, _), (3, _)]) k67_32 rfl ?_
        refine p_iload_n k67_33 rfl ?_
        refine p_iload_n k67_34 rfl ?_
        refine p_iadd k67_35 ?_
        refine p_istore_n (ls' := [(0, _), (1, _), (2, _), (3, _)]) k67_36 rfl ?_
        refine p_aload_n k67_37 rfl ?_
        refine p_getRv k67_38 (s_0 S) f_11_14_11 (r_0_0 S) ?_
        refine p_getRv k67_41 (s_1 S) f_11_200_3 (r_1_10 S) ?_
        refine p_iload_n k67_44 rfl ?_
        refine p_ldc (v := (999999)) k67_45 (by decide) ?_
        refine p_aload_n k67_47 rfl ?_
        refine p_getRv k67_48 (s_0 S) f_11_14_11 (r_0_0 S) ?_
        refine p_getRv k67_51 (s_1 S) f_11_200_3 (r_1_10 S) ?_
        refine p_iload_n k67_54 rfl ?_
        refine p_ialdN k67_55 (s_9 S) (by omega) (by decide) (show _ = u k from rfl) ?_
        refine p_iload_n k67_56 rfl ?_
        refine p_iadd k67_57 ?_
        refine p_min k67_58 (by decide) (Nat.le_of_ble_eq_true rfl) ?_
        refine p_iastN k67_61 (s_9 S) (by omega) (by decide) ?_
        refine p_iincN (ls1 := [(0, _), (1, _), (2, _), (3, _)]) k67_62 rfl rfl ?_
        refine p_goto (tgt := 20) k67_65 (by decide) ?_
        refine p_drop [0, 1, 2] rfl ?_
        rw [upc_sw _ (show 39 ≠ 9 by decide), upc_uu, min_le]
        exact ih (k + 1) _ _ _ (by omega) hu hs
    refine p_self 9 ?_
    rw [upc_sw _ (show 39 ≠ 9 by decide)]
    exact L 5 0 (nI 0) (I 9) g (by omega) (by rw [C.a9]; rfl) (sum5 M Q)
  · skip
    refine p_bipush (v := (-3)) k67_13 (by decide) ?_
    refine p_ireturn k67_15 rt_67 ?_
    rw [show dayM R0 cb ce nh dd = (-3, R0) from by unfold dayM; rw [if_pos (by omega)]]
    exact ⟨rfl, _, rfl, C.ce.g39 g, FRS.g39 I g⟩

