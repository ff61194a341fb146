/-! the class: copy, become, image, undo -/
theorem p_aaldNk {d y pc cn : Nat} {ls : List (Nat × Value)} {rest : List Value} {I : Nat → Nat → Int32} {J : Nat → Nat → Int64} {K : Nat → Nat → Option Nat} {h : List xSh} {Φ : xPost} {a n k : Nat} {C : String} (hd0 : xdec y pc = some (cn, .aaload, 1)) (hs : h[a]? = some (.inr (.object C, n))) (hty : xaty (.object C)) (hk : k < n) (hn : n < 2 ^ 31) (hj : K a k = none) (k0 : EvP d y (pc + 1) ls (.null :: rest) (I, J, K, h) Φ) : EvP d y pc ls (.int (nI k) :: .ref a :: rest) (I, J, K, h) Φ := p_aaldN hd0 hs (vp_in_nI hk hn) hty (by rw [nI_clamp (Nat.lt_trans hk hn)]; exact hj) k0
theorem p_aastNk {d y pc cn : Nat} {ls : List (Nat × Value)} {rest : List Value} {I : Nat → Nat → Int32} {J : Nat → Nat → Int64} {K : Nat → Nat → Option Nat} {h : List xSh} {Φ : xPost} {a n k : Nat} {C : String} (hd0 : xdec y pc = some (cn, .aastore, 1)) (hs : h[a]? = some (.inr (.object C, n))) (hk : k < n) (hn : n < 2 ^ 31) (hty : xaty (.object C)) (k0 : EvP d y (pc + 1) ls rest (I, J, upc K a (upc (K a) k none), h) Φ) : EvP d y pc ls (.null :: .int (nI k) :: .ref a :: rest) (I, J, K, h) Φ := p_aastN hd0 hs (vp_in_nI hk hn) hty (by rw [nI_clamp (Nat.lt_trans hk hn)]; exact k0)
/-- the first n taken from f -/
def cpN {α : Type} (n : Nat) (f g : Nat → α) : Nat → α := fun k => if k < n then f k else g k
theorem cpN_va {α : Type} (f g : Nat → α) (n : Nat) : va_cpy f g 0 0 n = cpN n f g := by
  funext k
  unfold va_cpy cpN
  by_cases h : k < n
  · rw [if_pos h, if_pos ⟨Nat.zero_le _, by omega⟩]
    exact congrArg f (by omega)
  · rw [if_neg h, if_neg (fun z => h (by omega))]
set_option maxRecDepth 100000 in
set_option maxHeartbeats 4000000 in
theorem C_copy {d : Nat} {I : Nat → Nat → Int32} {J : Nat → Nat → Int64} {K : Nat → Nat → Option Nat} {h : List xSh} (S : St K h) {a b n : Nat} (ha : h[a]? = some (.inr (.int, n))) (hb : h[b]? = some (.inr (.int, n))) (hn : n ≤ 99) : EvP (d + 1) 16 0 [(0, .ref (a)), (1, .ref (b))] [] (I, J, K, h) (QV (fun t => t = (upc I b (cpN n (I a) (I b)), J, K, h))) := by
  refine p_aload_n k16_0 rfl ?_
  refine p_iconst (v := nI 0) k16_1 (by decide) ?_
  refine p_aload_n k16_2 rfl ?_
  refine p_iconst (v := nI 0) k16_3 (by decide) ?_
  refine p_aload_n k16_4 rfl ?_
  refine p_alen k16_5 ha (Or.inl (Or.inl rfl)) ?_
  refine p_aload_n k16_6 rfl ?_
  refine p_alen k16_7 hb (Or.inl (Or.inl rfl)) ?_
  refine p_min k16_8 (by decide) (Nat.le_of_ble_eq_true rfl) ?_
  refine p_toI (z := (nI (n))) (ite_self _) ?_
  refine p_cpyi k16_11 (by decide) (Nat.le_of_ble_eq_true rfl) ha hb (by decide) (by decide) (opt_neg (by omega)) (by rw [nI_clamp (show n < 2 ^ 31 by omega)]; show 0 + n ≤ n; omega) (by rw [nI_clamp (show n < 2 ^ 31 by omega)]; show 0 + n ≤ n; omega) ?_
  rw [show (nI 0).toNatClampNeg = 0 from rfl, nI_clamp (show n < 2 ^ 31 by omega), cpN_va]
  refine p_return k16_14 rt_16 ?_
  exact rfl

/-- the hats that a scene keeps -/
def KHT (K : Nat → Nat → Option Nat) (h : List xSh) (c : Nat) : Prop := ∀ i, i < 6 → K c i = none ∨ ∃ q ci, K c i = some q ∧ 153 ≤ q ∧ h[q]? = some (.inl ci) ∧ xasg ci RX2
/-- the scene of the class becomes the kept one; the kept one becomes it -/
def bcU (I : Nat → Nat → Int32) : Nat → Nat → Int32 := (upc (upc (upc (upc (upc (upc (upc (upc (upc (upc (upc (s1 (s1 (s1 (s1 (s1 (s1 I 1 0 (I 14 0)) 1 4 (I 14 4)) 1 9 (I 14 9)) 1 11 (I 14 11)) 1 14 (I 14 14)) 1 17 (I 14 17)) 2 (cpN 6 (I 15) (I 2))) 3 (cpN 6 (I 16) (I 3))) 4 (cpN 6 (I 17) (I 4))) 6 (cpN 6 (I 19) (I 6))) 7 (cpN 6 (I 20) (I 7))) 8 (cpN 24 (I 21) (I 8))) 9 (cpN 5 (I 22) (I 9))) 10 (cpN 6 (I 23) (I 10))) 11 (cpN 6 (I 24) (I 11))) 12 (cpN 8 (I 25) (I 12))) 13 (cpN 8 (I 26) (I 13)))
def bcK (I : Nat → Nat → Int32) : Nat → Nat → Int32 := (upc (upc (upc (upc (upc (upc (upc (upc (upc (upc (upc (s1 (s1 (s1 (s1 (s1 (s1 I 14 0 (I 1 0)) 14 4 (I 1 4)) 14 9 (I 1 9)) 14 11 (I 1 11)) 14 14 (I 1 14)) 14 17 (I 1 17)) 15 (cpN 6 (I 2) (I 15))) 16 (cpN 6 (I 3) (I 16))) 17 (cpN 6 (I 4) (I 17))) 19 (cpN 6 (I 6) (I 19))) 20 (cpN 6 (I 7) (I 20))) 21 (cpN 24 (I 8) (I 21))) 22 (cpN 5 (I 9) (I 22))) 23 (cpN 6 (I 10) (I 23))) 24 (cpN 6 (I 11) (I 24))) 25 (cpN 8 (I 12) (I 25))) 26 (cpN 8 (I 13) (I 26)))
set_option maxRecDepth 100000 in
set_option maxHeartbeats 4000000 in
theorem C_becU {d : Nat} {I : Nat → Nat → Int32} {J : Nat → Nat → Int64} {K : Nat → Nat → Option Nat} {h : List xSh} (S : St K h) (hkh : KHT K h 18) : EvP (d + 2) 15 0 [(0, .ref (1)), (1, .ref (14))] [] (I, J, K, h) (QV (fun t => t = (bcU I, J, upc K 5 (cpN 6 (K 18) (K 5)), h))) := by
  refine p_aload_n k15_0 rfl ?_
  refine p_aload_n k15_1 rfl ?_
  refine p_getIv k15_2 (s_14 S) f_3_9_3 rfl ?_
  refine p_putIv k15_5 (s_1 S) g_3_9_3 n_15_3_0 ?_
  refine p_aload_n k15_8 rfl ?_
  refine p_aload_n k15_9 rfl ?_
  refine p_getIv k15_10 (s_14 S) f_3_25_3 rfl ?_
  refine p_putIv k15_13 (s_1 S) g_3_25_3 n_15_3_4 ?_
  refine p_aload_n k15_16 rfl ?_
  refine p_aload_n k15_17 rfl ?_
  refine p_getIv k15_18 (s_14 S) f_3_43_3 rfl ?_
  refine p_putIv k15_21 (s_1 S) g_3_43_3 n_15_3_9 ?_
  refine p_aload_n k15_24 rfl ?_
  refine p_aload_n k15_25 rfl ?_
  refine p_getIv k15_26 (s_14 S) f_3_49_3 rfl ?_
  refine p_putIv k15_29 (s_1 S) g_3_49_3 n_15_3_11 ?_
  refine p_aload_n k15_32 rfl ?_
  refine p_aload_n k15_33 rfl ?_
  refine p_getIv k15_34 (s_14 S) f_3_58_3 rfl ?_
  refine p_putIv k15_37 (s_1 S) g_3_58_3 n_15_3_14 ?_
  refine p_aload_n k15_40 rfl ?_
  refine p_aload_n k15_41 rfl ?_
  refine p_getIv k15_42 (s_14 S) f_3_67_3 rfl ?_
  refine p_putIv k15_45 (s_1 S) g_3_67_3 n_15_3_17 ?_
  refine p_aload_n k15_48 rfl ?_
  refine p_getRv k15_49 (s_14 S) f_3_15_3 (r_14_1 S) ?_
  refine p_aload_n k15_52 rfl ?_
  refine p_getRv k15_53 (s_1 S) f_3_15_3 (r_1_1 S) ?_
  refine p_cS2v k15_56 c_3_70 rfl rfl (Nat.le_of_ble_eq_true rfl) (C_copy S (a := 15) (b := 2) (n := 6) (s_15 S) (s_2 S) (by decide)) (fun m1 hq => ?_)
  obtain rfl := hq
  refine p_aload_n k15_59 rfl ?_
  refine p_getRv k15_60 (s_14 S) f_3_19_3 (r_14_2 S) ?_
  refine p_aload_n k15_63 rfl ?_
  refine p_getRv k15_64 (s_1 S) f_3_19_3 (r_1_2 S) ?_
  refine p_cS2v k15_67 c_3_70 rfl rfl (Nat.le_of_ble_eq_true rfl) (C_copy S (a := 16) (b := 3) (n := 6) (s_16 S) (s_3 S) (by decide)) (fun m1 hq => ?_)
  obtain rfl := hq
  refine p_aload_n k15_70 rfl ?_
  refine p_getRv k15_71 (s_14 S) f_3_22_3 (r_14_3 S) ?_
  refine p_aload_n k15_74 rfl ?_
  refine p_getRv k15_75 (s_1 S) f_3_22_3 (r_1_3 S) ?_
  refine p_cS2v k15_78 c_3_70 rfl rfl (Nat.le_of_ble_eq_true rfl) (C_copy S (a := 17) (b := 4) (n := 6) (s_17 S) (s_4 S) (by decide)) (fun m1 hq => ?_)
  obtain rfl := hq
  refine p_aload_n k15_81 rfl ?_
  refine p_getRv k15_82 (s_14 S) f_3_34_3 (r_14_6 S) ?_
  refine p_aload_n k15_85 rfl ?_
  refine p_getRv k15_86 (s_1 S) f_3_34_3 (r_1_6 S) ?_
  refine p_cS2v k15_89 c_3_70 rfl rfl (Nat.le_of_ble_eq_true rfl) (C_copy S (a := 19) (b := 6) (n := 6) (s_19 S) (s_6 S) (by decide)) (fun m1 hq => ?_)
  obtain rfl := hq
  refine p_aload_n k15_92 rfl ?_
  refine p_getRv k15_93 (s_14 S) f_3_37_3 (r_14_7 S) ?_
  refine p_aload_n k15_96 rfl ?_
  refine p_getRv k15_97 (s_1 S) f_3_37_3 (r_1_7 S) ?_
  refine p_cS2v k15_100 c_3_70 rfl rfl (Nat.le_of_ble_eq_true rfl) (C_copy S (a := 20) (b := 7) (n := 6) (s_20 S) (s_7 S) (by decide)) (fun m1 hq => ?_)
  obtain rfl := hq
  refine p_aload_n k15_103 rfl ?_
  refine p_getRv k15_104 (s_14 S) f_3_40_3 (r_14_8 S) ?_
  refine p_aload_n k15_107 rfl ?_
  refine p_getRv k15_108 (s_1 S) f_3_40_3 (r_1_8 S) ?_
  refine p_cS2v k15_111 c_3_70 rfl rfl (Nat.le_of_ble_eq_true rfl) (C_copy S (a := 21) (b := 8) (n := 24) (s_21 S) (s_8 S) (by decide)) (fun m1 hq => ?_)
  obtain rfl := hq
  refine p_aload_n k15_114 rfl ?_
  refine p_getRv k15_115 (s_14 S) f_3_46_3 (r_14_10 S) ?_
  refine p_aload_n k15_118 rfl ?_
  refine p_getRv k15_119 (s_1 S) f_3_46_3 (r_1_10 S) ?_
  refine p_cS2v k15_122 c_3_70 rfl rfl (Nat.le_of_ble_eq_true rfl) (C_copy S (a := 22) (b := 9) (n := 5) (s_22 S) (s_9 S) (by decide)) (fun m1 hq => ?_)
  obtain rfl := hq
  refine p_aload_n k15_125 rfl ?_
  refine p_getRv k15_126 (s_14 S) f_3_52_3 (r_14_12 S) ?_
  refine p_aload_n k15_129 rfl ?_
  refine p_getRv k15_130 (s_1 S) f_3_52_3 (r_1_12 S) ?_
  refine p_cS2v k15_133 c_3_70 rfl rfl (Nat.le_of_ble_eq_true rfl) (C_copy S (a := 23) (b := 10) (n := 6) (s_23 S) (s_10 S) (by decide)) (fun m1 hq => ?_)
  obtain rfl := hq
  refine p_aload_n k15_136 rfl ?_
  refine p_getRv k15_137 (s_14 S) f_3_55_3 (r_14_13 S) ?_
  refine p_aload_n k15_140 rfl ?_
  refine p_getRv k15_141 (s_1 S) f_3_55_3 (r_1_13 S) ?_
  refine p_cS2v k15_144 c_3_70 rfl rfl (Nat.le_of_ble_eq_true rfl) (C_copy S (a := 24) (b := 11) (n := 6) (s_24 S) (s_11 S) (by decide)) (fun m1 hq => ?_)
  obtain rfl := hq
  refine p_aload_n k15_147 rfl ?_
  refine p_getRv k15_148 (s_14 S) f_3_61_3 (r_14_15 S) ?_
  refine p_aload_n k15_151 rfl ?_
  refine p_getRv k15_152 (s_1 S) f_3_61_3 (r_1_15 S) ?_
  refine p_cS2v k15_155 c_3_70 rfl rfl (Nat.le_of_ble_eq_true rfl) (C_copy S (a := 25) (b := 12) (n := 8) (s_25 S) (s_12 S) (by decide)) (fun m1 hq => ?_)
  obtain rfl := hq
  refine p_aload_n k15_158 rfl ?_
  refine p_getRv k15_159 (s_14 S) f_3_64_3 (r_14_16 S) ?_
  refine p_aload_n k15_162 rfl ?_
  refine p_getRv k15_163 (s_1 S) f_3_64_3 (r_1_16 S) ?_
  refine p_cS2v k15_166 c_3_70 rfl rfl (Nat.le_of_ble_eq_true rfl) (C_copy S (a := 26) (b := 13) (n := 8) (s_26 S) (s_13 S) (by decide)) (fun m1 hq => ?_)
  obtain rfl := hq
  refine p_iconst (v := nI 0) k15_169 (by decide) ?_
  refine p_istore_n (ls' := [(0, _), (1, _), (2, _)]) k15_170 rfl ?_
  have L : ∀ (j : Nat) (k : Nat) (K2 : Nat → Nat → Option Nat), k + j = 6 → St K2 h → K2 18 = K 18 → (∀ c, c ≠ 5 → K2 c = K c) → (∀ z, K2 5 z = if z < k then K 18 z else K 5 z) → EvP (d + 2) 15 171 [(0, .ref (1)), (1, .ref (14)), (2, .int (nI (k)))] [] ((bcU I), J, K2, h) (QV (fun t => t = (bcU I, J, upc K 5 (cpN 6 (K 18) (K 5)), h))) := by
    intro j
    induction j with
    | zero =>
      intro k K2 hk
      intro S hsrc hoth hdst
      refine p_iload_n k15_171 rfl ?_
      refine p_bipush (v := nI 6) k15_172 (by decide) ?_
      refine p_icmp_geN (tgt := 195) k15_174 (by decide) (by omega) (by omega) (fun _ => ?_) (fun c => False.elim (by omega))
      refine p_return k15_195 rt_15 ?_
      have hK : K2 = upc K 5 (cpN 6 (K 18) (K 5)) := by
        funext c z
        by_cases e : c = 5
        · subst e; rw [hdst z, upc_eq, show k = 6 by omega]; rfl
        · rw [hoth c e, upc_ne _ _ e]
      exact (by rw [hK] : (_, _, K2, _) = _)
    | succ j ih =>
      intro k K2 hk
      intro S hsrc hoth hdst
      refine p_iload_n k15_171 rfl ?_
      refine p_bipush (v := nI 6) k15_172 (by decide) ?_
      refine p_icmp_geN (tgt := 195) k15_174 (by decide) (by omega) (by omega) (fun c => False.elim (by omega)) (fun _ => ?_)
      rcases hkh k (by omega) with hn | ⟨q, ci, hq1, hq2, hq3, hq4⟩
      · skip
        refine p_aload_n k15_177 rfl ?_
        refine p_getRv k15_178 (s_1 S) f_3_30_3 (r_1_5 S) ?_
        refine p_iload_n k15_181 rfl ?_
        refine p_aload_n k15_182 rfl ?_
        refine p_getRv k15_183 (s_14 S) f_3_30_3 (r_14_5 S) ?_
        refine p_iload_n k15_186 rfl ?_
        refine p_aaldNk k15_187 (s_18 S) xaty_2 (by omega) (by decide) (by rw [hsrc]; exact hn) ?_
        refine p_aastNk k15_188 (s_5 S) (by omega) (by decide) xaty_2 ?_
        refine p_iincN (ls1 := [(0, _), (1, _), (2, _)]) k15_189 rfl rfl ?_
        refine p_goto (tgt := 171) k15_192 (by decide) ?_
        exact ih (k + 1) _ (by omega) (S.hi (Or.inr (Or.inl rfl)) _) ((upc_ne _ _ (show 18 ≠ 5 by decide)).trans hsrc) (fun c hc => (upc_ne _ _ hc).trans (hoth c hc)) (fun z => by
          show upc K2 5 (upc (K2 5) k _) 5 z = _
          rw [upc_eq]
          by_cases e : z = k
          · subst e; rw [upc_eq, if_pos (Nat.lt_succ_self _)]; exact hn.symm
          · rw [upc_ne _ _ e, hdst z]; by_cases e2 : z < k
            · rw [if_pos e2, if_pos (by omega)]
            · rw [if_neg e2, if_neg (by omega)])
      · skip
        refine p_aload_n k15_177 rfl ?_
        refine p_getRv k15_178 (s_1 S) f_3_30_3 (r_1_5 S) ?_
        refine p_iload_n k15_181 rfl ?_
        refine p_aload_n k15_182 rfl ?_
        refine p_getRv k15_183 (s_14 S) f_3_30_3 (r_14_5 S) ?_
        refine p_iload_n k15_186 rfl ?_
        refine p_aaldNj k15_187 (s_18 S) xaty_2 (by omega) (by decide) (by rw [hsrc]; exact hq1) ?_
        refine p_aastk k15_188 (s_5 S) (by omega) (by decide) xaty_2 hq3 hq4 ?_
        refine p_iincN (ls1 := [(0, _), (1, _), (2, _)]) k15_189 rfl rfl ?_
        refine p_goto (tgt := 171) k15_192 (by decide) ?_
        exact ih (k + 1) _ (by omega) (S.hi (Or.inr (Or.inl rfl)) _) ((upc_ne _ _ (show 18 ≠ 5 by decide)).trans hsrc) (fun c hc => (upc_ne _ _ hc).trans (hoth c hc)) (fun z => by
          show upc K2 5 (upc (K2 5) k _) 5 z = _
          rw [upc_eq]
          by_cases e : z = k
          · subst e; rw [upc_eq, if_pos (Nat.lt_succ_self _)]; exact hq1.symm
          · rw [upc_ne _ _ e, hdst z]; by_cases e2 : z < k
            · rw [if_pos e2, if_pos (by omega)]
            · rw [if_neg e2, if_neg (by omega)])
  exact L 6 0 K (by omega) S rfl (fun _ _ => rfl) (fun z => by rw [if_neg (Nat.not_lt_zero _)])

set_option maxRecDepth 100000 in
set_option maxHeartbeats 4000000 in
theorem C_becK {d : Nat} {I : Nat → Nat → Int32} {J : Nat → Nat → Int64} {K : Nat → Nat → Option Nat} {h : List xSh} (S : St K h) (hkh : KHT K h 5) : EvP (d + 2) 15 0 [(0, .ref (14)), (1, .ref (1))] [] (I, J, K, h) (QV (fun t => t = (bcK I, J, upc K 18 (cpN 6 (K 5) (K 18)), h))) := by
  refine p_aload_n k15_0 rfl ?_
  refine p_aload_n k15_1 rfl ?_
  refine p_getIv k15_2 (s_1 S) f_3_9_3 rfl ?_
  refine p_putIv k15_5 (s_14 S) g_3_9_3 n_15_3_0 ?_
  refine p_aload_n k15_8 rfl ?_
  refine p_aload_n k15_9 rfl ?_
  refine p_getIv k15_10 (s_1 S) f_3_25_3 rfl ?_
  refine p_putIv k15_13 (s_14 S) g_3_25_3 n_15_3_4 ?_
  refine p_aload_n k15_16 rfl ?_
  refine p_aload_n k15_17 rfl ?_
  refine p_getIv k15_18 (s_1 S) f_3_43_3 rfl ?_
  refine p_putIv k15_21 (s_14 S) g_3_43_3 n_15_3_9 ?_
  refine p_aload_n k15_24 rfl ?_
  refine p_aload_n k15_25 rfl ?_
  refine p_getIv k15_26 (s_1 S) f_3_49_3 rfl ?_
  refine p_putIv k15_29 (s_14 S) g_3_49_3 n_15_3_11 ?_
  refine p_aload_n k15_32 rfl ?_
  refine p_aload_n k15_33 rfl ?_
  refine p_getIv k15_34 (s_1 S) f_3_58_3 rfl ?_
  refine p_putIv k15_37 (s_14 S) g_3_58_3 n_15_3_14 ?_
  refine p_aload_n k15_40 rfl ?_
  refine p_aload_n k15_41 rfl ?_
  refine p_getIv k15_42 (s_1 S) f_3_67_3 rfl ?_
  refine p_putIv k15_45 (s_14 S) g_3_67_3 n_15_3_17 ?_
  refine p_aload_n k15_48 rfl ?_
  refine p_getRv k15_49 (s_1 S) f_3_15_3 (r_1_1 S) ?_
  refine p_aload_n k15_52 rfl ?_
  refine p_getRv k15_53 (s_14 S) f_3_15_3 (r_14_1 S) ?_
  refine p_cS2v k15_56 c_3_70 rfl rfl (Nat.le_of_ble_eq_true rfl) (C_copy S (a := 2) (b := 15) (n := 6) (s_2 S) (s_15 S) (by decide)) (fun m1 hq => ?_)
  obtain rfl := hq
  refine p_aload_n k15_59 rfl ?_
  refine p_getRv k15_60 (s_1 S) f_3_19_3 (r_1_2 S) ?_
  refine p_aload_n k15_63 rfl ?_
  refine p_getRv k15_64 (s_14 S) f_3_19_3 (r_14_2 S) ?_
  refine p_cS2v k15_67 c_3_70 rfl rfl (Nat.le_of_ble_eq_true rfl) (C_copy S (a := 3) (b := 16) (n := 6) (s_3 S) (s_16 S) (by decide)) (fun m1 hq => ?_)
  obtain rfl := hq
  refine p_aload_n k15_70 rfl ?_
  refine p_getRv k15_71 (s_1 S) f_3_22_3 (r_1_3 S) ?_
  refine p_aload_n k15_74 rfl ?_
  refine p_getRv k15_75 (s_14 S) f_3_22_3 (r_14_3 S) ?_
  refine p_cS2v k15_78 c_3_70 rfl rfl (Nat.le_of_ble_eq_true rfl) (C_copy S (a := 4) (b := 17) (n := 6) (s_4 S) (s_17 S) (by decide)) (fun m1 hq => ?_)
  obtain rfl := hq
  refine p_aload_n k15_81 rfl ?_
  refine p_getRv k15_82 (s_1 S) f_3_34_3 (r_1_6 S) ?_
  refine p_aload_n k15_85 rfl ?_
  refine p_getRv k15_86 (s_14 S) f_3_34_3 (r_14_6 S) ?_
  refine p_cS2v k15_89 c_3_70 rfl rfl (Nat.le_of_ble_eq_true rfl) (C_copy S (a := 6) (b := 19) (n := 6) (s_6 S) (s_19 S) (by decide)) (fun m1 hq => ?_)
  obtain rfl := hq
  refine p_aload_n k15_92 rfl ?_
  refine p_getRv k15_93 (s_1 S) f_3_37_3 (r_1_7 S) ?_
  refine p_aload_n k15_96 rfl ?_
  refine p_getRv k15_97 (s_14 S) f_3_37_3 (r_14_7 S) ?_
  refine p_cS2v k15_100 c_3_70 rfl rfl (Nat.le_of_ble_eq_true rfl) (C_copy S (a := 7) (b := 20) (n := 6) (s_7 S) (s_20 S) (by decide)) (fun m1 hq => ?_)
  obtain rfl := hq
  refine p_aload_n k15_103 rfl ?_
  refine p_getRv k15_104 (s_1 S) f_3_40_3 (r_1_8 S) ?_
  refine p_aload_n k15_107 rfl ?_
  refine p_getRv k15_108 (s_14 S) f_3_40_3 (r_14_8 S) ?_
  refine p_cS2v k15_111 c_3_70 rfl rfl (Nat.le_of_ble_eq_true rfl) (C_copy S (a := 8) (b := 21) (n := 24) (s_8 S) (s_21 S) (by decide)) (fun m1 hq => ?_)
  obtain rfl := hq
  refine p_aload_n k15_114 rfl ?_
  refine p_getRv k15_115 (s_1 S) f_3_46_3 (r_1_10 S) ?_
  refine p_aload_n k15_118 rfl ?_
  refine p_getRv k15_119 (s_14 S) f_3_46_3 (r_14_10 S) ?_
  refine p_cS2v k15_122 c_3_70 rfl rfl (Nat.le_of_ble_eq_true rfl) (C_copy S (a := 9) (b := 22) (n := 5) (s_9 S) (s_22 S) (by decide)) (fun m1 hq => ?_)
  obtain rfl := hq
  refine p_aload_n k15_125 rfl ?_
  refine p_getRv k15_126 (s_1 S) f_3_52_3 (r_1_12 S) ?_
  refine p_aload_n k15_129 rfl ?_
  refine p_getRv k15_130 (s_14 S) f_3_52_3 (r_14_12 S) ?_
  refine p_cS2v k15_133 c_3_70 rfl rfl (Nat.le_of_ble_eq_true rfl) (C_copy S (a := 10) (b := 23) (n := 6) (s_10 S) (s_23 S) (by decide)) (fun m1 hq => ?_)
  obtain rfl := hq
  refine p_aload_n k15_136 rfl ?_
  refine p_getRv k15_137 (s_1 S) f_3_55_3 (r_1_13 S) ?_
  refine p_aload_n k15_140 rfl ?_
  refine p_getRv k15_141 (s_14 S) f_3_55_3 (r_14_13 S) ?_
  refine p_cS2v k15_144 c_3_70 rfl rfl (Nat.le_of_ble_eq_true rfl) (C_copy S (a := 11) (b := 24) (n := 6) (s_11 S) (s_24 S) (by decide)) (fun m1 hq => ?_)
  obtain rfl := hq
  refine p_aload_n k15_147 rfl ?_
  refine p_getRv k15_148 (s_1 S) f_3_61_3 (r_1_15 S) ?_
  refine p_aload_n k15_151 rfl ?_
  refine p_getRv k15_152 (s_14 S) f_3_61_3 (r_14_15 S) ?_
  refine p_cS2v k15_155 c_3_70 rfl rfl (Nat.le_of_ble_eq_true rfl) (C_copy S (a := 12) (b := 25) (n := 8) (s_12 S) (s_25 S) (by decide)) (fun m1 hq => ?_)
  obtain rfl := hq
  refine p_aload_n k15_158 rfl ?_
  refine p_getRv k15_159 (s_1 S) f_3_64_3 (r_1_16 S) ?_
  refine p_aload_n k15_162 rfl ?_
  refine p_getRv k15_163 (s_14 S) f_3_64_3 (r_14_16 S) ?_
  refine p_cS2v k15_166 c_3_70 rfl rfl (Nat.le_of_ble_eq_true rfl) (C_copy S (a := 13) (b := 26) (n := 8) (s_13 S) (s_26 S) (by decide)) (fun m1 hq => ?_)
  obtain rfl := hq
  refine p_iconst (v := nI 0) k15_169 (by decide) ?_
  refine p_istore_n (ls' := [(0, _), (1, _), (2, _)]) k15_170 rfl ?_
  have L : ∀ (j : Nat) (k : Nat) (K2 : Nat → Nat → Option Nat), k + j = 6 → St K2 h → K2 5 = K 5 → (∀ c, c ≠ 18 → K2 c = K c) → (∀ z, K2 18 z = if z < k then K 5 z else K 18 z) → EvP (d + 2) 15 171 [(0, .ref (14)), (1, .ref (1)), (2, .int (nI (k)))] [] ((bcK I), J, K2, h) (QV (fun t => t = (bcK I, J, upc K 18 (cpN 6 (K 5) (K 18)), h))) := by
    intro j
    induction j with
    | zero =>
      intro k K2 hk
      intro S hsrc hoth hdst
      refine p_iload_n k15_171 rfl ?_
      refine p_bipush (v := nI 6) k15_172 (by decide) ?_
      refine p_icmp_geN (tgt := 195) k15_174 (by decide) (by omega) (by omega) (fun _ => ?_) (fun c => False.elim (by omega))
      refine p_return k15_195 rt_15 ?_
      have hK : K2 = upc K 18 (cpN 6 (K 5) (K 18)) := by
        funext c z
        by_cases e : c = 18
        · subst e; rw [hdst z, upc_eq, show k = 6 by omega]; rfl
        · rw [hoth c e, upc_ne _ _ e]
      exact (by rw [hK] : (_, _, K2, _) = _)
    | succ j ih =>
      intro k K2 hk
      intro S hsrc hoth hdst
      refine p_iload_n k15_171 rfl ?_
      refine p_bipush (v := nI 6) k15_172 (by decide) ?_
      refine p_icmp_geN (tgt := 195) k15_174 (by decide) (by omega) (by omega) (fun c => False.elim (by omega)) (fun _ => ?_)
      rcases hkh k (by omega) with hn | ⟨q, ci, hq1, hq2, hq3, hq4⟩
      · skip
        refine p_aload_n k15_177 rfl ?_
        refine p_getRv k15_178 (s_14 S) f_3_30_3 (r_14_5 S) ?_
        refine p_iload_n k15_181 rfl ?_
        refine p_aload_n k15_182 rfl ?_
        refine p_getRv k15_183 (s_1 S) f_3_30_3 (r_1_5 S) ?_
        refine p_iload_n k15_186 rfl ?_
        refine p_aaldNk k15_187 (s_5 S) xaty_2 (by omega) (by decide) (by rw [hsrc]; exact hn) ?_
        refine p_aastNk k15_188 (s_18 S) (by omega) (by decide) xaty_2 ?_
        refine p_iincN (ls1 := [(0, _), (1, _), (2, _)]) k15_189 rfl rfl ?_
        refine p_goto (tgt := 171) k15_192 (by decide) ?_
        exact ih (k + 1) _ (by omega) (S.hi (Or.inr (Or.inr rfl)) _) ((upc_ne _ _ (show 5 ≠ 18 by decide)).trans hsrc) (fun c hc => (upc_ne _ _ hc).trans (hoth c hc)) (fun z => by
          show upc K2 18 (upc (K2 18) k _) 18 z = _
          rw [upc_eq]
          by_cases e : z = k
          · subst e; rw [upc_eq, if_pos (Nat.lt_succ_self _)]; exact hn.symm
          · rw [upc_ne _ _ e, hdst z]; by_cases e2 : z < k
            · rw [if_pos e2, if_pos (by omega)]
            · rw [if_neg e2, if_neg (by omega)])
      · skip
        refine p_aload_n k15_177 rfl ?_
        refine p_getRv k15_178 (s_14 S) f_3_30_3 (r_14_5 S) ?_
        refine p_iload_n k15_181 rfl ?_
        refine p_aload_n k15_182 rfl ?_
        refine p_getRv k15_183 (s_1 S) f_3_30_3 (r_1_5 S) ?_
        refine p_iload_n k15_186 rfl ?_
        refine p_aaldNj k15_187 (s_5 S) xaty_2 (by omega) (by decide) (by rw [hsrc]; exact hq1) ?_
        refine p_aastk k15_188 (s_18 S) (by omega) (by decide) xaty_2 hq3 hq4 ?_
        refine p_iincN (ls1 := [(0, _), (1, _), (2, _)]) k15_189 rfl rfl ?_
        refine p_goto (tgt := 171) k15_192 (by decide) ?_
        exact ih (k + 1) _ (by omega) (S.hi (Or.inr (Or.inr rfl)) _) ((upc_ne _ _ (show 5 ≠ 18 by decide)).trans hsrc) (fun c hc => (upc_ne _ _ hc).trans (hoth c hc)) (fun z => by
          show upc K2 18 (upc (K2 18) k _) 18 z = _
          rw [upc_eq]
          by_cases e : z = k
          · subst e; rw [upc_eq, if_pos (Nat.lt_succ_self _)]; exact hq1.symm
          · rw [upc_ne _ _ e, hdst z]; by_cases e2 : z < k
            · rw [if_pos e2, if_pos (by omega)]
            · rw [if_neg e2, if_neg (by omega)])
  exact L 6 0 K (by omega) S rfl (fun _ _ => rfl) (fun z => by rw [if_neg (Nat.not_lt_zero _)])

set_option maxRecDepth 100000 in
set_option maxHeartbeats 4000000 in
theorem C_image {d : Nat} {I : Nat → Nat → Int32} {J : Nat → Nat → Int64} {K : Nat → Nat → Option Nat} {h : List xSh} (S : St K h) (hkh : KHT K h 5) : EvP (d + 3) 91 0 [(0, .ref (0))] [] (I, J, K, h) (QI (fun x t => x = I 1 4 ∧ t = (s1 (bcK I) 0 2 (bI true), J, upc K 18 (cpN 6 (K 5) (K 18)), h))) := by
  refine p_aload_n k91_0 rfl ?_
  refine p_getRv k91_1 (s_0 S) f_11_18_11 (r_0_1 S) ?_
  refine p_aload_n k91_4 rfl ?_
  refine p_getRv k91_5 (s_0 S) f_11_14_11 (r_0_0 S) ?_
  refine p_cV1v k91_8 (s_14 S) c_11_303_3 rfl (Nat.le_of_ble_eq_true rfl) (C_becK S hkh) (fun m1 hq => ?_)
  obtain rfl := hq
  replace S := S.hi (Or.inr (Or.inr rfl)) (cpN 6 (K 5) (K 18))
  refine p_aload_n k91_11 rfl ?_
  refine p_iconst (v := bI true) k91_12 (by decide) ?_
  refine p_putZv k91_13 (s_0 S) g_11_21_11 n_91_11_2 (bI_01 _) ?_
  refine p_aload_n k91_16 rfl ?_
  refine p_getRv k91_17 (s_0 S) f_11_14_11 (r_0_0 S) ?_
  refine p_getIv k91_20 (s_1 S) f_11_108_3 rfl ?_
  refine p_ireturn k91_23 rt_91 ?_
  exact ⟨rfl, rfl⟩

set_option maxRecDepth 100000 in
set_option maxHeartbeats 4000000 in
theorem C_undo {d : Nat} {I : Nat → Nat → Int32} {J : Nat → Nat → Int64} {K : Nat → Nat → Option Nat} {h : List xSh} (S : St K h) (hkh : KHT K h 18) : EvP (d + 3) 92 0 [(0, .ref (0))] [] (I, J, K, h) (QI (fun x t => (I 0 2 = 0 ∧ x = -3 ∧ t = (I, J, K, h)) ∨ (¬ I 0 2 = 0 ∧ x = I 14 4 ∧ t = (bcU I, J, upc K 5 (cpN 6 (K 18) (K 5)), h)))) := by
  refine p_aload_n k92_0 rfl ?_
  refine p_getIv k92_1 (s_0 S) f_11_21_11 rfl ?_
  refine p_if_ne (tgt := 10) k92_4 (by decide) (fun cq4 => ?_) (fun cq4 => ?_)
  · skip
    refine p_aload_n k92_10 rfl ?_
    refine p_getRv k92_11 (s_0 S) f_11_14_11 (r_0_0 S) ?_
    refine p_aload_n k92_14 rfl ?_
    refine p_getRv k92_15 (s_0 S) f_11_18_11 (r_0_1 S) ?_
    refine p_cV1v k92_18 (s_1 S) c_11_303_3 rfl (Nat.le_of_ble_eq_true rfl) (C_becU S hkh) (fun m1 hq => ?_)
    obtain rfl := hq
    replace S := S.hi (Or.inr (Or.inl rfl)) (cpN 6 (K 18) (K 5))
    refine p_aload_n k92_21 rfl ?_
    refine p_getRv k92_22 (s_0 S) f_11_14_11 (r_0_0 S) ?_
    refine p_getIv k92_25 (s_1 S) f_11_108_3 rfl ?_
    refine p_ireturn k92_28 rt_92 ?_
    first | exact Or.inl ⟨cq4, rfl, rfl⟩ | exact Or.inr ⟨cq4, rfl, rfl⟩
  · skip
    refine p_bipush (v := (-3)) k92_7 (by decide) ?_
    refine p_ireturn k92_9 rt_92 ?_
    first | exact Or.inl ⟨cq4, rfl, rfl⟩ | exact Or.inr ⟨cq4, rfl, rfl⟩

