/-! the class: noteDeeds, noted, hatsOf -/
def NTD (R : Nat → Nat → Int32) (cb ce nh na : Nat) (u : Nat → Int32) : Prop := ∀ k a, k < nh → a < na → u (k * 6 + a) = deedM R cb ce a k
def ntD (R : Nat → Nat → Int32) (cb ce nh na : Nat) (v w : Int32) : Int32 := if ixB v na = true ∧ ixB w nh = true then deedM R cb ce v.toNatClampNeg w.toNatClampNeg else nI 0
theorem NTD.st {R : Nat → Nat → Int32} {cb ce k m na : Nat} {u : Nat → Int32} {v : Int32} (hna : na ≤ 6) (hm : m < na) (h : NTD R cb ce k na u) : NTD R cb ce k na (upc u (k * 6 + m) v) := fun k2 a h1 h2 => (upc_ne _ _ (by omega)).trans (h k2 a h1 h2)
theorem NTD.step {R : Nat → Nat → Int32} {cb ce k m na : Nat} {u : Nat → Int32} (hu : NTD R cb ce k na u) (hm : m = na) (hv : ∀ a, a < m → u (k * 6 + a) = deedM R cb ce a k) : NTD R cb ce (k + 1) na u := by
  intro k2 a h1 h2
  by_cases e : k2 = k
  · subst e; exact hv a (by omega)
  · exact hu k2 a (by omega) h2
theorem NTD.nx {R : Nat → Nat → Int32} {cb ce k m na : Nat} {u : Nat → Int32} (h : ∀ a, a < m → u (k * 6 + a) = deedM R cb ce a k) : ∀ a, a < m + 1 → upc u (k * 6 + m) (deedM R cb ce m k) (k * 6 + a) = deedM R cb ce a k := by
  intro a ha
  by_cases e : a = m
  · subst e; exact upc_eq _ _ _
  · exact (upc_ne _ _ (by omega)).trans (h a (by omega))
set_option maxRecDepth 100000 in
set_option maxHeartbeats 4000000 in
theorem C_noteDeeds {d : Nat} {I : Nat → Nat → Int32} {J : Nat → Nat → Int64} {K : Nat → Nat → Option Nat} {h : List xSh} (S : St K h) {R0 : Nat → Nat → Int32} {nh na dd cb ce tw : Nat} (C : CR I K h R0 na tw) (M : MI R0 nh na dd cb ce) (Q : AR R0 nh na dd) (g : Nat → Int32)  : EvP (d + 6) 113 0 [(0, .ref (0))] [] (upc I 39 g, J, K, h) (QV (fun t => ∃ u g, t = (upc (upc I 40 u) 39 g, J, K, h) ∧ NTD R0 cb ce nh na u)) := by
  have hnh6 := M.nh6
  have hna6 := M.na6
  refine p_iconst (v := nI 0) k113_0 (by decide) ?_
  refine p_istore_n (ls' := [(0, _), (1, _)]) k113_1 rfl ?_
  have L : ∀ (j : Nat) (k : Nat) (u g : Nat → Int32), k + j = nh → NTD R0 cb ce k na u → EvP (d + 6) 113 2 [(0, .ref (0)), (1, .int (nI (k)))] [] (upc (upc I 40 u) 39 g, J, K, h) (QV (fun t => ∃ u g, t = (upc (upc I 40 u) 39 g, J, K, h) ∧ NTD R0 cb ce nh na u)) := by
    intro j
    induction j with
    | zero =>
      intro k u g hk
      intro hu
      refine p_iload_n k113_2 rfl ?_
      refine p_aload_n k113_3 rfl ?_
      refine p_getRv k113_4 (s_0 S) f_11_14_11 (r_0_0 S) ?_
      refine p_getIv k113_7 (s_1 S) f_11_89_3 (show _ = nI nh from C.heads.trans M.nh) ?_
      refine p_icmp_geN (tgt := 56) k113_10 (by decide) (by omega) (by omega) (fun _ => ?_) (fun c => False.elim (by omega))
      refine p_return k113_56 rt_113 ?_
      exact ⟨u, g, rfl, (show k = nh by omega) ▸ hu⟩
    | succ j ih =>
      intro k u g hk
      intro hu
      have ih0 := ih
      obtain ⟨j0, hj0⟩ : ∃ j0, j0 = j := ⟨j, rfl⟩
      rw [← hj0] at ih0
      refine p_iload_n k113_2 rfl ?_
      refine p_aload_n k113_3 rfl ?_
      refine p_getRv k113_4 (s_0 S) f_11_14_11 (r_0_0 S) ?_
      refine p_getIv k113_7 (s_1 S) f_11_89_3 (show _ = nI nh from C.heads.trans M.nh) ?_
      refine p_icmp_geN (tgt := 56) k113_10 (by decide) (by omega) (by omega) (fun c => False.elim (by omega)) (fun _ => ?_)
      refine p_iconst (v := nI 0) k113_13 (by decide) ?_
      refine p_istore_n (ls' := [(0, _), (1, _), (2, _)]) k113_14 rfl ?_
      have L2 : ∀ (j : Nat) (m : Nat) (u g : Nat → Int32), m + j = na → NTD R0 cb ce k na u → (∀ a, a < m → u (k * 6 + a) = deedM R0 cb ce a k) → EvP (d + 6) 113 15 [(0, .ref (0)), (1, .int (nI (k))), (2, .int (nI (m)))] [] (upc (upc I 40 u) 39 g, J, K, h) (QV (fun t => ∃ u g, t = (upc (upc I 40 u) 39 g, J, K, h) ∧ NTD R0 cb ce nh na u)) := by
        intro j
        induction j with
        | zero =>
          intro m u g hk
          intro hu hv
          refine p_iload_n k113_15 rfl ?_
          refine p_aload_n k113_16 rfl ?_
          refine p_getRv k113_17 (s_0 S) f_11_14_11 (r_0_0 S) ?_
          refine p_getIv k113_20 (s_1 S) f_11_108_3 (show _ = nI na from C.hats.trans M.na) ?_
          refine p_icmp_geN (tgt := 50) k113_23 (by decide) (by omega) (by omega) (fun _ => ?_) (fun c => False.elim (by omega))
          refine p_iincN (ls1 := [(0, _), (1, _), (2, _)]) k113_50 rfl rfl ?_
          refine p_goto (tgt := 2) k113_53 (by decide) ?_
          refine p_drop [0, 1] rfl ?_
          exact ih0 (k + 1) _ _ (by omega) (NTD.step hu (show m = na by omega) hv)
        | succ j ih =>
          intro m u g hk
          intro hu hv
          refine p_iload_n k113_15 rfl ?_
          refine p_aload_n k113_16 rfl ?_
          refine p_getRv k113_17 (s_0 S) f_11_14_11 (r_0_0 S) ?_
          refine p_getIv k113_20 (s_1 S) f_11_108_3 (show _ = nI na from C.hats.trans M.na) ?_
          refine p_icmp_geN (tgt := 50) k113_23 (by decide) (by omega) (by omega) (fun c => False.elim (by omega)) (fun _ => ?_)
          refine p_aload_n k113_26 rfl ?_
          refine p_getRv k113_27 (s_0 S) f_11_72_11 (r_0_11 S) ?_
          refine p_iload_n k113_30 rfl ?_
          refine p_bipush (v := nI 6) k113_31 (by decide) ?_
          refine p_imulN k113_33 ?_
          refine p_iload_n k113_34 rfl ?_
          refine p_iaddN k113_35 ?_
          refine p_aload_n k113_36 rfl ?_
          refine p_iload_n k113_37 rfl ?_
          refine p_iload_n k113_38 rfl ?_
          refine p_iconst (v := nI 0) k113_39 (by decide) ?_
          refine p_cV3i k113_40 (s_0 S) c_11_176_11 rfl rfl rfl (Nat.le_of_ble_eq_true rfl) (C_deed0 S (C.up (by decide) u) M Q g (a := m) (hh := k) (by omega) (by omega)) (fun x1 m1 hq => ?_)
          obtain ⟨rfl, g, rfl⟩ := hq
          refine p_iastN k113_43 (s_40 S) (by omega) (by decide) ?_
          refine p_iincN (ls1 := [(0, _), (1, _), (2, _)]) k113_44 rfl rfl ?_
          refine p_goto (tgt := 15) k113_47 (by decide) ?_
          rw [upc_sw _ (show 39 ≠ 40 by decide), upc_uu]
          exact ih (m + 1) _ _ (by omega) (hu.st hna6 (by omega)) (NTD.nx (na := na) hv)
      exact L2 na 0 u g (by omega) hu (fun a ha => absurd ha (Nat.not_lt_zero _))
  refine p_self 40 ?_
  rw [upc_sw _ (show 39 ≠ 40 by decide)]
  exact L nh 0 (I 40) g (by omega) (fun k a h1 h2 => absurd h1 (Nat.not_lt_zero _))

set_option maxRecDepth 100000 in
set_option maxHeartbeats 4000000 in
theorem C_noted {d : Nat} {I : Nat → Nat → Int32} {J : Nat → Nat → Int64} {K : Nat → Nat → Option Nat} {h : List xSh} (S : St K h) {R0 : Nat → Nat → Int32} {nh na dd cb ce tw : Nat} (C : CR I K h R0 na tw) (M : MI R0 nh na dd cb ce) (Q : AR R0 nh na dd) (g : Nat → Int32) {u : Nat → Int32} (hu : NTD R0 cb ce nh na u) (v w : Int32) : EvP (d + 1) 114 0 [(0, .ref (0)), (1, .int (v)), (2, .int (w))] [] (upc (upc I 40 u) 39 g, J, K, h) (QI (fun x t => x = ntD R0 cb ce nh na v w ∧ t = (upc (upc I 40 u) 39 g, J, K, h))) := by
  have hnh6 := M.nh6
  have hna6 := M.na6
  refine p_aload_n k114_0 rfl ?_
  refine p_getRv k114_1 (s_0 S) f_11_14_11 (r_0_0 S) ?_
  refine p_iload_n k114_4 rfl ?_
  refine p_cV1i k114_5 (s_1 S) c_11_151_3 rfl (Nat.le_of_ble_eq_true rfl) (C_isHat S (I := (upc (upc I 40 u) 39 g)) (n := na) (show _ = nI na from C.hats.trans M.na) hna6 v) (fun x1 m1 hq => ?_)
  obtain ⟨rfl, rfl⟩ := hq
  refine p_if_eqB (tgt := 36) k114_8 (by decide) (fun cq8 => ?_) (fun cq8 => ?_)
  · skip
    refine p_iconst (v := nI 0) k114_36 (by decide) ?_
    refine p_ireturn k114_37 rt_114 ?_
    first | exact ⟨by unfold ntD; rw [if_pos ⟨cq8, cq19⟩, hca, hck], rfl⟩ | exact ⟨by unfold ntD; rw [if_neg (fun z => by first | (rw [cq8] at z; cases z.1; done) | (rw [cq19] at z; cases z.2))], rfl⟩
  · skip
    refine p_aload_n k114_11 rfl ?_
    refine p_getRv k114_12 (s_0 S) f_11_14_11 (r_0_0 S) ?_
    refine p_iload_n k114_15 rfl ?_
    refine p_cV1i k114_16 (s_1 S) c_11_173_3 rfl (Nat.le_of_ble_eq_true rfl) (C_isHead S (I := (upc (upc I 40 u) 39 g)) (n := nh) (show _ = nI nh from C.heads.trans M.nh) hnh6 w) (fun x1 m1 hq => ?_)
    obtain ⟨rfl, rfl⟩ := hq
    refine p_if_eqB (tgt := 36) k114_19 (by decide) (fun cq19 => ?_) (fun cq19 => ?_)
    · skip
      refine p_iconst (v := nI 0) k114_36 (by decide) ?_
      refine p_ireturn k114_37 rt_114 ?_
      first | exact ⟨by unfold ntD; rw [if_pos ⟨cq8, cq19⟩, hca, hck], rfl⟩ | exact ⟨by unfold ntD; rw [if_neg (fun z => by first | (rw [cq8] at z; cases z.1; done) | (rw [cq19] at z; cases z.2))], rfl⟩
    · skip
      obtain ⟨a, ha, rfl⟩ := ixB_of (n := na) (by omega) cq8
      have hca := nI_clamp (n := a) (by omega)
      obtain ⟨k, hk, rfl⟩ := ixB_of (n := nh) (by omega) cq19
      have hck := nI_clamp (n := k) (by omega)
      refine p_aload_n k114_22 rfl ?_
      refine p_getRv k114_23 (s_0 S) f_11_72_11 (r_0_11 S) ?_
      refine p_iload_n k114_26 rfl ?_
      refine p_bipush (v := nI 6) k114_27 (by decide) ?_
      refine p_imulN k114_29 ?_
      refine p_iload_n k114_30 rfl ?_
      refine p_iaddN k114_31 ?_
      refine p_ialdN k114_32 (s_40 S) (by omega) (by decide) (show _ = deedM R0 cb ce a k from hu k a hk ha) ?_
      refine p_goto (tgt := 37) k114_33 (by decide) ?_
      refine p_ireturn k114_37 rt_114 ?_
      first | exact ⟨by unfold ntD; rw [if_pos ⟨cq8, cq19⟩, hca, hck], rfl⟩ | exact ⟨by unfold ntD; rw [if_neg (fun z => by first | (rw [cq8] at z; cases z.1; done) | (rw [cq19] at z; cases z.2))], rfl⟩

def fHof (R : Nat → Nat → Int32) (q : Int32) (k n : Nat) : Nat := if R 106 k = q then n ||| 2 ^ k else n
set_option maxRecDepth 100000 in
set_option maxHeartbeats 4000000 in
theorem C_hatsOf {d : Nat} {I : Nat → Nat → Int32} {J : Nat → Nat → Int64} {K : Nat → Nat → Option Nat} {h : List xSh} (S : St K h) {R0 : Nat → Nat → Int32} {nh na dd cb ce tw : Nat} (C : CR I K h R0 na tw) (M : MI R0 nh na dd cb ce) (Q : AR R0 nh na dd) (q : Int32) : EvP d 115 0 [(0, .ref (0)), (1, .int (q))] [] (I, J, K, h) (QI (fun x t => x = nI (fld (fHof R0 q) na 0 0) ∧ t = (I, J, K, h))) := by
  have hnh6 := M.nh6
  have hna6 := M.na6
  refine p_iconst (v := nI 0) k115_0 (by decide) ?_
  refine p_istore_n (ls' := [(0, _), (1, _), (2, _)]) k115_1 rfl ?_
  refine p_iconst (v := nI 0) k115_2 (by decide) ?_
  refine p_istore_n (ls' := [(0, _), (1, _), (2, _), (3, _)]) k115_3 rfl ?_
  have L : ∀ (j : Nat) (k n : Nat), k + j = na → fld (fHof R0 q) j k n = fld (fHof R0 q) na 0 0 → EvP d 115 4 [(0, .ref (0)), (1, .int (q)), (2, .int (nI (n))), (3, .int (nI (k)))] [] (I, J, K, h) (QI (fun x t => x = nI (fld (fHof R0 q) na 0 0) ∧ t = (I, J, K, h))) := by
    intro j
    induction j with
    | zero =>
      intro k n hk
      intro hs
      refine p_iload_n k115_4 rfl ?_
      refine p_aload_n k115_5 rfl ?_
      refine p_getRv k115_6 (s_0 S) f_11_14_11 (r_0_0 S) ?_
      refine p_getIv k115_9 (s_1 S) f_11_108_3 (C.hats.trans M.na) ?_
      refine p_icmp_geN (tgt := 43) k115_12 (by decide) (by omega) (by omega) (fun _ => ?_) (fun c => False.elim (by omega))
      refine p_iload_n k115_43 rfl ?_
      refine p_ireturn k115_44 rt_115 ?_
      exact ⟨by rw [← hs]; rfl, rfl⟩
    | succ j ih =>
      intro k n hk
      intro hs
      refine p_iload_n k115_4 rfl ?_
      refine p_aload_n k115_5 rfl ?_
      refine p_getRv k115_6 (s_0 S) f_11_14_11 (r_0_0 S) ?_
      refine p_getIv k115_9 (s_1 S) f_11_108_3 (C.hats.trans M.na) ?_
      refine p_icmp_geN (tgt := 43) k115_12 (by decide) (by omega) (by omega) (fun c => False.elim (by omega)) (fun _ => ?_)
      obtain ⟨qq, kk, ⟨hKq, hq153⟩, ⟨hk7, hkR, hqs⟩, e0, e1, e2, e3, e4, e5⟩ := C.hat k (by omega)
      rcases (show kk = 0 ∨ kk = 1 ∨ kk = 2 ∨ kk = 3 ∨ kk = 4 ∨ kk = 5 ∨ kk = 6 by omega) with rfl | rfl | rfl | rfl | rfl | rfl | rfl
      · skip
        replace hqs : h[qq]? = some (.inl 2) := hqs
        refine p_aload_n k115_15 rfl ?_
        refine p_getRv k115_16 (s_0 S) f_11_14_11 (r_0_0 S) ?_
        refine p_getRv k115_19 (s_1 S) f_11_111_3 (r_1_5 S) ?_
        refine p_iload_n k115_22 rfl ?_
        refine p_aaldNj k115_23 (s_5 S) xaty_2 (by omega) (by decide) hKq ?_
        refine p_getIv k115_24 hqs f_11_163_2 e4 ?_
        refine p_iload_n k115_27 rfl ?_
        refine p_icmp_ne (tgt := 37) k115_28 (by decide) (fun cq28 => ?_) (fun cq28 => ?_)
        · skip
          refine p_iincN (ls1 := [(0, _), (1, _), (2, _), (3, _)]) k115_37 rfl rfl ?_
          refine p_goto (tgt := 4) k115_40 (by decide) ?_
          exact ih (k + 1) _ (by omega) (by rw [← hs]; exact congrArg (fld (fHof R0 q) j (k + 1)) (by unfold fHof; first | rw [if_pos cq28] | rw [if_neg cq28]))
        · skip
          refine p_iload_n k115_31 rfl ?_
          refine p_iconst (v := nI 1) k115_32 (by decide) ?_
          refine p_iload_n k115_33 rfl ?_
          refine p_ishl1 (by omega) k115_34 ?_
          refine p_iorN k115_35 ?_
          refine p_istore_n (ls' := [(0, _), (1, _), (2, _), (3, _)]) k115_36 rfl ?_
          refine p_iincN (ls1 := [(0, _), (1, _), (2, _), (3, _)]) k115_37 rfl rfl ?_
          refine p_goto (tgt := 4) k115_40 (by decide) ?_
          exact ih (k + 1) _ (by omega) (by rw [← hs]; exact congrArg (fld (fHof R0 q) j (k + 1)) (by unfold fHof; first | rw [if_pos cq28] | rw [if_neg cq28]))
      · skip
        replace hqs : h[qq]? = some (.inl 6) := hqs
        refine p_aload_n k115_15 rfl ?_
        refine p_getRv k115_16 (s_0 S) f_11_14_11 (r_0_0 S) ?_
        refine p_getRv k115_19 (s_1 S) f_11_111_3 (r_1_5 S) ?_
        refine p_iload_n k115_22 rfl ?_
        refine p_aaldNj k115_23 (s_5 S) xaty_2 (by omega) (by decide) hKq ?_
        refine p_getIv k115_24 hqs f_11_163_6 e4 ?_
        refine p_iload_n k115_27 rfl ?_
        refine p_icmp_ne (tgt := 37) k115_28 (by decide) (fun cq28 => ?_) (fun cq28 => ?_)
        · skip
          refine p_iincN (ls1 := [(0, _), (1, _), (2, _), (3, _)]) k115_37 rfl rfl ?_
          refine p_goto (tgt := 4) k115_40 (by decide) ?_
          exact ih (k + 1) _ (by omega) (by rw [← hs]; exact congrArg (fld (fHof R0 q) j (k + 1)) (by unfold fHof; first | rw [if_pos cq28] | rw [if_neg cq28]))
        · skip
          refine p_iload_n k115_31 rfl ?_
          refine p_iconst (v := nI 1) k115_32 (by decide) ?_
          refine p_iload_n k115_33 rfl ?_
          refine p_ishl1 (by omega) k115_34 ?_
          refine p_iorN k115_35 ?_
          refine p_istore_n (ls' := [(0, _), (1, _), (2, _), (3, _)]) k115_36 rfl ?_
          refine p_iincN (ls1 := [(0, _), (1, _), (2, _), (3, _)]) k115_37 rfl rfl ?_
          refine p_goto (tgt := 4) k115_40 (by decide) ?_
          exact ih (k + 1) _ (by omega) (by rw [← hs]; exact congrArg (fld (fHof R0 q) j (k + 1)) (by unfold fHof; first | rw [if_pos cq28] | rw [if_neg cq28]))
      · skip
        replace hqs : h[qq]? = some (.inl 10) := hqs
        refine p_aload_n k115_15 rfl ?_
        refine p_getRv k115_16 (s_0 S) f_11_14_11 (r_0_0 S) ?_
        refine p_getRv k115_19 (s_1 S) f_11_111_3 (r_1_5 S) ?_
        refine p_iload_n k115_22 rfl ?_
        refine p_aaldNj k115_23 (s_5 S) xaty_2 (by omega) (by decide) hKq ?_
        refine p_getIv k115_24 hqs f_11_163_10 e4 ?_
        refine p_iload_n k115_27 rfl ?_
        refine p_icmp_ne (tgt := 37) k115_28 (by decide) (fun cq28 => ?_) (fun cq28 => ?_)
        · skip
          refine p_iincN (ls1 := [(0, _), (1, _), (2, _), (3, _)]) k115_37 rfl rfl ?_
          refine p_goto (tgt := 4) k115_40 (by decide) ?_
          exact ih (k + 1) _ (by omega) (by rw [← hs]; exact congrArg (fld (fHof R0 q) j (k + 1)) (by unfold fHof; first | rw [if_pos cq28] | rw [if_neg cq28]))
        · skip
          refine p_iload_n k115_31 rfl ?_
          refine p_iconst (v := nI 1) k115_32 (by decide) ?_
          refine p_iload_n k115_33 rfl ?_
          refine p_ishl1 (by omega) k115_34 ?_
          refine p_iorN k115_35 ?_
          refine p_istore_n (ls' := [(0, _), (1, _), (2, _), (3, _)]) k115_36 rfl ?_
          refine p_iincN (ls1 := [(0, _), (1, _), (2, _), (3, _)]) k115_37 rfl rfl ?_
          refine p_goto (tgt := 4) k115_40 (by decide) ?_
          exact ih (k + 1) _ (by omega) (by rw [← hs]; exact congrArg (fld (fHof R0 q) j (k + 1)) (by unfold fHof; first | rw [if_pos cq28] | rw [if_neg cq28]))
      · skip
        replace hqs : h[qq]? = some (.inl 0) := hqs
        refine p_aload_n k115_15 rfl ?_
        refine p_getRv k115_16 (s_0 S) f_11_14_11 (r_0_0 S) ?_
        refine p_getRv k115_19 (s_1 S) f_11_111_3 (r_1_5 S) ?_
        refine p_iload_n k115_22 rfl ?_
        refine p_aaldNj k115_23 (s_5 S) xaty_2 (by omega) (by decide) hKq ?_
        refine p_getIv k115_24 hqs f_11_163_0 e4 ?_
        refine p_iload_n k115_27 rfl ?_
        refine p_icmp_ne (tgt := 37) k115_28 (by decide) (fun cq28 => ?_) (fun cq28 => ?_)
        · skip
          refine p_iincN (ls1 := [(0, _), (1, _), (2, _), (3, _)]) k115_37 rfl rfl ?_
          refine p_goto (tgt := 4) k115_40 (by decide) ?_
          exact ih (k + 1) _ (by omega) (by rw [← hs]; exact congrArg (fld (fHof R0 q) j (k + 1)) (by unfold fHof; first | rw [if_pos cq28] | rw [if_neg cq28]))
        · skip
          refine p_iload_n k115_31 rfl ?_
          refine p_iconst (v := nI 1) k115_32 (by decide) ?_
          refine p_iload_n k115_33 rfl ?_
          refine p_ishl1 (by omega) k115_34 ?_
          refine p_iorN k115_35 ?_
          refine p_istore_n (ls' := [(0, _), (1, _), (2, _), (3, _)]) k115_36 rfl ?_
          refine p_iincN (ls1 := [(0, _), (1, _), (2, _), (3, _)]) k115_37 rfl rfl ?_
          refine p_goto (tgt := 4) k115_40 (by decide) ?_
          exact ih (k + 1) _ (by omega) (by rw [← hs]; exact congrArg (fld (fHof R0 q) j (k + 1)) (by unfold fHof; first | rw [if_pos cq28] | rw [if_neg cq28]))
      · skip
        replace hqs : h[qq]? = some (.inl 4) := hqs
        refine p_aload_n k115_15 rfl ?_
        refine p_getRv k115_16 (s_0 S) f_11_14_11 (r_0_0 S) ?_
        refine p_getRv k115_19 (s_1 S) f_11_111_3 (r_1_5 S) ?_
        refine p_iload_n k115_22 rfl ?_
        refine p_aaldNj k115_23 (s_5 S) xaty_2 (by omega) (by decide) hKq ?_
        refine p_getIv k115_24 hqs f_11_163_4 e4 ?_
        refine p_iload_n k115_27 rfl ?_
        refine p_icmp_ne (tgt := 37) k115_28 (by decide) (fun cq28 => ?_) (fun cq28 => ?_)
        · skip
          refine p_iincN (ls1 := [(0, _), (1, _), (2, _), (3, _)]) k115_37 rfl rfl ?_
          refine p_goto (tgt := 4) k115_40 (by decide) ?_
          exact ih (k + 1) _ (by omega) (by rw [← hs]; exact congrArg (fld (fHof R0 q) j (k + 1)) (by unfold fHof; first | rw [if_pos cq28] | rw [if_neg cq28]))
        · skip
          refine p_iload_n k115_31 rfl ?_
          refine p_iconst (v := nI 1) k115_32 (by decide) ?_
          refine p_iload_n k115_33 rfl ?_
          refine p_ishl1 (by omega) k115_34 ?_
          refine p_iorN k115_35 ?_
          refine p_istore_n (ls' := [(0, _), (1, _), (2, _), (3, _)]) k115_36 rfl ?_
          refine p_iincN (ls1 := [(0, _), (1, _), (2, _), (3, _)]) k115_37 rfl rfl ?_
          refine p_goto (tgt := 4) k115_40 (by decide) ?_
          exact ih (k + 1) _ (by omega) (by rw [← hs]; exact congrArg (fld (fHof R0 q) j (k + 1)) (by unfold fHof; first | rw [if_pos cq28] | rw [if_neg cq28]))
      · skip
        replace hqs : h[qq]? = some (.inl 1) := hqs
        refine p_aload_n k115_15 rfl ?_
        refine p_getRv k115_16 (s_0 S) f_11_14_11 (r_0_0 S) ?_
        refine p_getRv k115_19 (s_1 S) f_11_111_3 (r_1_5 S) ?_
        refine p_iload_n k115_22 rfl ?_
        refine p_aaldNj k115_23 (s_5 S) xaty_2 (by omega) (by decide) hKq ?_
        refine p_getIv k115_24 hqs f_11_163_1 e4 ?_
        refine p_iload_n k115_27 rfl ?_
        refine p_icmp_ne (tgt := 37) k115_28 (by decide) (fun cq28 => ?_) (fun cq28 => ?_)
        · skip
          refine p_iincN (ls1 := [(0, _), (1, _), (2, _), (3, _)]) k115_37 rfl rfl ?_
          refine p_goto (tgt := 4) k115_40 (by decide) ?_
          exact ih (k + 1) _ (by omega) (by rw [← hs]; exact congrArg (fld (fHof R0 q) j (k + 1)) (by unfold fHof; first | rw [if_pos cq28] | rw [if_neg cq28]))
        · skip
          refine p_iload_n k115_31 rfl ?_
          refine p_iconst (v := nI 1) k115_32 (by decide) ?_
          refine p_iload_n k115_33 rfl ?_
          refine p_ishl1 (by omega) k115_34 ?_
          refine p_iorN k115_35 ?_
          refine p_istore_n (ls' := [(0, _), (1, _), (2, _), (3, _)]) k115_36 rfl ?_
          refine p_iincN (ls1 := [(0, _), (1, _), (2, _), (3, _)]) k115_37 rfl rfl ?_
          refine p_goto (tgt := 4) k115_40 (by decide) ?_
          exact ih (k + 1) _ (by omega) (by rw [← hs]; exact congrArg (fld (fHof R0 q) j (k + 1)) (by unfold fHof; first | rw [if_pos cq28] | rw [if_neg cq28]))
      · skip
        replace hqs : h[qq]? = some (.inl 7) := hqs
        refine p_aload_n k115_15 rfl ?_
        refine p_getRv k115_16 (s_0 S) f_11_14_11 (r_0_0 S) ?_
        refine p_getRv k115_19 (s_1 S) f_11_111_3 (r_1_5 S) ?_
        refine p_iload_n k115_22 rfl ?_
        refine p_aaldNj k115_23 (s_5 S) xaty_2 (by omega) (by decide) hKq ?_
        refine p_getIv k115_24 hqs f_11_163_7 e4 ?_
        refine p_iload_n k115_27 rfl ?_
        refine p_icmp_ne (tgt := 37) k115_28 (by decide) (fun cq28 => ?_) (fun cq28 => ?_)
        · skip
          refine p_iincN (ls1 := [(0, _), (1, _), (2, _), (3, _)]) k115_37 rfl rfl ?_
          refine p_goto (tgt := 4) k115_40 (by decide) ?_
          exact ih (k + 1) _ (by omega) (by rw [← hs]; exact congrArg (fld (fHof R0 q) j (k + 1)) (by unfold fHof; first | rw [if_pos cq28] | rw [if_neg cq28]))
        · skip
          refine p_iload_n k115_31 rfl ?_
          refine p_iconst (v := nI 1) k115_32 (by decide) ?_
          refine p_iload_n k115_33 rfl ?_
          refine p_ishl1 (by omega) k115_34 ?_
          refine p_iorN k115_35 ?_
          refine p_istore_n (ls' := [(0, _), (1, _), (2, _), (3, _)]) k115_36 rfl ?_
          refine p_iincN (ls1 := [(0, _), (1, _), (2, _), (3, _)]) k115_37 rfl rfl ?_
          refine p_goto (tgt := 4) k115_40 (by decide) ?_
          exact ih (k + 1) _ (by omega) (by rw [← hs]; exact congrArg (fld (fHof R0 q) j (k + 1)) (by unfold fHof; first | rw [if_pos cq28] | rw [if_neg cq28]))
  exact L na 0 0 (by omega) rfl

