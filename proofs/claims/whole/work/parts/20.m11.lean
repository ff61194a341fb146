/-! the reference: dueFor, layDeeds -/
def dueP (I : Nat → Nat → Int32) (q : Nat) : Nat → Bool := fun o => decide (I 100 o = I 101 q)
def dueM (I : Nat → Nat → Int32) (nh q : Nat) : Int32 := if I 101 q < 0 then -1 else optI (-1) (fnd (dueP I q) nh 0)
theorem i_ge0 {x : Int32} (h : 0 ≤ x) : ¬ x < 0 := by rw [i_lt]; rw [i_le] at h; exact Int.not_lt.mpr h
theorem i_lt0 {x : Int32} (h : ¬ 0 ≤ x) : x < 0 := by rw [i_lt]; rw [i_le] at h; exact Int.not_le.mp h
set_option maxRecDepth 100000 in
set_option maxHeartbeats 4000000 in
theorem M_dueFor {d : Nat} {I : Nat → Nat → Int32} {J : Nat → Nat → Int64} {K : Nat → Nat → Option Nat} {h : List xSh} (S : St K h) {nh na dd cb ce : Nat} (M : MI I nh na dd cb ce) {q : Nat} (hq : q < 6) : EvP d 193 0 [(0, .ref (98)), (1, .int (nI (q)))] [] (I, J, K, h) (QI (fun x t => x = dueM I nh q ∧ t = (I, J, K, h))) := by
  have hnh := M.nh
  have hnh6 := M.nh6
  have hna := M.na
  have hna6 := M.na6
  refine p_aload_n k193_0 rfl ?_
  refine p_getRv k193_1 (s_98 S) f_12_26_12 (r_98_5 S) ?_
  refine p_iload_n k193_4 rfl ?_
  refine p_ialdN k193_5 (s_101 S) (by omega) (by decide) rfl ?_
  refine p_if_ge (tgt := 11) k193_6 (by decide) (fun c6 => ?_) (fun c6 => ?_)
  · skip
    refine p_iconst (v := nI 0) k193_11 (by decide) ?_
    refine p_istore_n (ls' := [(0, _), (1, _), (2, _)]) k193_12 rfl ?_
    have L : ∀ (j : Nat) (k : Nat), k + j = nh → dueM I nh q = optI (-1) (fnd (dueP I q) j k) → EvP d 193 13 [(0, .ref (98)), (1, .int (nI (q))), (2, .int (nI (k)))] [] (I, J, K, h) (QI (fun x t => x = dueM I nh q ∧ t = (I, J, K, h))) := by
      intro j
      induction j with
      | zero =>
        intro k hk
        intro hs
        refine p_iload_n k193_13 rfl ?_
        refine p_aload_n k193_14 rfl ?_
        refine p_getIv k193_15 (s_98 S) f_12_7_12 M.nh ?_
        refine p_icmp_geN (tgt := 44) k193_18 (by decide) (by omega) (by omega) (fun _ => ?_) (fun c => False.elim (by omega))
        refine p_iconst (v := (-1)) k193_44 (by decide) ?_
        refine p_ireturn k193_45 rt_193 ?_
        exact ⟨hs.symm, rfl⟩
      | succ j ih =>
        intro k hk
        intro hs
        refine p_iload_n k193_13 rfl ?_
        refine p_aload_n k193_14 rfl ?_
        refine p_getIv k193_15 (s_98 S) f_12_7_12 M.nh ?_
        refine p_icmp_geN (tgt := 44) k193_18 (by decide) (by omega) (by omega) (fun c => False.elim (by omega)) (fun _ => ?_)
        refine p_aload_n k193_21 rfl ?_
        refine p_getRv k193_22 (s_98 S) f_12_23_12 (r_98_4 S) ?_
        refine p_iload_n k193_25 rfl ?_
        refine p_ialdN k193_26 (s_100 S) (by omega) (by decide) rfl ?_
        refine p_aload_n k193_27 rfl ?_
        refine p_getRv k193_28 (s_98 S) f_12_26_12 (r_98_5 S) ?_
        refine p_iload_n k193_31 rfl ?_
        refine p_ialdN k193_32 (s_101 S) (by omega) (by decide) rfl ?_
        refine p_icmp_ne (tgt := 38) k193_33 (by decide) (fun c33 => ?_) (fun c33 => ?_)
        · skip
          refine p_iincN (ls1 := [(0, _), (1, _), (2, _)]) k193_38 rfl rfl ?_
          refine p_goto (tgt := 13) k193_41 (by decide) ?_
          exact ih (k + 1) (by omega) (by rw [hs]; congr 1; exact if_neg (by unfold dueP; rw [decide_eq_true_iff]; exact c33))
        · skip
          refine p_iload_n k193_36 rfl ?_
          refine p_ireturn k193_37 rt_193 ?_
          exact ⟨by rw [hs, show fnd (dueP I q) (j + 1) k = some k from if_pos (by unfold dueP; rw [decide_eq_true_iff]; exact c33)]; rfl, rfl⟩
    exact L nh 0 (by omega) (if_neg (i_ge0 c6))
  · skip
    refine p_iconst (v := (-1)) k193_9 (by decide) ?_
    refine p_ireturn k193_10 rt_193 ?_
    exact ⟨(if_pos (i_lt0 c6)).symm, rfl⟩

def fLayH (I : Nat → Nat → Int32) (cb ce a k : Nat) (u : Nat → Int32) : Nat → Int32 := upc u (6 * a + k) (deedM I cb ce a k)
def fLayA (I : Nat → Nat → Int32) (nh cb ce a : Nat) (u : Nat → Int32) : Nat → Int32 := fld (fLayH I cb ce a) nh 0 u
def layU (I : Nat → Nat → Int32) (nh na cb ce : Nat) : Nat → Int32 := fld (fLayA I nh cb ce) na 0 (I 125)
set_option maxRecDepth 100000 in
set_option maxHeartbeats 4000000 in
theorem M_layDeeds {d : Nat} {I : Nat → Nat → Int32} {J : Nat → Nat → Int64} {K : Nat → Nat → Option Nat} {h : List xSh} (S : St K h) {nh na dd cb ce : Nat} (M : MI I nh na dd cb ce) (g : Nat → Int32) : EvP (d + 4) 185 0 [(0, .ref (98))] [] (upc I 120 g, J, K, h) (QV (fun t => ∃ g, t = (upc (upc I 125 (layU I nh na cb ce)) 120 g, J, K, h))) := by
  have hnh : upc I 120 g 98 0 = nI nh := M.nh
  have hnh6 := M.nh6
  have hna : upc I 120 g 98 1 = nI na := M.na
  have hna6 := M.na6
  refine p_iconst (v := nI 0) k185_0 (by decide) ?_
  refine p_istore_n (ls' := [(0, _), (1, _)]) k185_1 rfl ?_
  have L : ∀ (j : Nat) (k : Nat) (u g : Nat → Int32), k + j = na → fld (fLayA I nh cb ce) j k u = layU I nh na cb ce → EvP (d + 4) 185 2 [(0, .ref (98)), (1, .int (nI (k)))] [] (upc (upc I 125 u) 120 g, J, K, h) (QV (fun t => ∃ g, t = (upc (upc I 125 (layU I nh na cb ce)) 120 g, J, K, h))) := by
    intro j
    induction j with
    | zero =>
      intro k u g hk
      intro hs
      refine p_iload_n k185_2 rfl ?_
      refine p_aload_n k185_3 rfl ?_
      refine p_getIv k185_4 (s_98 S) f_12_13_12 M.na ?_
      refine p_icmp_geN (tgt := 49) k185_7 (by decide) (by omega) (by omega) (fun _ => ?_) (fun c => False.elim (by omega))
      refine p_return k185_49 rt_185 ?_
      exact ⟨g, by rw [← hs]; rfl⟩
    | succ j ih =>
      intro k u g hk
      intro hs
      have ih0 := ih
      obtain ⟨j0, hj0⟩ : ∃ j0, j0 = j := ⟨j, rfl⟩
      subst hj0
      refine p_iload_n k185_2 rfl ?_
      refine p_aload_n k185_3 rfl ?_
      refine p_getIv k185_4 (s_98 S) f_12_13_12 M.na ?_
      refine p_icmp_geN (tgt := 49) k185_7 (by decide) (by omega) (by omega) (fun c => False.elim (by omega)) (fun _ => ?_)
      refine p_iconst (v := nI 0) k185_10 (by decide) ?_
      refine p_istore_n (ls' := [(0, _), (1, _), (2, _)]) k185_11 rfl ?_
      have L2 : ∀ (j : Nat) (m : Nat) (u g : Nat → Int32), m + j = nh → fld (fLayA I nh cb ce) j0 (k + 1) (fld (fLayH I cb ce k) j m u) = layU I nh na cb ce → EvP (d + 4) 185 12 [(0, .ref (98)), (1, .int (nI (k))), (2, .int (nI (m)))] [] (upc (upc I 125 u) 120 g, J, K, h) (QV (fun t => ∃ g, t = (upc (upc I 125 (layU I nh na cb ce)) 120 g, J, K, h))) := by
        intro j
        induction j with
        | zero =>
          intro m u g hk
          intro hs
          refine p_iload_n k185_12 rfl ?_
          refine p_aload_n k185_13 rfl ?_
          refine p_getIv k185_14 (s_98 S) f_12_7_12 M.nh ?_
          refine p_icmp_geN (tgt := 43) k185_17 (by decide) (by omega) (by omega) (fun _ => ?_) (fun c => False.elim (by omega))
          refine p_iincN (ls1 := [(0, _), (1, _), (2, _)]) k185_43 rfl rfl ?_
          refine p_goto (tgt := 2) k185_46 (by decide) ?_
          refine p_drop [0, 1] rfl ?_
          exact ih0 (k + 1) _ _ (by omega) hs
        | succ j ih =>
          intro m u g hk
          intro hs
          refine p_iload_n k185_12 rfl ?_
          refine p_aload_n k185_13 rfl ?_
          refine p_getIv k185_14 (s_98 S) f_12_7_12 M.nh ?_
          refine p_icmp_geN (tgt := 43) k185_17 (by decide) (by omega) (by omega) (fun c => False.elim (by omega)) (fun _ => ?_)
          refine p_aload_n k185_20 rfl ?_
          refine p_getRv k185_21 (s_98 S) f_12_129_12 (r_98_39 S) ?_
          refine p_bipush (v := nI 6) k185_24 (by decide) ?_
          refine p_iload_n k185_26 rfl ?_
          refine p_imulN k185_27 ?_
          refine p_iload_n k185_28 rfl ?_
          refine p_iaddN k185_29 ?_
          refine p_aload_n k185_30 rfl ?_
          refine p_iload_n k185_31 rfl ?_
          refine p_iload_n k185_32 rfl ?_
          refine p_cV2i k185_33 (s_98 S) c_12_341_12 rfl rfl (Nat.le_of_ble_eq_true rfl) (M_deed2 S (show MI (upc I 125 u) nh na dd cb ce from M) g (a := k) (hh := m) (by omega) (by omega)) (fun x1 m1 hq => ?_)
          obtain ⟨rfl, g, rfl⟩ := hq
          refine p_iastN k185_36 (s_125 S) (by omega) (by decide) ?_
          refine p_iincN (ls1 := [(0, _), (1, _), (2, _)]) k185_37 rfl rfl ?_
          refine p_goto (tgt := 12) k185_40 (by decide) ?_
          rw [upc_sw _ (show 120 ≠ 125 by decide), upc_uu]
          exact ih (m + 1) _ _ (by omega) hs
      exact L2 nh 0 u g (by omega) hs
  refine p_self 125 ?_
  rw [upc_sw _ (show 120 ≠ 125 by decide)]
  exact L na 0 (I 125) g (by omega) rfl

