/-! the class: wearers, wore, who -/
theorem fCan_no {w q : Nat → Int32} {a x : Int32} : ∀ (j k : Nat), fld (fCan w q a x) j k false = false := by
  intro j
  induction j with
  | zero => intro k; rfl
  | succ j ih => intro k; exact ih (k + 1)
set_option maxRecDepth 100000 in
set_option maxHeartbeats 4000000 in
theorem C_isAsSeen {d : Nat} {I : Nat → Nat → Int32} {J : Nat → Nat → Int64} {K : Nat → Nat → Option Nat} {h : List xSh} (S : St K h) {R0 : Nat → Nat → Int32} {nh na dd cb ce tw : Nat} (C : CR I K h R0 na tw) (M : MI R0 nh na dd cb ce) (Q : AR R0 nh na dd) (g : Nat → Int32) {sn : Nat} (hsn : R0 98 43 = nI sn) (hs6 : sn ≤ 6) {a : Nat} (ha : a < na) (x : Int32) : EvP d 124 0 [(0, .ref (0)), (1, .int (nI (a))), (2, .int (x))] [] (upc I 39 g, J, K, h) (QI (fun z t => z = bI (fld (fCan (R0 128) (R0 129) (nI a) x) sn 0 true) ∧ t = (upc I 39 g, J, K, h))) := by
  have hnh6 := M.nh6
  have hna6 := M.na6
  refine p_iconst (v := nI 0) k124_0 (by decide) ?_
  refine p_istore_n (ls' := [(0, _), (1, _), (2, _), (3, _)]) k124_1 rfl ?_
  have L : ∀ (j : Nat) (k : Nat), k + j = sn → fld (fCan (R0 128) (R0 129) (nI a) x) j k true = fld (fCan (R0 128) (R0 129) (nI a) x) sn 0 true → EvP d 124 2 [(0, .ref (0)), (1, .int (nI (a))), (2, .int (x)), (3, .int (nI (k)))] [] (upc I 39 g, J, K, h) (QI (fun z t => z = bI (fld (fCan (R0 128) (R0 129) (nI a) x) sn 0 true) ∧ t = (upc I 39 g, J, K, h))) := by
    intro j
    induction j with
    | zero =>
      intro k hk
      intro hs
      refine p_iload_n k124_2 rfl ?_
      refine p_aload_n k124_3 rfl ?_
      refine p_getRv k124_4 (s_0 S) f_11_14_11 (r_0_0 S) ?_
      refine p_getIv k124_7 (s_1 S) f_11_251_3 (show _ = nI sn from C.seen.trans hsn) ?_
      refine p_icmp_geN (tgt := 47) k124_10 (by decide) (by omega) (by omega) (fun _ => ?_) (fun c => False.elim (by omega))
      refine p_iconst (v := bI true) k124_47 (by decide) ?_
      refine p_returnB k124_48 rt_124 ?_
      exact ⟨by rw [← hs]; rfl, rfl⟩
    | succ j ih =>
      intro k hk
      intro hs
      refine p_iload_n k124_2 rfl ?_
      refine p_aload_n k124_3 rfl ?_
      refine p_getRv k124_4 (s_0 S) f_11_14_11 (r_0_0 S) ?_
      refine p_getIv k124_7 (s_1 S) f_11_251_3 (show _ = nI sn from C.seen.trans hsn) ?_
      refine p_icmp_geN (tgt := 47) k124_10 (by decide) (by omega) (by omega) (fun c => False.elim (by omega)) (fun _ => ?_)
      refine p_aload_n k124_13 rfl ?_
      refine p_getRv k124_14 (s_0 S) f_11_14_11 (r_0_0 S) ?_
      refine p_getRv k124_17 (s_1 S) f_11_254_3 (r_1_12 S) ?_
      refine p_iload_n k124_20 rfl ?_
      refine p_ialdN k124_21 (s_10 S) (by omega) (by decide) (show _ = R0 128 k from congrFun C.a10 k) ?_
      refine p_iload_n k124_22 rfl ?_
      refine p_icmp_ne (tgt := 41) k124_23 (by decide) (fun cq23 => ?_) (fun cq23 => ?_)
      · skip
        refine p_iincN (ls1 := [(0, _), (1, _), (2, _), (3, _)]) k124_41 rfl rfl ?_
        refine p_goto (tgt := 2) k124_44 (by decide) ?_
        exact ih (k + 1) (by omega) (by rw [← hs]; exact congrArg (fld (fCan (R0 128) (R0 129) (nI a) x) j (k + 1)) (by unfold fCan; first | (rw [decide_eq_false cq23]; rfl) | (rw [decide_eq_true cq36, Bool.or_true]; rfl)))
      · skip
        refine p_aload_n k124_26 rfl ?_
        refine p_getRv k124_27 (s_0 S) f_11_14_11 (r_0_0 S) ?_
        refine p_getRv k124_30 (s_1 S) f_11_257_3 (r_1_13 S) ?_
        refine p_iload_n k124_33 rfl ?_
        refine p_ialdN k124_34 (s_11 S) (by omega) (by decide) (show _ = R0 129 k from congrFun C.a11 k) ?_
        refine p_iload_n k124_35 rfl ?_
        refine p_icmp_eq (tgt := 41) k124_36 (by decide) (fun cq36 => ?_) (fun cq36 => ?_)
        · skip
          refine p_iincN (ls1 := [(0, _), (1, _), (2, _), (3, _)]) k124_41 rfl rfl ?_
          refine p_goto (tgt := 2) k124_44 (by decide) ?_
          exact ih (k + 1) (by omega) (by rw [← hs]; exact congrArg (fld (fCan (R0 128) (R0 129) (nI a) x) j (k + 1)) (by unfold fCan; first | (rw [decide_eq_false cq23]; rfl) | (rw [decide_eq_true cq36, Bool.or_true]; rfl)))
        · skip
          refine p_iconst (v := bI false) k124_39 (by decide) ?_
          refine p_returnB k124_40 rt_124 ?_
          exact ⟨by rw [← hs, show fld (fCan (R0 128) (R0 129) (nI a) x) (j + 1) k true = fld (fCan (R0 128) (R0 129) (nI a) x) j (k + 1) (fCan (R0 128) (R0 129) (nI a) x k true) from rfl, show fCan (R0 128) (R0 129) (nI a) x k true = false from by unfold fCan; rw [decide_eq_true cq23, decide_eq_false cq36]; rfl, fCan_no], rfl⟩
  exact L sn 0 (by omega) rfl

set_option maxRecDepth 100000 in
set_option maxHeartbeats 4000000 in
theorem C_isSeen {d : Nat} {I : Nat → Nat → Int32} {J : Nat → Nat → Int64} {K : Nat → Nat → Option Nat} {h : List xSh} (S : St K h) {R0 : Nat → Nat → Int32} {nh na dd cb ce tw : Nat} (C : CR I K h R0 na tw) (M : MI R0 nh na dd cb ce) (Q : AR R0 nh na dd) (g : Nat → Int32) {sn : Nat} (hsn : R0 98 43 = nI sn) (hs6 : sn ≤ 6) {a : Nat} (ha : a < na) : EvP d 123 0 [(0, .ref (0)), (1, .int (nI (a)))] [] (upc I 39 g, J, K, h) (QI (fun z t => z = bI (isSn R0 sn a) ∧ t = (upc I 39 g, J, K, h))) := by
  have hnh6 := M.nh6
  have hna6 := M.na6
  refine p_iconst (v := nI 0) k123_0 (by decide) ?_
  refine p_istore_n (ls' := [(0, _), (1, _), (2, _)]) k123_1 rfl ?_
  have L : ∀ (j : Nat) (k : Nat), k + j = sn → (fnd (fun k => decide (R0 128 k = nI a)) j k).isSome = isSn R0 sn a → EvP d 123 2 [(0, .ref (0)), (1, .int (nI (a))), (2, .int (nI (k)))] [] (upc I 39 g, J, K, h) (QI (fun z t => z = bI (isSn R0 sn a) ∧ t = (upc I 39 g, J, K, h))) := by
    intro j
    induction j with
    | zero =>
      intro k hk
      intro hs
      refine p_iload_n k123_2 rfl ?_
      refine p_aload_n k123_3 rfl ?_
      refine p_getRv k123_4 (s_0 S) f_11_14_11 (r_0_0 S) ?_
      refine p_getIv k123_7 (s_1 S) f_11_251_3 (show _ = nI sn from C.seen.trans hsn) ?_
      refine p_icmp_geN (tgt := 34) k123_10 (by decide) (by omega) (by omega) (fun _ => ?_) (fun c => False.elim (by omega))
      refine p_iconst (v := bI false) k123_34 (by decide) ?_
      refine p_returnB k123_35 rt_123 ?_
      exact ⟨by rw [← hs]; rfl, rfl⟩
    | succ j ih =>
      intro k hk
      intro hs
      refine p_iload_n k123_2 rfl ?_
      refine p_aload_n k123_3 rfl ?_
      refine p_getRv k123_4 (s_0 S) f_11_14_11 (r_0_0 S) ?_
      refine p_getIv k123_7 (s_1 S) f_11_251_3 (show _ = nI sn from C.seen.trans hsn) ?_
      refine p_icmp_geN (tgt := 34) k123_10 (by decide) (by omega) (by omega) (fun c => False.elim (by omega)) (fun _ => ?_)
      refine p_aload_n k123_13 rfl ?_
      refine p_getRv k123_14 (s_0 S) f_11_14_11 (r_0_0 S) ?_
      refine p_getRv k123_17 (s_1 S) f_11_254_3 (r_1_12 S) ?_
      refine p_iload_n k123_20 rfl ?_
      refine p_ialdN k123_21 (s_10 S) (by omega) (by decide) (show _ = R0 128 k from congrFun C.a10 k) ?_
      refine p_iload_n k123_22 rfl ?_
      refine p_icmp_ne (tgt := 28) k123_23 (by decide) (fun cq23 => ?_) (fun cq23 => ?_)
      · skip
        refine p_iincN (ls1 := [(0, _), (1, _), (2, _)]) k123_28 rfl rfl ?_
        refine p_goto (tgt := 2) k123_31 (by decide) ?_
        exact ih (k + 1) (by omega) (by rw [← hs, show fnd (fun k => decide (R0 128 k = nI a)) (j + 1) k = fnd (fun k => decide (R0 128 k = nI a)) j (k + 1) from if_neg (by show ¬ decide (R0 128 k = nI a) = true; rw [decide_eq_false cq23]; decide)])
      · skip
        refine p_iconst (v := bI true) k123_26 (by decide) ?_
        refine p_returnB k123_27 rt_123 ?_
        exact ⟨by rw [← hs, show fnd (fun k => decide (R0 128 k = nI a)) (j + 1) k = some k from if_pos (decide_eq_true cq23)]; rfl, rfl⟩
  exact L sn 0 (by omega) rfl

set_option maxRecDepth 100000 in
set_option maxHeartbeats 4000000 in
theorem C_wearers {d : Nat} {I : Nat → Nat → Int32} {J : Nat → Nat → Int64} {K : Nat → Nat → Option Nat} {h : List xSh} (S : St K h) {R0 : Nat → Nat → Int32} {nh na dd cb ce tw : Nat} (C : CR I K h R0 na tw) (M : MI R0 nh na dd cb ce) (Q : AR R0 nh na dd) (g : Nat → Int32) {sn : Nat} (hsn : R0 98 43 = nI sn) (hs6 : sn ≤ 6) {a : Nat} (ha : a < na) : EvP (d + 6) 125 0 [(0, .ref (0)), (1, .int (nI (a)))] [] (upc I 39 g, J, K, h) (QI (fun x t => x = nI (wonM R0 cb ce nh sn a) ∧ ∃ g, t = (upc I 39 g, J, K, h))) := by
  have hnh6 := M.nh6
  have hna6 := M.na6
  refine p_iconst (v := nI 0) k125_0 (by decide) ?_
  refine p_istore_n (ls' := [(0, _), (1, _), (2, _)]) k125_1 rfl ?_
  refine p_iconst (v := nI 0) k125_2 (by decide) ?_
  refine p_istore_n (ls' := [(0, _), (1, _), (2, _), (3, _)]) k125_3 rfl ?_
  have L : ∀ (j : Nat) (k s : Nat) (g : Nat → Int32), k + j = nh → fld (fWon R0 cb ce sn a) j k s = wonM R0 cb ce nh sn a → EvP (d + 6) 125 4 [(0, .ref (0)), (1, .int (nI (a))), (2, .int (nI (s))), (3, .int (nI (k)))] [] (upc I 39 g, J, K, h) (QI (fun x t => x = nI (wonM R0 cb ce nh sn a) ∧ ∃ g, t = (upc I 39 g, J, K, h))) := by
    intro j
    induction j with
    | zero =>
      intro k s g hk
      intro hs
      refine p_iload_n k125_4 rfl ?_
      refine p_aload_n k125_5 rfl ?_
      refine p_getRv k125_6 (s_0 S) f_11_14_11 (r_0_0 S) ?_
      refine p_getIv k125_9 (s_1 S) f_11_89_3 (show _ = nI nh from C.heads.trans M.nh) ?_
      refine p_icmp_geN (tgt := 42) k125_12 (by decide) (by omega) (by omega) (fun _ => ?_) (fun c => False.elim (by omega))
      refine p_iload_n k125_42 rfl ?_
      refine p_ireturn k125_43 rt_125 ?_
      exact ⟨by rw [← hs]; rfl, g, rfl⟩
    | succ j ih =>
      intro k s g hk
      intro hs
      refine p_iload_n k125_4 rfl ?_
      refine p_aload_n k125_5 rfl ?_
      refine p_getRv k125_6 (s_0 S) f_11_14_11 (r_0_0 S) ?_
      refine p_getIv k125_9 (s_1 S) f_11_89_3 (show _ = nI nh from C.heads.trans M.nh) ?_
      refine p_icmp_geN (tgt := 42) k125_12 (by decide) (by omega) (by omega) (fun c => False.elim (by omega)) (fun _ => ?_)
      refine p_aload_n k125_15 rfl ?_
      refine p_iload_n k125_16 rfl ?_
      refine p_aload_n k125_17 rfl ?_
      refine p_iload_n k125_18 rfl ?_
      refine p_iload_n k125_19 rfl ?_
      refine p_iconst (v := nI 0) k125_20 (by decide) ?_
      refine p_cV3i k125_21 (s_0 S) c_11_176_11 rfl rfl rfl (Nat.le_of_ble_eq_true rfl) (C_deed0 S C M Q g (a := a) (hh := k) (by omega) (by omega)) (fun x1 m1 hq => ?_)
      obtain ⟨rfl, g, rfl⟩ := hq
      refine p_cV2i k125_24 (s_0 S) c_11_364_11 rfl rfl (Nat.le_of_ble_eq_true rfl) (C_isAsSeen S C M Q g hsn hs6 (a := a) ha (deedM R0 cb ce a k)) (fun x1 m1 hq => ?_)
      obtain ⟨rfl, rfl⟩ := hq
      rw [show fld (fCan (R0 128) (R0 129) (nI a) (deedM R0 cb ce a k)) sn 0 true = canM R0 cb ce sn a k from rfl]
      refine p_if_eqB (tgt := 36) k125_27 (by decide) (fun cq27 => ?_) (fun cq27 => ?_)
      · skip
        refine p_iincN (ls1 := [(0, _), (1, _), (2, _), (3, _)]) k125_36 rfl rfl ?_
        refine p_goto (tgt := 4) k125_39 (by decide) ?_
        exact ih (k + 1) _ _ (by omega) (by rw [← hs]; exact congrArg (fld (fWon R0 cb ce sn a) j (k + 1)) (by unfold fWon; first | (rw [if_pos cq27]; done) | (rw [if_neg (by rw [cq27]; decide), Nat.or_zero])))
      · skip
        refine p_iload_n k125_30 rfl ?_
        refine p_iconst (v := nI 1) k125_31 (by decide) ?_
        refine p_iload_n k125_32 rfl ?_
        refine p_ishl1 (by omega) k125_33 ?_
        refine p_iorN k125_34 ?_
        refine p_istore_n (ls' := [(0, _), (1, _), (2, _), (3, _)]) k125_35 rfl ?_
        refine p_iincN (ls1 := [(0, _), (1, _), (2, _), (3, _)]) k125_36 rfl rfl ?_
        refine p_goto (tgt := 4) k125_39 (by decide) ?_
        exact ih (k + 1) _ _ (by omega) (by rw [← hs]; exact congrArg (fld (fWon R0 cb ce sn a) j (k + 1)) (by unfold fWon; first | (rw [if_pos cq27]; done) | (rw [if_neg (by rw [cq27]; decide), Nat.or_zero])))
  exact L nh 0 0 g (by omega) rfl

set_option maxRecDepth 100000 in
set_option maxHeartbeats 4000000 in
theorem C_wore {d : Nat} {I : Nat → Nat → Int32} {J : Nat → Nat → Int64} {K : Nat → Nat → Option Nat} {h : List xSh} (S : St K h) {R0 : Nat → Nat → Int32} {nh na dd cb ce tw : Nat} (C : CR I K h R0 na tw) (M : MI R0 nh na dd cb ce) (Q : AR R0 nh na dd) (g : Nat → Int32) {sn : Nat} (hsn : R0 98 43 = nI sn) (hs6 : sn ≤ 6) (v : Int32) : EvP (d + 7) 84 0 [(0, .ref (0)), (1, .int (v))] [] (upc I 39 g, J, K, h) (QI (fun x t => x = woreM R0 cb ce nh na sn v ∧ ∃ g, t = (upc I 39 g, J, K, h))) := by
  have hnh6 := M.nh6
  have hna6 := M.na6
  refine p_aload_n k84_0 rfl ?_
  refine p_getRv k84_1 (s_0 S) f_11_14_11 (r_0_0 S) ?_
  refine p_iload_n k84_4 rfl ?_
  refine p_cV1i k84_5 (s_1 S) c_11_151_3 rfl (Nat.le_of_ble_eq_true rfl) (C_isHat S (n := na) (show upc I 39 g 1 4 = nI na from C.hats.trans M.na) hna6 (v)) (fun x1 m1 hq => ?_)
  obtain ⟨rfl, rfl⟩ := hq
  refine p_if_eqB (tgt := 19) k84_8 (by decide) (fun cq8 => ?_) (fun cq8 => ?_)
  · skip
    refine p_iconst (v := (-1)) k84_19 (by decide) ?_
    refine p_ireturn k84_20 rt_84 ?_
    first | exact ⟨by unfold woreM; rw [if_pos cq8, hca], g, rfl⟩ | exact ⟨by unfold woreM; rw [if_neg (by rw [cq8]; decide)], g, rfl⟩
  · skip
    obtain ⟨a, ha, rfl⟩ := ixB_of (n := na) (by omega) cq8
    have hca := nI_clamp (n := a) (by omega)
    refine p_aload_n k84_11 rfl ?_
    refine p_iload_n k84_12 rfl ?_
    refine p_cV1i k84_13 (s_0 S) c_11_260_11 rfl (Nat.le_of_ble_eq_true rfl) (C_wearers S C M Q g hsn hs6 (a := a) (by omega)) (fun x1 m1 hq => ?_)
    obtain ⟨rfl, g, rfl⟩ := hq
    refine p_goto (tgt := 20) k84_16 (by decide) ?_
    refine p_ireturn k84_20 rt_84 ?_
    first | exact ⟨by unfold woreM; rw [if_pos cq8, hca], g, rfl⟩ | exact ⟨by unfold woreM; rw [if_neg (by rw [cq8]; decide)], g, rfl⟩

theorem and2p {x m : Nat} : (x &&& 2 ^ m = 0) ↔ x.testBit m = false := by
  constructor
  · intro h
    have h2 := congrArg (fun z => Nat.testBit z m) h
    simp only [Nat.testBit_and, Nat.testBit_two_pow_self, Bool.and_true, Nat.zero_testBit] at h2
    exact h2
  · intro h
    refine Nat.eq_of_testBit_eq (fun i => ?_)
    rw [Nat.testBit_and, Nat.testBit_two_pow, Nat.zero_testBit]
    by_cases e : m = i
    · subst e; rw [h, Bool.false_and]
    · rw [decide_eq_false e, Bool.and_false]
theorem and_lt64 {x y : Nat} (hx : x < 64) : x &&& y < 64 := Nat.lt_of_le_of_lt Nat.and_le_left hx
/-- heads that are not there add nothing -/
theorem fWay6 {w : Nat → Int32} {on s nh : Nat} (h6 : nh ≤ 6) (hb : ∀ m, nh ≤ m → on.testBit m = false) : fld (fWay w on s) 6 0 (nI 0) = fld (fWay w on s) nh 0 (nI 0) := by
  have L : ∀ (j k : Nat) (x : Int32), nh ≤ k → fld (fWay w on s) j k x = x := by
    intro j
    induction j with
    | zero => intro k x _; rfl
    | succ j ih =>
      intro k x hk
      show fld (fWay w on s) j (k + 1) (fWay w on s k x) = x
      rw [ih (k + 1) _ (by omega)]
      unfold fWay
      rw [if_neg (fun z => by rw [hb k hk] at z; cases z.2)]
      exact Int32.add_zero _
  have G : ∀ (i j k : Nat) (x : Int32), fld (fWay w on s) (i + j) k x = fld (fWay w on s) j (k + i) (fld (fWay w on s) i k x) := by
    intro i
    induction i with
    | zero => intro j k x; rw [Nat.zero_add]; rfl
    | succ i ih =>
      intro j k x
      rw [show i + 1 + j = (i + j) + 1 by omega]
      show fld (fWay w on s) (i + j) (k + 1) (fWay w on s k x) = _
      rw [ih, show k + 1 + i = k + (i + 1) by omega]
      rfl
  have h := G nh (6 - nh) 0 (nI 0)
  rw [show nh + (6 - nh) = 6 by omega] at h
  rw [h, L _ _ _ (by omega)]
theorem won_bit {R : Nat → Nat → Int32} {cb ce nh sn a : Nat} : ∀ m, nh ≤ m → (wonM R cb ce nh sn a).testBit m = false := by
  intro m hm
  have L : ∀ (j k s : Nat), k + j = nh → s.testBit m = false → (fld (fWon R cb ce sn a) j k s).testBit m = false := by
    intro j
    induction j with
    | zero => intro k s _ hs; exact hs
    | succ j ih =>
      intro k s hk hs
      refine ih (k + 1) _ (by omega) ?_
      unfold fWon
      rw [Nat.testBit_or, hs, Bool.false_or]
      split
      · rw [Nat.testBit_two_pow, decide_eq_false (by omega)]
      · exact Nat.zero_testBit m
  exact L nh 0 0 (by omega) (Nat.zero_testBit m)
def clr64 (g : Nat → Int32) : Nat → Int32 := fun s => if s < 64 then nI 0 else g s
set_option maxRecDepth 100000 in
set_option maxHeartbeats 4000000 in
theorem C_fill {d : Nat} {I : Nat → Nat → Int32} {J : Nat → Nat → Int64} {K : Nat → Nat → Option Nat} {h : List xSh} (S : St K h)  : EvP d 242 0 [(0, .ref (42)), (1, .int (nI (0)))] [] (I, J, K, h) (QV (fun t => t = (upc I 42 (clr64 (I 42)), J, K, h))) := by
  refine p_iconst (v := nI 0) k242_0 (by decide) ?_
  refine p_istore_n (ls' := [(0, _), (1, _), (2, _)]) k242_1 rfl ?_
  refine p_aload_n k242_2 rfl ?_
  refine p_alen k242_3 (s_42 S) (Or.inl (Or.inl rfl)) ?_
  refine p_istore_n (ls' := [(0, _), (1, _), (2, _), (3, _)]) k242_4 rfl ?_
  have L : ∀ (j : Nat) (k : Nat) (u : Nat → Int32), k + j = 64 → (∀ s, s < k → u s = nI 0) → (∀ s, 64 ≤ s → u s = I 42 s) → EvP d 242 5 [(0, .ref (42)), (1, .int (nI (0))), (2, .int (nI (k))), (3, .int (nI (64)))] [] (upc I 42 u, J, K, h) (QV (fun t => t = (upc I 42 (clr64 (I 42)), J, K, h))) := by
    intro j
    induction j with
    | zero =>
      intro k u hk
      intro hu hv
      have hu2 : u = clr64 (I 42) := by
            funext s
            unfold clr64
            by_cases e : s < 64
            · rw [if_pos e]; exact hu s (by omega)
            · rw [if_neg e]; exact hv s (by omega)
      subst hu2
      refine p_iload_n k242_5 rfl ?_
      refine p_iload_n k242_6 rfl ?_
      refine p_icmp_geN (tgt := 20) k242_7 (by decide) (by omega) (by omega) (fun _ => ?_) (fun c => False.elim (by omega))
      refine p_return k242_20 rt_242 ?_
      exact rfl
    | succ j ih =>
      intro k u hk
      intro hu hv
      refine p_iload_n k242_5 rfl ?_
      refine p_iload_n k242_6 rfl ?_
      refine p_icmp_geN (tgt := 20) k242_7 (by decide) (by omega) (by omega) (fun c => False.elim (by omega)) (fun _ => ?_)
      refine p_aload_n k242_10 rfl ?_
      refine p_iload_n k242_11 rfl ?_
      refine p_iload_n k242_12 rfl ?_
      refine p_iastN k242_13 (s_42 S) (by omega) (by decide) ?_
      refine p_iincN (ls1 := [(0, _), (1, _), (2, _), (3, _)]) k242_14 rfl rfl ?_
      refine p_goto (tgt := 5) k242_17 (by decide) ?_
      rw [upc_uu, upc_eq]
      refine ih (k + 1) _ (by omega) (fun s hs => ?_) (fun s hs => (upc_ne _ _ (by omega)).trans (hv s hs))
      by_cases e : s = k
      · subst e; exact upc_eq _ _ _
      · exact (upc_ne _ _ e).trans (hu s (by omega))
  refine p_self 42 ?_
  exact L 64 0 (I 42) (by omega) (fun s hs => absurd hs (Nat.not_lt_zero _)) (fun s _ => rfl)

set_option maxRecDepth 100000 in
set_option maxHeartbeats 4000000 in
theorem C_addHatToWays {d : Nat} {I : Nat → Nat → Int32} {J : Nat → Nat → Int64} {K : Nat → Nat → Option Nat} {h : List xSh} (S : St K h) (w g : Nat → Int32) {on nh : Nat} (h6 : nh ≤ 6) (hon : on < 64) (hb : ∀ m, nh ≤ m → on.testBit m = false) : EvP d 126 0 [(0, .ref (0)), (1, .int (nI (on)))] [] (upc (upc I 42 (w)) 39 g, J, K, h) (QV (fun t => t = (upc (upc I 42 (wayS w on nh)) 39 g, J, K, h))) := by
  refine p_bipush (v := nI 63) k126_0 (by decide) ?_
  refine p_istore_n (ls' := [(0, _), (1, _), (2, _)]) k126_2 rfl ?_
  have L4 : ∀ (s : Nat), s < 64 → EvP d 126 3 [(0, .ref 0), (1, .int (nI on)), (2, .int (nI s))] [] (upc (upc I 42 (wayD w (wayS w on nh) (s + 1))) 39 g, J, K, h) (QV (fun t => t = (upc (upc I 42 (wayS w on nh)) 39 g, J, K, h))) := by
    intro s
    induction s with
    | zero =>
      intro hs64
      refine p_iload_n k126_3 rfl ?_
      refine p_if_ltN (tgt := 63) k126_4 (by decide) (by omega) ?_
      refine p_iconst (v := nI 0) k126_7 (by decide) ?_
      refine p_istore_n (ls' := [(0, _), (1, _), (2, _), (3, _)]) k126_8 rfl ?_
      refine p_iconst (v := nI 0) k126_9 (by decide) ?_
      refine p_istore (ls' := [(0, _), (1, _), (2, _), (3, _), (4, _)]) k126_10 rfl ?_
      have L5 : ∀ (j : Nat) (m : Nat) (x : Int32), m + j = 6 → fld (fWay w on 0) j m x = fld (fWay w on 0) 6 0 (nI 0) → EvP d 126 12 [(0, .ref (0)), (1, .int (nI (on))), (2, .int (nI (0))), (3, .int (x)), (4, .int (nI (m)))] [] (upc (upc I 42 (wayD w (wayS w on nh) (0 + 1))) 39 g, J, K, h) (QV (fun t => t = (upc (upc I 42 (wayS w on nh)) 39 g, J, K, h))) := by
        intro j
        induction j with
        | zero =>
          intro m x hk
          intro hx
          replace hx : x = _ := hx
          refine p_iload k126_12 rfl ?_
          refine p_bipush (v := nI 6) k126_14 (by decide) ?_
          refine p_icmp_geN (tgt := 50) k126_16 (by decide) (by omega) (by omega) (fun _ => ?_) (fun c => False.elim (by omega))
          refine p_aload_n k126_50 rfl ?_
          refine p_getRv k126_51 (s_0 S) f_11_78_11 (r_0_13 S) ?_
          refine p_iload_n k126_54 rfl ?_
          refine p_iload_n k126_55 rfl ?_
          refine p_iastN k126_56 (s_42 S) (by omega) (by decide) ?_
          rw [upc_sw _ (show 39 ≠ 42 by decide), upc_uu, show upc (upc I 42 (wayD w (wayS w on nh) (0 + 1))) 39 g 42 = wayD w (wayS w on nh) (0 + 1) from rfl, wayD_st (w := w) (w2 := wayS w on nh) (by unfold wayS; rw [if_pos (by omega), ← fWay6 h6 hb]; exact hx.symm)]
          rw [show wayD w (wayS w on nh) 0 = wayS w on nh from by funext z; exact if_neg (Nat.not_lt_zero _)]
          refine p_iinc (ls' := [(0, _), (1, _), (2, _), (3, _), (4, _)]) k126_57 rfl rfl rfl ?_
          refine p_goto (tgt := 3) k126_60 (by decide) ?_
          refine p_iload_n k126_3 rfl ?_
          refine p_if_lt (tgt := 63) k126_4 (by decide) (fun _ => ?_) (fun c => False.elim (by exact absurd (by decide) c))
          refine p_return k126_63 rt_126 ?_
          exact rfl
        | succ j ih =>
          intro m x hk
          intro hx
          refine p_iload k126_12 rfl ?_
          refine p_bipush (v := nI 6) k126_14 (by decide) ?_
          refine p_icmp_geN (tgt := 50) k126_16 (by decide) (by omega) (by omega) (fun c => False.elim (by omega)) (fun _ => ?_)
          refine p_iload_n k126_19 rfl ?_
          refine p_iload_n k126_20 rfl ?_
          refine p_iandN k126_21 ?_
          refine p_iconst (v := nI 1) k126_22 (by decide) ?_
          refine p_iload k126_23 rfl ?_
          refine p_ishl1 (by omega) k126_25 ?_
          refine p_iandN k126_26 ?_
          have hlt : (0 &&& on &&& 2 ^ m) < 64 := and_lt64 (and_lt64 (by omega))
          refine p_if_eqN (tgt := 44) k126_27 (by decide) (by omega) (fun cq27 => ?_) (fun cq27 => ?_)
          · skip
            refine p_iincN (ls1 := [(0, _), (1, _), (2, _), (3, _), (4, _)]) k126_44 rfl rfl ?_
            refine p_goto (tgt := 12) k126_47 (by decide) ?_
            exact ih (m + 1) _ (by omega) (by rw [← hx]; exact congrArg (fld (fWay w on 0) j (m + 1)) (by unfold fWay; first | (rw [if_pos hbb]; done) | (rw [if_neg (fun z => by have y := and2p.mp cq27; rw [Nat.testBit_and, z.1, z.2] at y; cases y)]; exact (Int32.add_zero _).symm)))
          · skip
            have hbb : (0 &&& on).testBit m = true := by cases z : (0 &&& on).testBit m with | true => rfl | false => exact absurd (and2p.mpr z) cq27
            rw [Nat.testBit_and, Bool.and_eq_true] at hbb
            have hxl := xor_lt6 (s := 0) (k := m) (by omega) (by omega) hbb.1
            refine p_iload_n k126_30 rfl ?_
            refine p_aload_n k126_31 rfl ?_
            refine p_getRv k126_32 (s_0 S) f_11_78_11 (r_0_13 S) ?_
            refine p_iload_n k126_35 rfl ?_
            refine p_iconst (v := nI 1) k126_36 (by decide) ?_
            refine p_iload k126_37 rfl ?_
            refine p_ishl1 (by omega) k126_39 ?_
            refine p_ixorN k126_40 ?_
            refine p_ialdN k126_41 (s_42 S) (by omega) (by decide) (show wayD w (wayS w on nh) (0 + 1) (0 ^^^ 2 ^ m) = _ from if_pos (by omega)) ?_
            refine p_iadd k126_42 ?_
            refine p_istore_n (ls' := [(0, _), (1, _), (2, _), (3, _), (4, _)]) k126_43 rfl ?_
            refine p_iincN (ls1 := [(0, _), (1, _), (2, _), (3, _), (4, _)]) k126_44 rfl rfl ?_
            refine p_goto (tgt := 12) k126_47 (by decide) ?_
            exact ih (m + 1) _ (by omega) (by rw [← hx]; exact congrArg (fld (fWay w on 0) j (m + 1)) (by unfold fWay; first | (rw [if_pos hbb]; done) | (rw [if_neg (fun z => by have y := and2p.mp cq27; rw [Nat.testBit_and, z.1, z.2] at y; cases y)]; exact (Int32.add_zero _).symm)))
      exact L5 6 0 (nI 0) (by omega) rfl
    | succ s ihs0 =>
      intro hs64
      refine p_iload_n k126_3 rfl ?_
      refine p_if_ltN (tgt := 63) k126_4 (by decide) (by omega) ?_
      refine p_iconst (v := nI 0) k126_7 (by decide) ?_
      refine p_istore_n (ls' := [(0, _), (1, _), (2, _), (3, _)]) k126_8 rfl ?_
      refine p_iconst (v := nI 0) k126_9 (by decide) ?_
      refine p_istore (ls' := [(0, _), (1, _), (2, _), (3, _), (4, _)]) k126_10 rfl ?_
      have L5 : ∀ (j : Nat) (m : Nat) (x : Int32), m + j = 6 → fld (fWay w on (s + 1)) j m x = fld (fWay w on (s + 1)) 6 0 (nI 0) → EvP d 126 12 [(0, .ref (0)), (1, .int (nI (on))), (2, .int (nI (s + 1))), (3, .int (x)), (4, .int (nI (m)))] [] (upc (upc I 42 (wayD w (wayS w on nh) ((s + 1) + 1))) 39 g, J, K, h) (QV (fun t => t = (upc (upc I 42 (wayS w on nh)) 39 g, J, K, h))) := by
        intro j
        induction j with
        | zero =>
          intro m x hk
          intro hx
          replace hx : x = _ := hx
          refine p_iload k126_12 rfl ?_
          refine p_bipush (v := nI 6) k126_14 (by decide) ?_
          refine p_icmp_geN (tgt := 50) k126_16 (by decide) (by omega) (by omega) (fun _ => ?_) (fun c => False.elim (by omega))
          refine p_aload_n k126_50 rfl ?_
          refine p_getRv k126_51 (s_0 S) f_11_78_11 (r_0_13 S) ?_
          refine p_iload_n k126_54 rfl ?_
          refine p_iload_n k126_55 rfl ?_
          refine p_iastN k126_56 (s_42 S) (by omega) (by decide) ?_
          rw [upc_sw _ (show 39 ≠ 42 by decide), upc_uu, show upc (upc I 42 (wayD w (wayS w on nh) ((s + 1) + 1))) 39 g 42 = wayD w (wayS w on nh) ((s + 1) + 1) from rfl, wayD_st (w := w) (w2 := wayS w on nh) (by unfold wayS; rw [if_pos (by omega), ← fWay6 h6 hb]; exact hx.symm)]
          refine p_iincD (ls1 := [(0, _), (1, _), (2, _), (3, _), (4, _)]) k126_57 rfl rfl ?_
          refine p_goto (tgt := 3) k126_60 (by decide) ?_
          refine p_drop [0, 1, 2] rfl ?_
          exact ihs0 (by omega)
        | succ j ih =>
          intro m x hk
          intro hx
          refine p_iload k126_12 rfl ?_
          refine p_bipush (v := nI 6) k126_14 (by decide) ?_
          refine p_icmp_geN (tgt := 50) k126_16 (by decide) (by omega) (by omega) (fun c => False.elim (by omega)) (fun _ => ?_)
          refine p_iload_n k126_19 rfl ?_
          refine p_iload_n k126_20 rfl ?_
          refine p_iandN k126_21 ?_
          refine p_iconst (v := nI 1) k126_22 (by decide) ?_
          refine p_iload k126_23 rfl ?_
          refine p_ishl1 (by omega) k126_25 ?_
          refine p_iandN k126_26 ?_
          have hlt : ((s + 1) &&& on &&& 2 ^ m) < 64 := and_lt64 (and_lt64 (by omega))
          refine p_if_eqN (tgt := 44) k126_27 (by decide) (by omega) (fun cq27 => ?_) (fun cq27 => ?_)
          · skip
            refine p_iincN (ls1 := [(0, _), (1, _), (2, _), (3, _), (4, _)]) k126_44 rfl rfl ?_
            refine p_goto (tgt := 12) k126_47 (by decide) ?_
            exact ih (m + 1) _ (by omega) (by rw [← hx]; exact congrArg (fld (fWay w on (s + 1)) j (m + 1)) (by unfold fWay; first | (rw [if_pos hbb]; done) | (rw [if_neg (fun z => by have y := and2p.mp cq27; rw [Nat.testBit_and, z.1, z.2] at y; cases y)]; exact (Int32.add_zero _).symm)))
          · skip
            have hbb : ((s + 1) &&& on).testBit m = true := by cases z : ((s + 1) &&& on).testBit m with | true => rfl | false => exact absurd (and2p.mpr z) cq27
            rw [Nat.testBit_and, Bool.and_eq_true] at hbb
            have hxl := xor_lt6 (s := s + 1) (k := m) (by omega) (by omega) hbb.1
            refine p_iload_n k126_30 rfl ?_
            refine p_aload_n k126_31 rfl ?_
            refine p_getRv k126_32 (s_0 S) f_11_78_11 (r_0_13 S) ?_
            refine p_iload_n k126_35 rfl ?_
            refine p_iconst (v := nI 1) k126_36 (by decide) ?_
            refine p_iload k126_37 rfl ?_
            refine p_ishl1 (by omega) k126_39 ?_
            refine p_ixorN k126_40 ?_
            refine p_ialdN k126_41 (s_42 S) (by omega) (by decide) (show wayD w (wayS w on nh) ((s + 1) + 1) ((s + 1) ^^^ 2 ^ m) = _ from if_pos (by omega)) ?_
            refine p_iadd k126_42 ?_
            refine p_istore_n (ls' := [(0, _), (1, _), (2, _), (3, _), (4, _)]) k126_43 rfl ?_
            refine p_iincN (ls1 := [(0, _), (1, _), (2, _), (3, _), (4, _)]) k126_44 rfl rfl ?_
            refine p_goto (tgt := 12) k126_47 (by decide) ?_
            exact ih (m + 1) _ (by omega) (by rw [← hx]; exact congrArg (fld (fWay w on (s + 1)) j (m + 1)) (by unfold fWay; first | (rw [if_pos hbb]; done) | (rw [if_neg (fun z => by have y := and2p.mp cq27; rw [Nat.testBit_and, z.1, z.2] at y; cases y)]; exact (Int32.add_zero _).symm)))
      exact L5 6 0 (nI 0) (by omega) rfl
  have e9 : wayD w (wayS w on nh) 64 = w := by
    funext z
    unfold wayD
    by_cases hz : z < 64
    · rw [if_pos hz]
    · rw [if_neg hz]; unfold wayS; rw [if_neg hz]
  have h63 := L4 63 (by omega)
  rw [show (63 : Nat) + 1 = 64 from rfl, e9] at h63
  exact h63

def whoG (R : Nat → Nat → Int32) (cb ce nh na sn : Nat) (g : Nat → Int32) : Nat → Int32 := fld (fWho R cb ce nh sn) na 0 (way0 g)
theorem wayS_hi {w w2 : Nat → Int32} {on nh : Nat} (h6 : nh ≤ 6) (h : ∀ s, s < 64 → w s = w2 s) : ∀ s, s < 64 → wayS w on nh s = wayS w2 on nh s := by
  intro s hs
  unfold wayS
  rw [if_pos hs, if_pos hs]
  refine fld_congr (fun k h1 h2 x => ?_)
  unfold fWay
  by_cases hb : s.testBit k = true ∧ on.testBit k = true
  · have := xor_lt6 hs (show k < 6 by omega) hb.1
    rw [if_pos hb, if_pos hb, h _ (by omega)]
  · rw [if_neg hb, if_neg hb]
theorem whoG_g {R : Nat → Nat → Int32} {cb ce nh na sn : Nat} (h6 : nh ≤ 6) (g g2 : Nat → Int32) : ∀ s, s < 64 → whoG R cb ce nh na sn g s = whoG R cb ce nh na sn g2 s := by
  have L : ∀ (j k : Nat) (w w2 : Nat → Int32), (∀ s, s < 64 → w s = w2 s) → ∀ s, s < 64 → fld (fWho R cb ce nh sn) j k w s = fld (fWho R cb ce nh sn) j k w2 s := by
    intro j
    induction j with
    | zero => intro k w w2 h s hs; exact h s hs
    | succ j ih =>
      intro k w w2 h s hs
      refine ih (k + 1) _ _ (fun z hz => ?_) s hs
      unfold fWho
      by_cases e : isSn R sn k = true
      · rw [if_pos e, if_pos e]; exact wayS_hi h6 h z hz
      · rw [if_neg e, if_neg e]; exact h z hz
  exact L na 0 _ _ (fun s hs => by unfold way0; rw [if_pos hs, if_pos hs])
theorem whoM_G {R : Nat → Nat → Int32} {cb ce nh na sn : Nat} (h6 : nh ≤ 6) (g : Nat → Int32) : fld (fSum (whoG R cb ce nh na sn g)) 64 0 (nI 0) = whoM R cb ce nh na sn := by
  refine fld_congr (fun k h1 h2 x => ?_)
  unfold fSum
  rw [whoG_g h6 g (R 130) k (by omega)]
  rfl
theorem way0_clr {g : Nat → Int32} : upc (clr64 g) 0 (nI 1) = way0 g := by
  funext s
  unfold way0 clr64
  by_cases e : s = 0
  · subst e; rw [upc_eq]; rfl
  · rw [upc_ne _ _ e]
    by_cases h : s < 64
    · rw [if_pos h, if_pos h, if_neg e]
    · rw [if_neg h, if_neg h]
set_option maxRecDepth 100000 in
set_option maxHeartbeats 4000000 in
theorem C_who {d : Nat} {I : Nat → Nat → Int32} {J : Nat → Nat → Int64} {K : Nat → Nat → Option Nat} {h : List xSh} (S : St K h) {R0 : Nat → Nat → Int32} {nh na dd cb ce tw : Nat} (C : CR I K h R0 na tw) (M : MI R0 nh na dd cb ce) (Q : AR R0 nh na dd) (g : Nat → Int32) {sn : Nat} (hsn : R0 98 43 = nI sn) (hs6 : sn ≤ 6)  : EvP (d + 7) 85 0 [(0, .ref (0))] [] (upc I 39 g, J, K, h) (QI (fun x t => x = whoM R0 cb ce nh na sn ∧ ∃ w g, t = (upc (upc I 42 w) 39 g, J, K, h))) := by
  have hnh6 := M.nh6
  have hna6 := M.na6
  refine p_aload_n k85_0 rfl ?_
  refine p_getRv k85_1 (s_0 S) f_11_78_11 (r_0_13 S) ?_
  refine p_iconst (v := nI 0) k85_4 (by decide) ?_
  refine p_cS2v k85_5 c_11_263 rfl rfl (Nat.le_of_ble_eq_true rfl) (C_fill S (I := upc I 39 g)) (fun m1 hq => ?_)
  obtain rfl := hq
  refine p_aload_n k85_8 rfl ?_
  refine p_getRv k85_9 (s_0 S) f_11_78_11 (r_0_13 S) ?_
  refine p_iconst (v := nI 0) k85_12 (by decide) ?_
  refine p_iconst (v := nI 1) k85_13 (by decide) ?_
  refine p_iastN k85_14 (s_42 S) (by omega) (by decide) ?_
  rw [upc_uu, upc_eq, show upc I 39 g 42 = I 42 from rfl, way0_clr, upc_sw _ (show 39 ≠ 42 by decide)]
  refine p_iconst (v := nI 0) k85_15 (by decide) ?_
  refine p_istore_n (ls' := [(0, _), (1, _)]) k85_16 rfl ?_
  have L2 : ∀ (j : Nat) (a : Nat) (w g : Nat → Int32), a + j = na → fld (fWho R0 cb ce nh sn) j a w = (whoG R0 cb ce nh na sn (I 42)) → EvP (d + 7) 85 17 [(0, .ref (0)), (1, .int (nI (a)))] [] (upc (upc I 42 (w)) 39 g, J, K, h) (QI (fun x t => x = whoM R0 cb ce nh na sn ∧ ∃ w g, t = (upc (upc I 42 w) 39 g, J, K, h))) := by
    intro j
    induction j with
    | zero =>
      intro a w g hk
      intro hw
      have hw2 : w = (whoG R0 cb ce nh na sn (I 42)) := hw
      subst hw2
      refine p_iload_n k85_17 rfl ?_
      refine p_aload_n k85_18 rfl ?_
      refine p_getRv k85_19 (s_0 S) f_11_14_11 (r_0_0 S) ?_
      refine p_getIv k85_22 (s_1 S) f_11_108_3 (show _ = nI na from C.hats.trans M.na) ?_
      refine p_icmp_geN (tgt := 51) k85_25 (by decide) (by omega) (by omega) (fun _ => ?_) (fun c => False.elim (by omega))
      refine p_iconst (v := nI 0) k85_51 (by decide) ?_
      refine p_istore_n (ls' := [(0, _), (1, _)]) k85_52 rfl ?_
      refine p_iconst (v := nI 0) k85_53 (by decide) ?_
      refine p_istore_n (ls' := [(0, _), (1, _), (2, _)]) k85_54 rfl ?_
      have L6 : ∀ (j : Nat) (k : Nat) (x : Int32), k + j = 64 → fld (fSum (whoG R0 cb ce nh na sn (I 42))) j k x = whoM R0 cb ce nh na sn → EvP (d + 7) 85 55 [(0, .ref (0)), (1, .int (x)), (2, .int (nI (k)))] [] (upc (upc I 42 ((whoG R0 cb ce nh na sn (I 42)))) 39 g, J, K, h) (QI (fun x t => x = whoM R0 cb ce nh na sn ∧ ∃ w g, t = (upc (upc I 42 w) 39 g, J, K, h))) := by
        intro j
        induction j with
        | zero =>
          intro k x hk
          intro hx
          refine p_iload_n k85_55 rfl ?_
          refine p_bipush (v := nI 64) k85_56 (by decide) ?_
          refine p_icmp_geN (tgt := 76) k85_58 (by decide) (by omega) (by omega) (fun _ => ?_) (fun c => False.elim (by omega))
          refine p_iload_n k85_76 rfl ?_
          refine p_ireturn k85_77 rt_85 ?_
          exact ⟨hx, _, g, rfl⟩
        | succ j ih =>
          intro k x hk
          intro hx
          refine p_iload_n k85_55 rfl ?_
          refine p_bipush (v := nI 64) k85_56 (by decide) ?_
          refine p_icmp_geN (tgt := 76) k85_58 (by decide) (by omega) (by omega) (fun c => False.elim (by omega)) (fun _ => ?_)
          refine p_iload_n k85_61 rfl ?_
          refine p_aload_n k85_62 rfl ?_
          refine p_getRv k85_63 (s_0 S) f_11_78_11 (r_0_13 S) ?_
          refine p_iload_n k85_66 rfl ?_
          refine p_ialdN k85_67 (s_42 S) (by omega) (by decide) (show _ = (whoG R0 cb ce nh na sn (I 42)) k from rfl) ?_
          refine p_iadd k85_68 ?_
          refine p_istore_n (ls' := [(0, _), (1, _), (2, _)]) k85_69 rfl ?_
          refine p_iincN (ls1 := [(0, _), (1, _), (2, _)]) k85_70 rfl rfl ?_
          refine p_goto (tgt := 55) k85_73 (by decide) ?_
          exact ih (k + 1) _ (by omega) hx
      exact L6 64 0 (nI 0) (by omega) (whoM_G M.nh6 _)
    | succ j ih =>
      intro a w g hk
      intro hw
      refine p_iload_n k85_17 rfl ?_
      refine p_aload_n k85_18 rfl ?_
      refine p_getRv k85_19 (s_0 S) f_11_14_11 (r_0_0 S) ?_
      refine p_getIv k85_22 (s_1 S) f_11_108_3 (show _ = nI na from C.hats.trans M.na) ?_
      refine p_icmp_geN (tgt := 51) k85_25 (by decide) (by omega) (by omega) (fun c => False.elim (by omega)) (fun _ => ?_)
      refine p_aload_n k85_28 rfl ?_
      refine p_iload_n k85_29 rfl ?_
      refine p_cV1i k85_30 (s_0 S) c_11_269_11 rfl (Nat.le_of_ble_eq_true rfl) (C_isSeen S (C.up (c := 42) (by omega) w) M Q g hsn hs6 (a := a) (by omega)) (fun x1 m1 hq => ?_)
      obtain ⟨rfl, rfl⟩ := hq
      refine p_if_eqB (tgt := 45) k85_33 (by decide) (fun cq33 => ?_) (fun cq33 => ?_)
      · skip
        refine p_iincN (ls1 := [(0, _), (1, _)]) k85_45 rfl rfl ?_
        refine p_goto (tgt := 17) k85_48 (by decide) ?_
        exact ih (a + 1) _ g (by omega) (by rw [← hw]; exact congrArg (fld (fWho R0 cb ce nh sn) j (a + 1)) (by unfold fWho; first | (rw [if_pos cq33]; done) | (rw [if_neg (by rw [cq33]; decide)])))
      · skip
        refine p_aload_n k85_36 rfl ?_
        refine p_aload_n k85_37 rfl ?_
        refine p_iload_n k85_38 rfl ?_
        refine p_cV1i k85_39 (s_0 S) c_11_260_11 rfl (Nat.le_of_ble_eq_true rfl) (C_wearers S (C.up (c := 42) (by omega) w) M Q g hsn hs6 (a := a) (by omega)) (fun x1 m1 hq => ?_)
        obtain ⟨rfl, g, rfl⟩ := hq
        refine p_cV1v k85_42 (s_0 S) c_11_272_11 rfl (Nat.le_of_ble_eq_true rfl) (C_addHatToWays S w g M.nh6 (won_lt M.nh6) won_bit) (fun m1 hq => ?_)
        obtain rfl := hq
        refine p_iincN (ls1 := [(0, _), (1, _)]) k85_45 rfl rfl ?_
        refine p_goto (tgt := 17) k85_48 (by decide) ?_
        exact ih (a + 1) _ g (by omega) (by rw [← hw]; exact congrArg (fld (fWho R0 cb ce nh sn) j (a + 1)) (by unfold fWho; first | (rw [if_pos cq33]; done) | (rw [if_neg (by rw [cq33]; decide)])))
  exact L2 na 0 _ g (by omega) rfl

