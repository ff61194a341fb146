/-! the class: isTrue, holds, fits, deedOn -/
theorem cmp_tst {x y : Int32} {s : Nat} (hs : s ≤ 2) : (cmp9 x y = nI s - nI 1) ↔ (if s = 0 then x < y else if s = 1 then x = y else y < x) := by
  unfold cmp9
  rcases (show s = 0 ∨ s = 1 ∨ s = 2 by omega) with rfl | rfl | rfl
  · show _ ↔ x < y
    rw [show nI 0 - nI 1 = -1 by decide]
    by_cases h1 : y ≤ x
    · rw [if_pos h1]
      refine ⟨fun e => ?_, fun e => ?_⟩
      · by_cases h2 : x = y
        · rw [if_pos h2] at e; exact absurd e (by decide)
        · rw [if_neg h2] at e; exact absurd e (by decide)
      · rw [i_le] at h1; rw [i_lt] at e; omega
    · rw [if_neg h1]
      refine ⟨fun _ => ?_, fun _ => rfl⟩
      rw [i_le] at h1; rw [i_lt]; omega
  · show _ ↔ x = y
    rw [show nI 1 - nI 1 = nI 0 by decide]
    by_cases h1 : y ≤ x
    · rw [if_pos h1]
      by_cases h2 : x = y
      · rw [if_pos h2]; exact ⟨fun _ => h2, fun _ => rfl⟩
      · rw [if_neg h2]; exact ⟨fun e => absurd e (by decide), fun e => absurd e h2⟩
    · rw [if_neg h1]
      refine ⟨fun e => absurd e (by decide), fun e => ?_⟩
      rw [e] at h1; exact absurd (by rw [i_le]; exact Int.le_refl _) h1
  · show _ ↔ y < x
    rw [show nI 2 - nI 1 = nI 1 by decide]
    by_cases h1 : y ≤ x
    · rw [if_pos h1]
      by_cases h2 : x = y
      · rw [if_pos h2]
        refine ⟨fun e => absurd e (by decide), fun e => ?_⟩
        rw [h2, i_lt] at e; omega
      · rw [if_neg h2]
        refine ⟨fun _ => ?_, fun _ => rfl⟩
        rw [i_eq] at h2; rw [i_le] at h1; rw [i_lt]; omega
    · rw [if_neg h1]
      refine ⟨fun e => absurd e (by decide), fun e => ?_⟩
      rw [i_le] at h1; rw [i_lt] at e; omega
theorem tst_iff {fac : Nat → Int32} {k : Nat} : tstV fac k = true ↔ (if k / 100 % 10 = 0 then fac (k / 1000) < nI (k % 100) else if k / 100 % 10 = 1 then fac (k / 1000) = nI (k % 100) else nI (k % 100) < fac (k / 1000)) := by
  unfold tstV
  by_cases h0 : k / 100 % 10 = 0
  · rw [if_pos h0, if_pos h0, decide_eq_true_iff]
  · rw [if_neg h0, if_neg h0]
    by_cases h1 : k / 100 % 10 = 1
    · rw [if_pos h1, if_pos h1, decide_eq_true_iff]
    · rw [if_neg h1, if_neg h1, decide_eq_true_iff]
set_option maxRecDepth 100000 in
set_option maxHeartbeats 4000000 in
theorem C_isTrue {d : Nat} {I : Nat → Nat → Int32} {J : Nat → Nat → Int64} {K : Nat → Nat → Option Nat} {h : List xSh} (S : St K h) {fac : Nat → Int32} (hF : FAC I fac) {k : Nat} (hk : k < 6000) (hs : k / 100 % 10 ≤ 2) : EvP (d + 2) 38 0 [(0, .int (nI ((k / 1000 * 3 + k / 100 % 10) * 100 + k % 100))), (1, .ref (39))] [] (I, J, K, h) (QI (fun x t => x = bI (tstV fac k) ∧ t = (I, J, K, h))) := by
  have e1 : ((k / 1000 * 3 + k / 100 % 10) * 100 + k % 100) / 100 / 3 = k / 1000 := by omega
  have e2 : ((k / 1000 * 3 + k / 100 % 10) * 100 + k % 100) / 100 % 3 = k / 100 % 10 := by omega
  have e3 : ((k / 1000 * 3 + k / 100 % 10) * 100 + k % 100) % 100 = k % 100 := by omega
  refine p_iload_n k38_0 rfl ?_
  refine p_bipush (v := nI 100) k38_1 (by decide) ?_
  refine p_idivN (by omega) (by omega) (by omega) k38_3 ?_
  refine p_ldcs (k := 1) k38_4 (by decide) ?_
  refine p_cT0i k38_6 (by omega) c_8_63 (Nat.le_of_ble_eq_true rfl) (C_length S (k := 1) (by decide)) (fun x1 m1 hq => ?_)
  obtain ⟨rfl, rfl⟩ := hq
  rw [show (xStr 1).length = 3 from rfl]
  refine p_idivN (by omega) (by omega) (by omega) k38_9 ?_
  refine p_toI (z := (nI (k / 1000))) (congrArg nI e1) ?_
  refine p_istore_n (ls' := [(0, _), (1, _), (2, _)]) k38_10 rfl ?_
  refine p_iload_n k38_11 rfl ?_
  refine p_bipush (v := nI 100) k38_12 (by decide) ?_
  refine p_idivN (by omega) (by omega) (by omega) k38_14 ?_
  refine p_ldcs (k := 1) k38_15 (by decide) ?_
  refine p_cT0i k38_17 (by omega) c_8_63 (Nat.le_of_ble_eq_true rfl) (C_length S (k := 1) (by decide)) (fun x1 m1 hq => ?_)
  obtain ⟨rfl, rfl⟩ := hq
  rw [show (xStr 1).length = 3 from rfl]
  refine p_iremN (by omega) (by omega) (by omega) k38_20 ?_
  refine p_toI (z := (nI (k / 100 % 10))) (congrArg nI e2) ?_
  refine p_istore_n (ls' := [(0, _), (1, _), (2, _), (3, _)]) k38_21 rfl ?_
  refine p_iload_n k38_22 rfl ?_
  refine p_aload_n k38_23 rfl ?_
  refine p_alen k38_24 (s_39 S) (Or.inl (Or.inl rfl)) ?_
  refine p_icmp_geN (tgt := 48) k38_25 (by decide) (by omega) (by omega) (fun c => False.elim (by omega)) (fun _ => ?_)
  refine p_aload_n k38_28 rfl ?_
  refine p_iload_n k38_29 rfl ?_
  refine p_ialdN k38_30 (s_39 S) (by omega) (by decide) (hF _ (by omega)) ?_
  refine p_iload_n k38_31 rfl ?_
  refine p_bipush (v := nI 100) k38_32 (by decide) ?_
  refine p_iremN (by omega) (by omega) (by omega) k38_34 ?_
  refine p_cS2i k38_35 c_8_69 rfl rfl (Nat.le_of_ble_eq_true rfl) (C_compare S _ _) (fun x1 m1 hq => ?_)
  obtain ⟨rfl, rfl⟩ := hq
  rw [e3]
  refine p_iload_n k38_38 rfl ?_
  refine p_iconst (v := nI 1) k38_39 (by decide) ?_
  refine p_isub k38_40 ?_
  refine p_icmp_ne (tgt := 48) k38_41 (by decide) (fun cq41 => ?_) (fun cq41 => ?_)
  · skip
    refine p_iconst (v := bI false) k38_48 (by decide) ?_
    refine p_returnB k38_49 rt_38 ?_
    exact ⟨by first | rw [tst_iff.mpr ((cmp_tst hs).mp cq41)] | rw [Bool.eq_false_iff.mpr (fun z => cq41 ((cmp_tst hs).mpr (tst_iff.mp z)))], rfl⟩
  · skip
    refine p_iconst (v := bI true) k38_44 (by decide) ?_
    refine p_goto (tgt := 49) k38_45 (by decide) ?_
    refine p_returnB k38_49 rt_38 ?_
    exact ⟨by first | rw [tst_iff.mpr ((cmp_tst hs).mp cq41)] | rw [Bool.eq_false_iff.mpr (fun z => cq41 ((cmp_tst hs).mpr (tst_iff.mp z)))], rfl⟩

theorem drop_cons {L : List Nat} {k : Nat} (hk : k < L.length) : L.drop k = L.getD k 0 :: L.drop (k + 1) := by
  rw [List.drop_eq_getElem_cons hk, List.getD_eq_getElem?_getD, List.getElem?_eq_getElem hk]
  rfl
theorem getD_mem {L : List Nat} {k : Nat} (hk : k < L.length) : L.getD k 0 ∈ L := by
  rw [List.getD_eq_getElem?_getD, List.getElem?_eq_getElem hk]
  exact List.getElem_mem hk
set_option maxRecDepth 100000 in
set_option maxHeartbeats 4000000 in
theorem C_holds {d : Nat} {I : Nat → Nat → Int32} {J : Nat → Nat → Int64} {K : Nat → Nat → Option Nat} {h : List xSh} (S : St K h) {fac : Nat → Int32} (hF : FAC I fac) {b i f0 : Nat} {L : List Nat} (hTS : TS K h b) (hi : i < 10) (hS : Sem 11 L) (hl : f0 + L.length ≤ 100) (h4 : I (b + 4) i = nI f0) (h5 : I (b + 5) i = nI (f0 + L.length)) (h6 : ∀ j, j < L.length → I (b + 6) (f0 + j) = ctN (L.getD j 0)) {b0 : Bool} (hb : evC (tstV fac) L (nI 0) = nI (2 * 0 + b0.toNat)) : EvP (d + 3) 36 0 [(0, .ref (b)), (1, .int (nI (i))), (2, .ref (39))] [] (I, J, K, h) (QI (fun x t => x = bI b0 ∧ t = (I, J, K, h))) := by
  refine p_iconst (v := nI 0) k36_0 (by decide) ?_
  refine p_istore_n (ls' := [(0, _), (1, _), (2, _), (3, _)]) k36_1 rfl ?_
  refine p_aload_n k36_2 rfl ?_
  refine p_getRv k36_3 hTS.1.1 f_8_25_8 hTS.2.2.2.2.1 ?_
  refine p_iload_n k36_6 rfl ?_
  refine p_ialdN k36_7 hTS.1.2.2.2.2.1 (by omega) (by decide) h4 ?_
  refine p_istore (ls' := [(0, _), (1, _), (2, _), (3, _), (4, _)]) k36_8 rfl ?_
  have Lp : ∀ (j : Nat) (k : Nat) (x : Int32), k + j = L.length → evC (tstV fac) (L.drop k) x = evC (tstV fac) L (nI 0) → EvP (d + 3) 36 10 [(0, .ref (b)), (1, .int (nI (i))), (2, .ref (39)), (3, .int (x)), (4, .int (nI (f0 + k)))] [] (I, J, K, h) (QI (fun x t => x = bI b0 ∧ t = (I, J, K, h))) := by
    intro j
    induction j with
    | zero =>
      intro k x hk
      intro hx
      refine p_iload k36_10 rfl ?_
      refine p_aload_n k36_12 rfl ?_
      refine p_getRv k36_13 hTS.1.1 f_8_28_8 hTS.2.2.2.2.2.1 ?_
      refine p_iload_n k36_16 rfl ?_
      refine p_ialdN k36_17 hTS.1.2.2.2.2.2.1 (by omega) (by decide) h5 ?_
      refine p_icmp_geN (tgt := 116) k36_18 (by decide) (by omega) (by omega) (fun _ => ?_) (fun c => False.elim (by omega))
      have hx2 : x = nI b0.toNat := by rw [show k = L.length by omega, List.drop_length] at hx; exact hx.trans (hb.trans (by rw [Nat.mul_zero, Nat.zero_add]))
      subst hx2
      refine p_iload_n k36_116 rfl ?_
      refine p_iconst (v := nI 1) k36_117 (by decide) ?_
      refine p_iand k36_118 ?_
      refine p_iconst (v := nI 1) k36_119 (by decide) ?_
      refine p_icmp_ne (tgt := 127) k36_120 (by decide) (fun cq120 => ?_) (fun cq120 => ?_)
      · skip
        refine p_iconst (v := bI false) k36_127 (by decide) ?_
        refine p_returnB k36_128 rt_36 ?_
        exact ⟨by cases b0 <;> first | rfl | exact absurd cq120 (by decide) | exact absurd rfl cq120 | (exact absurd (by decide) cq120), rfl⟩
      · skip
        refine p_iconst (v := bI true) k36_123 (by decide) ?_
        refine p_goto (tgt := 128) k36_124 (by decide) ?_
        refine p_returnB k36_128 rt_36 ?_
        exact ⟨by cases b0 <;> first | rfl | exact absurd cq120 (by decide) | exact absurd rfl cq120 | (exact absurd (by decide) cq120), rfl⟩
    | succ j ih =>
      intro k x hk
      intro hx
      rcases hS.1 (L.getD k 0) (getD_mem (by omega)) with hk9 | hk9 | hk9 | ⟨hk9, hk8⟩
      · skip
        have hck : I (b + 6) (f0 + k) = -1 := by rw [h6 k (by omega), hk9]; rfl
        refine p_iload k36_10 rfl ?_
        refine p_aload_n k36_12 rfl ?_
        refine p_getRv k36_13 hTS.1.1 f_8_28_8 hTS.2.2.2.2.2.1 ?_
        refine p_iload_n k36_16 rfl ?_
        refine p_ialdN k36_17 hTS.1.2.2.2.2.2.1 (by omega) (by decide) h5 ?_
        refine p_icmp_geN (tgt := 116) k36_18 (by decide) (by omega) (by omega) (fun c => False.elim (by omega)) (fun _ => ?_)
        refine p_aload_n k36_21 rfl ?_
        refine p_getRv k36_22 hTS.1.1 f_8_34_8 hTS.2.2.2.2.2.2 ?_
        refine p_iload k36_25 rfl ?_
        refine p_ialdN k36_27 hTS.1.2.2.2.2.2.2 (by omega) (by decide) (show I (b + 6) (f0 + k) = (-1) from hck) ?_
        refine p_iconst (v := (-1)) k36_28 (by decide) ?_
        refine p_icmp_ne (tgt := 39) k36_29 (by decide) (fun c => False.elim (by exact c rfl)) (fun _ => ?_)
        refine p_iload_n k36_32 rfl ?_
        refine p_iconst (v := nI 1) k36_33 (by decide) ?_
        refine p_ixor k36_34 ?_
        refine p_istore_n (ls' := [(0, _), (1, _), (2, _), (3, _), (4, _)]) k36_35 rfl ?_
        refine p_goto (tgt := 110) k36_36 (by decide) ?_
        refine p_iincN (ls1 := [(0, _), (1, _), (2, _), (3, _), (4, _)]) k36_110 rfl rfl ?_
        refine p_goto (tgt := 10) k36_113 (by decide) ?_
        exact ih (k + 1) _ (by omega) (by rw [← hx, drop_cons (show k < L.length by omega)]; show _ = evC (tstV fac) (L.drop (k + 1)) (stC (tstV fac) (L.getD k 0) x); congr 1; rw [hk9]; rfl)
      · skip
        have hck : I (b + 6) (f0 + k) = -2 := by rw [h6 k (by omega), hk9]; rfl
        refine p_iload k36_10 rfl ?_
        refine p_aload_n k36_12 rfl ?_
        refine p_getRv k36_13 hTS.1.1 f_8_28_8 hTS.2.2.2.2.2.1 ?_
        refine p_iload_n k36_16 rfl ?_
        refine p_ialdN k36_17 hTS.1.2.2.2.2.2.1 (by omega) (by decide) h5 ?_
        refine p_icmp_geN (tgt := 116) k36_18 (by decide) (by omega) (by omega) (fun c => False.elim (by omega)) (fun _ => ?_)
        refine p_aload_n k36_21 rfl ?_
        refine p_getRv k36_22 hTS.1.1 f_8_34_8 hTS.2.2.2.2.2.2 ?_
        refine p_iload k36_25 rfl ?_
        refine p_ialdN k36_27 hTS.1.2.2.2.2.2.2 (by omega) (by decide) (show I (b + 6) (f0 + k) = (-2) from hck) ?_
        refine p_iconst (v := (-1)) k36_28 (by decide) ?_
        refine p_icmp_ne (tgt := 39) k36_29 (by decide) (fun _ => ?_) (fun c => False.elim (by exact absurd c (by decide)))
        refine p_aload_n k36_39 rfl ?_
        refine p_getRv k36_40 hTS.1.1 f_8_34_8 hTS.2.2.2.2.2.2 ?_
        refine p_iload k36_43 rfl ?_
        refine p_ialdN k36_45 hTS.1.2.2.2.2.2.2 (by omega) (by decide) (show I (b + 6) (f0 + k) = (-2) from hck) ?_
        refine p_bipush (v := (-2)) k36_46 (by decide) ?_
        refine p_icmp_ne (tgt := 63) k36_48 (by decide) (fun c => False.elim (by exact c rfl)) (fun _ => ?_)
        refine p_iload_n k36_51 rfl ?_
        refine p_iconst (v := nI 1) k36_52 (by decide) ?_
        refine p_ishr k36_53 ?_
        refine p_iload_n k36_54 rfl ?_
        refine p_bipush (v := (-2)) k36_55 (by decide) ?_
        refine p_ior k36_57 ?_
        refine p_iand k36_58 ?_
        refine p_istore_n (ls' := [(0, _), (1, _), (2, _), (3, _), (4, _)]) k36_59 rfl ?_
        refine p_goto (tgt := 110) k36_60 (by decide) ?_
        refine p_iincN (ls1 := [(0, _), (1, _), (2, _), (3, _), (4, _)]) k36_110 rfl rfl ?_
        refine p_goto (tgt := 10) k36_113 (by decide) ?_
        exact ih (k + 1) _ (by omega) (by rw [← hx, drop_cons (show k < L.length by omega)]; show _ = evC (tstV fac) (L.drop (k + 1)) (stC (tstV fac) (L.getD k 0) x); congr 1; rw [hk9]; rfl)
      · skip
        have hck : I (b + 6) (f0 + k) = -3 := by rw [h6 k (by omega), hk9]; rfl
        refine p_iload k36_10 rfl ?_
        refine p_aload_n k36_12 rfl ?_
        refine p_getRv k36_13 hTS.1.1 f_8_28_8 hTS.2.2.2.2.2.1 ?_
        refine p_iload_n k36_16 rfl ?_
        refine p_ialdN k36_17 hTS.1.2.2.2.2.2.1 (by omega) (by decide) h5 ?_
        refine p_icmp_geN (tgt := 116) k36_18 (by decide) (by omega) (by omega) (fun c => False.elim (by omega)) (fun _ => ?_)
        refine p_aload_n k36_21 rfl ?_
        refine p_getRv k36_22 hTS.1.1 f_8_34_8 hTS.2.2.2.2.2.2 ?_
        refine p_iload k36_25 rfl ?_
        refine p_ialdN k36_27 hTS.1.2.2.2.2.2.2 (by omega) (by decide) (show I (b + 6) (f0 + k) = (-3) from hck) ?_
        refine p_iconst (v := (-1)) k36_28 (by decide) ?_
        refine p_icmp_ne (tgt := 39) k36_29 (by decide) (fun _ => ?_) (fun c => False.elim (by exact absurd c (by decide)))
        refine p_aload_n k36_39 rfl ?_
        refine p_getRv k36_40 hTS.1.1 f_8_34_8 hTS.2.2.2.2.2.2 ?_
        refine p_iload k36_43 rfl ?_
        refine p_ialdN k36_45 hTS.1.2.2.2.2.2.2 (by omega) (by decide) (show I (b + 6) (f0 + k) = (-3) from hck) ?_
        refine p_bipush (v := (-2)) k36_46 (by decide) ?_
        refine p_icmp_ne (tgt := 63) k36_48 (by decide) (fun _ => ?_) (fun c => False.elim (by exact absurd c (by decide)))
        refine p_aload_n k36_63 rfl ?_
        refine p_getRv k36_64 hTS.1.1 f_8_34_8 hTS.2.2.2.2.2.2 ?_
        refine p_iload k36_67 rfl ?_
        refine p_ialdN k36_69 hTS.1.2.2.2.2.2.2 (by omega) (by decide) (show I (b + 6) (f0 + k) = (-3) from hck) ?_
        refine p_bipush (v := (-3)) k36_70 (by decide) ?_
        refine p_icmp_ne (tgt := 86) k36_72 (by decide) (fun c => False.elim (by exact c rfl)) (fun _ => ?_)
        refine p_iload_n k36_75 rfl ?_
        refine p_iconst (v := nI 1) k36_76 (by decide) ?_
        refine p_ishr k36_77 ?_
        refine p_iload_n k36_78 rfl ?_
        refine p_iconst (v := nI 1) k36_79 (by decide) ?_
        refine p_iand k36_80 ?_
        refine p_ior k36_81 ?_
        refine p_istore_n (ls' := [(0, _), (1, _), (2, _), (3, _), (4, _)]) k36_82 rfl ?_
        refine p_goto (tgt := 110) k36_83 (by decide) ?_
        refine p_iincN (ls1 := [(0, _), (1, _), (2, _), (3, _), (4, _)]) k36_110 rfl rfl ?_
        refine p_goto (tgt := 10) k36_113 (by decide) ?_
        exact ih (k + 1) _ (by omega) (by rw [← hx, drop_cons (show k < L.length by omega)]; show _ = evC (tstV fac) (L.drop (k + 1)) (stC (tstV fac) (L.getD k 0) x); congr 1; rw [hk9]; rfl)
      · skip
        have hck : I (b + 6) (f0 + k) = nI (((L.getD k 0) / 1000 * 3 + (L.getD k 0) / 100 % 10) * 100 + (L.getD k 0) % 100) := by rw [h6 k (by omega), ct_test hk9]
        refine p_iload k36_10 rfl ?_
        refine p_aload_n k36_12 rfl ?_
        refine p_getRv k36_13 hTS.1.1 f_8_28_8 hTS.2.2.2.2.2.1 ?_
        refine p_iload_n k36_16 rfl ?_
        refine p_ialdN k36_17 hTS.1.2.2.2.2.2.1 (by omega) (by decide) h5 ?_
        refine p_icmp_geN (tgt := 116) k36_18 (by decide) (by omega) (by omega) (fun c => False.elim (by omega)) (fun _ => ?_)
        refine p_aload_n k36_21 rfl ?_
        refine p_getRv k36_22 hTS.1.1 f_8_34_8 hTS.2.2.2.2.2.2 ?_
        refine p_iload k36_25 rfl ?_
        refine p_ialdN k36_27 hTS.1.2.2.2.2.2.2 (by omega) (by decide) (show I (b + 6) (f0 + k) = (nI (((L.getD k 0) / 1000 * 3 + (L.getD k 0) / 100 % 10) * 100 + (L.getD k 0) % 100)) from hck) ?_
        refine p_iconst (v := (-1)) k36_28 (by decide) ?_
        refine p_icmp_ne (tgt := 39) k36_29 (by decide) (fun _ => ?_) (fun c => False.elim (by exact absurd c (nI_neg (by omega) (by decide))))
        refine p_aload_n k36_39 rfl ?_
        refine p_getRv k36_40 hTS.1.1 f_8_34_8 hTS.2.2.2.2.2.2 ?_
        refine p_iload k36_43 rfl ?_
        refine p_ialdN k36_45 hTS.1.2.2.2.2.2.2 (by omega) (by decide) (show I (b + 6) (f0 + k) = (nI (((L.getD k 0) / 1000 * 3 + (L.getD k 0) / 100 % 10) * 100 + (L.getD k 0) % 100)) from hck) ?_
        refine p_bipush (v := (-2)) k36_46 (by decide) ?_
        refine p_icmp_ne (tgt := 63) k36_48 (by decide) (fun _ => ?_) (fun c => False.elim (by exact absurd c (nI_neg (by omega) (by decide))))
        refine p_aload_n k36_63 rfl ?_
        refine p_getRv k36_64 hTS.1.1 f_8_34_8 hTS.2.2.2.2.2.2 ?_
        refine p_iload k36_67 rfl ?_
        refine p_ialdN k36_69 hTS.1.2.2.2.2.2.2 (by omega) (by decide) (show I (b + 6) (f0 + k) = (nI (((L.getD k 0) / 1000 * 3 + (L.getD k 0) / 100 % 10) * 100 + (L.getD k 0) % 100)) from hck) ?_
        refine p_bipush (v := (-3)) k36_70 (by decide) ?_
        refine p_icmp_ne (tgt := 86) k36_72 (by decide) (fun _ => ?_) (fun c => False.elim (by exact absurd c (nI_neg (by omega) (by decide))))
        refine p_iload_n k36_86 rfl ?_
        refine p_iconst (v := nI 1) k36_87 (by decide) ?_
        refine p_ishl k36_88 ?_
        refine p_aload_n k36_89 rfl ?_
        refine p_getRv k36_90 hTS.1.1 f_8_34_8 hTS.2.2.2.2.2.2 ?_
        refine p_iload k36_93 rfl ?_
        refine p_ialdN k36_95 hTS.1.2.2.2.2.2.2 (by omega) (by decide) (show I (b + 6) (f0 + k) = (nI (((L.getD k 0) / 1000 * 3 + (L.getD k 0) / 100 % 10) * 100 + (L.getD k 0) % 100)) from hck) ?_
        refine p_aload_n k36_96 rfl ?_
        refine p_cS2i k36_97 c_8_58 rfl rfl (Nat.le_of_ble_eq_true rfl) (C_isTrue S hF hk9 hk8) (fun x1 m1 hq => ?_)
        obtain ⟨rfl, rfl⟩ := hq
        refine p_if_eqB (tgt := 107) k36_100 (by decide) (fun cq100 => ?_) (fun cq100 => ?_)
        · skip
          refine p_iconst (v := bI false) k36_107 (by decide) ?_
          refine p_ior k36_108 ?_
          refine p_istore_n (ls' := [(0, _), (1, _), (2, _), (3, _), (4, _)]) k36_109 rfl ?_
          refine p_iincN (ls1 := [(0, _), (1, _), (2, _), (3, _), (4, _)]) k36_110 rfl rfl ?_
          refine p_goto (tgt := 10) k36_113 (by decide) ?_
          exact ih (k + 1) _ (by omega) (by rw [← hx, drop_cons (show k < L.length by omega)]; show _ = evC (tstV fac) (L.drop (k + 1)) (stC (tstV fac) (L.getD k 0) x); congr 1; unfold stC; rw [if_neg (by omega), if_neg (by omega), if_neg (by omega)]; first | rw [cq100] | rfl)
        · skip
          refine p_iconst (v := bI true) k36_103 (by decide) ?_
          refine p_goto (tgt := 108) k36_104 (by decide) ?_
          refine p_ior k36_108 ?_
          refine p_istore_n (ls' := [(0, _), (1, _), (2, _), (3, _), (4, _)]) k36_109 rfl ?_
          refine p_iincN (ls1 := [(0, _), (1, _), (2, _), (3, _), (4, _)]) k36_110 rfl rfl ?_
          refine p_goto (tgt := 10) k36_113 (by decide) ?_
          exact ih (k + 1) _ (by omega) (by rw [← hx, drop_cons (show k < L.length by omega)]; show _ = evC (tstV fac) (L.drop (k + 1)) (stC (tstV fac) (L.getD k 0) x); congr 1; unfold stC; rw [if_neg (by omega), if_neg (by omega), if_neg (by omega)]; first | rw [cq100] | rfl)
  exact Lp L.length 0 (nI 0) (by omega) rfl

theorem evs_evL {sg : Nat → Int32} {tst : Nat → Bool} : ∀ {L : List Nat} {f0 : Nat} {st : List Bool}, (∀ k ∈ L, tkOK k) → (∀ i, i < L.length → sg (f0 + i) = rtN (L.getD i 0)) → evs sg tst L.length f0 st = evL tst L st := by
  intro L
  induction L with
  | nil => intro f0 st _ _; rfl
  | cons k L ih =>
    intro f0 st hk hs
    have h0 : sg f0 = rtN k := hs 0 (Nat.succ_pos _)
    have e : stp tst (sg f0) st = stN6 tst k st := by
      rw [h0]
      unfold rtN stN6
      rcases hk k (List.mem_cons_self ..) with h1 | h1 | h1 | ⟨h1, h2⟩
      · subst h1; rfl
      · subst h1; rfl
      · subst h1; rfl
      · rw [if_neg (by omega), if_neg (by omega), if_neg (by omega), if_neg (by omega), if_neg (by omega), if_neg (by omega)]
        unfold stp
        rw [if_neg (m33 h1), if_neg (m0 h1), nI_clamp (by omega)]
    show (match stp tst (sg f0) st with
      | none => none
      | some st1 => evs sg tst L.length (f0 + 1) st1) = (match stN6 tst k st with
      | none => none
      | some st1 => evL tst L st1)
    rw [e]
    cases stN6 tst k st with
    | none => rfl
    | some st1 => exact ih (fun a ha => hk a (List.mem_cons_of_mem _ ha)) (fun i hi => by rw [show f0 + 1 + i = f0 + (i + 1) by omega]; exact hs (i + 1) (Nat.succ_lt_succ hi))
/-- what the class's holds says of a clause is what the reference's says -/
theorem hB_of {R : Nat → Nat → Int32} {c a hh s : Nat} {x : xCl} (hR : RClg R (R 117) c x s) (hs : s ≤ 600) (hx : x.1 < 2) : Sem 11 x.2.2.2 ∧ ∃ b0 : Bool, hB R a hh c = b0 ∧ evC (tstV (facM R a hh)) x.2.2.2 (nI 0) = nI (2 * 0 + b0.toNat) := by
  obtain ⟨h1, h2, h3, h4, h5⟩ := hR
  obtain ⟨k1, f0, k2, k3, k4, k5, k6⟩ := h5 hx
  obtain ⟨b0, e1, e2⟩ := k1.2 (tstV (facM R a hh))
  refine ⟨k1, b0, ?_, e2 0 (by decide)⟩
  unfold hB evB
  rw [k4, k5, nI_clamp (by omega), nI_clamp (by omega), show f0 + x.2.2.2.length - f0 = x.2.2.2.length by omega, evs_evL k1.1 k6, e1]
set_option maxRecDepth 100000 in
set_option maxHeartbeats 4000000 in
theorem C_fits {d : Nat} {I : Nat → Nat → Int32} {J : Nat → Nat → Int64} {K : Nat → Nat → Option Nat} {h : List xSh} (S : St K h) {R : Nat → Nat → Int32} {b cb ce : Nat} (C : CUR I K h R b cb ce) {a hh : Nat} (hF : FAC I (facM R a hh)) : EvP (d + 4) 35 0 [(0, .ref (b)), (1, .ref (39))] [] (I, J, K, h) (QI (fun x t => x = fitF R cb ce a hh ∧ t = (I, J, K, h))) := by
  obtain ⟨⟨hTS, hb⟩, CL, hCT, hce, hCL, hRC⟩ := C
  have hm : ce - cb = CL.length := by omega
  refine p_iconst (v := nI 0) k35_0 (by decide) ?_
  refine p_istore_n (ls' := [(0, _), (1, _), (2, _)]) k35_1 rfl ?_
  refine p_iconst (v := nI 0) k35_2 (by decide) ?_
  refine p_istore_n (ls' := [(0, _), (1, _), (2, _), (3, _)]) k35_3 rfl ?_
  have L : ∀ (j : Nat) (k : Nat) (s : Int32), k + j = CL.length → fld (fFit (R 112) (R 113) (hB R a hh)) j (cb + k) s = fitF R cb ce a hh → EvP (d + 4) 35 4 [(0, .ref (b)), (1, .ref (39)), (2, .int (s)), (3, .int (nI (k)))] [] (I, J, K, h) (QI (fun x t => x = fitF R cb ce a hh ∧ t = (I, J, K, h))) := by
    intro j
    induction j with
    | zero =>
      intro k s hk
      intro hs
      refine p_iload_n k35_4 rfl ?_
      refine p_aload_n k35_5 rfl ?_
      refine p_getIv k35_6 hTS.1.1 f_8_9_8 hCT.1 ?_
      refine p_icmp_geN (tgt := 76) k35_9 (by decide) (by omega) (by omega) (fun _ => ?_) (fun c => False.elim (by omega))
      refine p_iload_n k35_76 rfl ?_
      refine p_ireturn k35_77 rt_35 ?_
      exact ⟨hs, rfl⟩
    | succ j ih =>
      intro k s hk
      intro hs
      obtain ⟨w1, w2, w3, wk, wv, wk4, wv1, w4, w5⟩ := cl_w hCT hRC (show k < CL.length by omega)
      rcases (show wk = 0 ∨ wk = 1 ∨ 2 ≤ wk by omega) with hw0 | hw1 | hw2
      · skip
        subst hw0
        have hx1 : (CL.getD k (0, 0, 0, [])).1 < 2 := by have e9 := (hRC k (by omega)).2.1; rw [w4] at e9; have := nI_inj (by omega) (by have := (hRC k (by omega)).1.1; omega) e9; omega
        obtain ⟨hS9, b0, hb0, hev⟩ := hB_of (a := a) (hh := hh) (hRC k (by omega)) (Nat.le_refl _) hx1
        obtain ⟨f0, g1, g2, g3, g4⟩ := (hCT.2 k (by omega)).2.2.2 hx1
        refine p_iload_n k35_4 rfl ?_
        refine p_aload_n k35_5 rfl ?_
        refine p_getIv k35_6 hTS.1.1 f_8_9_8 hCT.1 ?_
        refine p_icmp_geN (tgt := 76) k35_9 (by decide) (by omega) (by omega) (fun c => False.elim (by omega)) (fun _ => ?_)
        refine p_aload_n k35_12 rfl ?_
        refine p_getRv k35_13 hTS.1.1 f_8_15_8 hTS.2.1 ?_
        refine p_iload_n k35_16 rfl ?_
        refine p_ialdN k35_17 hTS.1.2.1 (by omega) (by decide) (show _ = nI 0 from w1.trans w4) ?_
        refine p_if_neN (tgt := 42) k35_18 (by decide) (by omega) (fun c => False.elim (by omega)) (fun _ => ?_)
        refine p_aload_n k35_21 rfl ?_
        refine p_iload_n k35_22 rfl ?_
        refine p_aload_n k35_23 rfl ?_
        refine p_cV2i k35_24 hTS.1.1 c_8_54_8 rfl rfl (Nat.le_of_ble_eq_true rfl) (C_holds S hF hTS (by omega) hS9 g1 g2 g3 g4 hev) (fun x1 m1 hq => ?_)
        obtain ⟨rfl, rfl⟩ := hq
        rw [← hb0]
        refine p_if_eqB (tgt := 42) k35_27 (by decide) (fun cq27 => ?_) (fun cq27 => ?_)
        · skip
          refine p_aload_n k35_42 rfl ?_
          refine p_getRv k35_43 hTS.1.1 f_8_15_8 hTS.2.1 ?_
          refine p_iload_n k35_46 rfl ?_
          refine p_ialdN k35_47 hTS.1.2.1 (by omega) (by decide) (show _ = nI 0 from w1.trans w4) ?_
          refine p_iconst (v := nI 1) k35_48 (by decide) ?_
          refine p_icmp_neN (tgt := 70) k35_49 (by decide) (by omega) (by omega) (fun _ => ?_) (fun c => False.elim (by omega))
          refine p_iincN (ls1 := [(0, _), (1, _), (2, _), (3, _)]) k35_70 rfl rfl ?_
          refine p_goto (tgt := 4) k35_73 (by decide) ?_
          exact ih (k + 1) _ (by omega) (by rw [← hs]; show fld (fFit (R 112) (R 113) (hB R a hh)) j (cb + k + 1) _ = fld (fFit (R 112) (R 113) (hB R a hh)) j (cb + k + 1) _; congr 1; unfold fFit; rw [w4, if_neg (by decide)]; first | rw [cq27, if_neg (by decide), if_pos (by decide)] | (rw [cq27, if_pos rfl]))
        · skip
          refine p_iload_n k35_30 rfl ?_
          refine p_aload_n k35_31 rfl ?_
          refine p_getRv k35_32 hTS.1.1 f_8_19_8 hTS.2.2.1 ?_
          refine p_iload_n k35_35 rfl ?_
          refine p_ialdN k35_36 hTS.1.2.2.1 (by omega) (by decide) w2 ?_
          refine p_iadd k35_37 ?_
          refine p_istore_n (ls' := [(0, _), (1, _), (2, _), (3, _)]) k35_38 rfl ?_
          refine p_goto (tgt := 70) k35_39 (by decide) ?_
          refine p_iincN (ls1 := [(0, _), (1, _), (2, _), (3, _)]) k35_70 rfl rfl ?_
          refine p_goto (tgt := 4) k35_73 (by decide) ?_
          exact ih (k + 1) _ (by omega) (by rw [← hs]; show fld (fFit (R 112) (R 113) (hB R a hh)) j (cb + k + 1) _ = fld (fFit (R 112) (R 113) (hB R a hh)) j (cb + k + 1) _; congr 1; unfold fFit; rw [w4, if_neg (by decide)]; first | rw [cq27, if_neg (by decide), if_pos (by decide)] | (rw [cq27, if_pos rfl]))
      · skip
        subst hw1
        have hx1 : (CL.getD k (0, 0, 0, [])).1 < 2 := by have e9 := (hRC k (by omega)).2.1; rw [w4] at e9; have := nI_inj (by omega) (by have := (hRC k (by omega)).1.1; omega) e9; omega
        obtain ⟨hS9, b0, hb0, hev⟩ := hB_of (a := a) (hh := hh) (hRC k (by omega)) (Nat.le_refl _) hx1
        obtain ⟨f0, g1, g2, g3, g4⟩ := (hCT.2 k (by omega)).2.2.2 hx1
        refine p_iload_n k35_4 rfl ?_
        refine p_aload_n k35_5 rfl ?_
        refine p_getIv k35_6 hTS.1.1 f_8_9_8 hCT.1 ?_
        refine p_icmp_geN (tgt := 76) k35_9 (by decide) (by omega) (by omega) (fun c => False.elim (by omega)) (fun _ => ?_)
        refine p_aload_n k35_12 rfl ?_
        refine p_getRv k35_13 hTS.1.1 f_8_15_8 hTS.2.1 ?_
        refine p_iload_n k35_16 rfl ?_
        refine p_ialdN k35_17 hTS.1.2.1 (by omega) (by decide) (show _ = nI 1 from w1.trans w4) ?_
        refine p_if_neN (tgt := 42) k35_18 (by decide) (by omega) (fun _ => ?_) (fun c => False.elim (by omega))
        refine p_aload_n k35_42 rfl ?_
        refine p_getRv k35_43 hTS.1.1 f_8_15_8 hTS.2.1 ?_
        refine p_iload_n k35_46 rfl ?_
        refine p_ialdN k35_47 hTS.1.2.1 (by omega) (by decide) (show _ = nI 1 from w1.trans w4) ?_
        refine p_iconst (v := nI 1) k35_48 (by decide) ?_
        refine p_icmp_neN (tgt := 70) k35_49 (by decide) (by omega) (by omega) (fun c => False.elim (by omega)) (fun _ => ?_)
        refine p_aload_n k35_52 rfl ?_
        refine p_iload_n k35_53 rfl ?_
        refine p_aload_n k35_54 rfl ?_
        refine p_cV2i k35_55 hTS.1.1 c_8_54_8 rfl rfl (Nat.le_of_ble_eq_true rfl) (C_holds S hF hTS (by omega) hS9 g1 g2 g3 g4 hev) (fun x1 m1 hq => ?_)
        obtain ⟨rfl, rfl⟩ := hq
        rw [← hb0]
        refine p_if_eqB (tgt := 70) k35_58 (by decide) (fun cq58 => ?_) (fun cq58 => ?_)
        · skip
          refine p_iincN (ls1 := [(0, _), (1, _), (2, _), (3, _)]) k35_70 rfl rfl ?_
          refine p_goto (tgt := 4) k35_73 (by decide) ?_
          exact ih (k + 1) _ (by omega) (by rw [← hs]; show fld (fFit (R 112) (R 113) (hB R a hh)) j (cb + k + 1) _ = fld (fFit (R 112) (R 113) (hB R a hh)) j (cb + k + 1) _; congr 1; unfold fFit; rw [w4, if_neg (by decide)]; first | (rw [cq58, if_neg (by decide), if_neg (by decide)]; exact Int32.sub_eq_add_neg _ _) | (rw [cq58, if_pos rfl]))
        · skip
          refine p_iload_n k35_61 rfl ?_
          refine p_aload_n k35_62 rfl ?_
          refine p_getRv k35_63 hTS.1.1 f_8_19_8 hTS.2.2.1 ?_
          refine p_iload_n k35_66 rfl ?_
          refine p_ialdN k35_67 hTS.1.2.2.1 (by omega) (by decide) w2 ?_
          refine p_isub k35_68 ?_
          refine p_istore_n (ls' := [(0, _), (1, _), (2, _), (3, _)]) k35_69 rfl ?_
          refine p_iincN (ls1 := [(0, _), (1, _), (2, _), (3, _)]) k35_70 rfl rfl ?_
          refine p_goto (tgt := 4) k35_73 (by decide) ?_
          exact ih (k + 1) _ (by omega) (by rw [← hs]; show fld (fFit (R 112) (R 113) (hB R a hh)) j (cb + k + 1) _ = fld (fFit (R 112) (R 113) (hB R a hh)) j (cb + k + 1) _; congr 1; unfold fFit; rw [w4, if_neg (by decide)]; first | (rw [cq58, if_neg (by decide), if_neg (by decide)]; exact Int32.sub_eq_add_neg _ _) | (rw [cq58, if_pos rfl]))
      · skip
        refine p_iload_n k35_4 rfl ?_
        refine p_aload_n k35_5 rfl ?_
        refine p_getIv k35_6 hTS.1.1 f_8_9_8 hCT.1 ?_
        refine p_icmp_geN (tgt := 76) k35_9 (by decide) (by omega) (by omega) (fun c => False.elim (by omega)) (fun _ => ?_)
        refine p_aload_n k35_12 rfl ?_
        refine p_getRv k35_13 hTS.1.1 f_8_15_8 hTS.2.1 ?_
        refine p_iload_n k35_16 rfl ?_
        refine p_ialdN k35_17 hTS.1.2.1 (by omega) (by decide) (show _ = nI wk from w1.trans w4) ?_
        refine p_if_neN (tgt := 42) k35_18 (by decide) (by omega) (fun _ => ?_) (fun c => False.elim (by omega))
        refine p_aload_n k35_42 rfl ?_
        refine p_getRv k35_43 hTS.1.1 f_8_15_8 hTS.2.1 ?_
        refine p_iload_n k35_46 rfl ?_
        refine p_ialdN k35_47 hTS.1.2.1 (by omega) (by decide) (show _ = nI wk from w1.trans w4) ?_
        refine p_iconst (v := nI 1) k35_48 (by decide) ?_
        refine p_icmp_neN (tgt := 70) k35_49 (by decide) (by omega) (by omega) (fun _ => ?_) (fun c => False.elim (by omega))
        refine p_iincN (ls1 := [(0, _), (1, _), (2, _), (3, _)]) k35_70 rfl rfl ?_
        refine p_goto (tgt := 4) k35_73 (by decide) ?_
        exact ih (k + 1) _ (by omega) (by rw [← hs]; show fld (fFit (R 112) (R 113) (hB R a hh)) j (cb + k + 1) _ = fld (fFit (R 112) (R 113) (hB R a hh)) j (cb + k + 1) _; congr 1; unfold fFit; rw [w4, if_pos (by rw [i_lt, nI_t (by omega), nI_t (by omega)]; omega)])
  exact L CL.length 0 (nI 0) (by omega) (by rw [← hm]; rfl)

theorem mx0_eq (x : Int32) : mx0 x = mxI (nI 0) x := by
  unfold mx0 mxI
  by_cases h1 : nI 0 < x
  · rw [if_pos h1, if_neg (by rw [i_lt] at *; omega)]
  · rw [if_neg h1]
    by_cases h2 : x < nI 0
    · rw [if_pos h2]
    · rw [if_neg h2]
      rw [i_lt] at *
      rw [i_eq]
      omega
theorem mx0_i (x : Int32) : mx0 (mx0 x) = mx0 x := by
  unfold mx0
  by_cases h1 : nI 0 < x
  · rw [if_pos h1, if_pos h1]
  · rw [if_neg h1, if_neg (by decide)]
theorem apart_abs {x y : Nat} (hx : x ≤ 9) (hy : y ≤ 9) : (if (0 : Int32) ≤ nI x - nI y then nI x - nI y else 0 - (nI x - nI y)) = (if nI x < nI y then nI y - nI x else nI x - nI y) ∧ ((if nI x < nI y then nI y - nI x else nI x - nI y) = 0 ↔ ¬ 0 < (if nI x < nI y then nI y - nI x else nI x - nI y)) := by
  have H : ∀ x y : Fin 10, (if (0 : Int32) ≤ nI x.val - nI y.val then nI x.val - nI y.val else 0 - (nI x.val - nI y.val)) = (if nI x.val < nI y.val then nI y.val - nI x.val else nI x.val - nI y.val) ∧ ((if nI x.val < nI y.val then nI y.val - nI x.val else nI x.val - nI y.val) = 0 ↔ ¬ 0 < (if nI x.val < nI y.val then nI y.val - nI x.val else nI x.val - nI y.val)) := by decide +kernel
  exact H ⟨x, by omega⟩ ⟨y, by omega⟩
theorem dC_deed {R : Nat → Nat → Int32} {cb ce a hh dd k : Nat} (hk : k < 7) (h0 : apartI R a hh = 0 ↔ ¬ 0 < apartI R a hh) : dC (([2, 6, 10, 0, 4, 1, 7] : List Nat).getD k 2) (R 105 a + fitF R cb ce a hh) (apartI R a hh) (mothF R cb ce * R 107 a / nI 4) (R 108 (4 * a + dd % 4)) (R 103 a) = deedF R cb ce a hh dd k := by
  rcases (show k = 0 ∨ k = 1 ∨ k = 2 ∨ k = 3 ∨ k = 4 ∨ k = 5 ∨ k = 6 by omega) with rfl | rfl | rfl | rfl | rfl | rfl | rfl
  · exact mx0_eq _
  · show mx0 (mx0 _ - _) = mxI _ (mxI _ _ - _); rw [mx0_eq, mx0_eq]
  · show mx0 (mx0 _ - _) = mxI _ (mxI _ _ - _); rw [mx0_eq, mx0_eq]
  · show mx0 _ + _ = mxI _ _ + _; rw [mx0_eq]
  · show (if apartI R a hh = 0 then mx0 (mx0 _ - nI 2 * apartI R a hh) else nI 0) = (if 0 < apartI R a hh then nI 0 else mxI (nI 0) _)
    by_cases e : apartI R a hh = 0
    · rw [if_pos e, if_neg (h0.mp e), e, show nI 2 * 0 = (0 : Int32) by decide, Int32.sub_zero, mx0_i, mx0_eq]
    · rw [if_neg e]
      by_cases e2 : 0 < apartI R a hh
      · rw [if_pos e2]
      · exact absurd (h0.mpr e2) e
  · show mx0 (mx0 (mx0 _ - _) - _) = mxI _ (mxI _ (mxI _ _ - _) - _); rw [mx0_eq, mx0_eq, mx0_eq]
  · show mx0 _ + _ + _ = mxI _ _ + _ + _; rw [mx0_eq]
