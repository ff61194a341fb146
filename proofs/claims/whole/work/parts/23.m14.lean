/-! calls with a long behind; the reference: act, taken, tapes, judge -/
section EVC2
variable {d y pc cn : Nat} {ls ls1 : List (Nat × Value)} {rest : List Value} {I : Nat → Nat → Int32} {J : Nat → Nat → Int64} {K : Nat → Nat → Option Nat} {h : List xSh} {Φ : xPost}
theorem p_cV2Ll {idx mid : Nat} {v1 v2 : Value} {ψ : Int64 → xMem → Prop} (hd0 : xdec y pc = some (cn, .invokevirtual idx, 3)) {a ci : Nat} (hs : h[a]? = some (.inl ci)) (hc : xCv cn idx ci mid 2) (hl2 : 4 ≤ xml mid) (hv1 : v1.category = 1) (hv2 : v2.category = 2) (hw : (rest.map fun v => v.category).sum ≤ 8) (k0 : EvP d mid 0 [(0, .ref a), (1, v1), (2, v2)] [] (I, J, K, h) (QL ψ)) (k1 : ∀ (x : Int64) (m1 : xMem), ψ x m1 → EvP (d + 1) y (pc + 3) ls (.long x :: rest) m1 Φ) : EvP (d + 1) y pc ls (v2 :: v1 :: .ref a :: rest) (I, J, K, h) Φ := by
  obtain ⟨kd, hm, hkd, hl⟩ := hc
  have e : lv_args 0 ([.ref a, v1, v2]) = [(0, .ref a), (1, v1), (2, v2)] := by simp [lv_args, xcat_ref, hv1, hv2]
  obtain ⟨_, m1, g1, x, rfl, g2⟩ := k0
  obtain ⟨r, t, g3, g4⟩ := k1 x m1 g2
  exact ⟨r, t, e_callV (As := [v1, v2]) (q := some (.long x)) hd0 hs hm hkd rfl rfl (by simp [hv1, hv2]; omega) hw (by rw [e]; exact g1) g3, g4⟩
theorem p_cV1Ll {idx mid : Nat} {v1 : Value} {ψ : Int64 → xMem → Prop} (hd0 : xdec y pc = some (cn, .invokevirtual idx, 3)) {a ci : Nat} (hs : h[a]? = some (.inl ci)) (hc : xCv cn idx ci mid 1) (hl2 : 3 ≤ xml mid) (hv1 : v1.category = 2) (hw : (rest.map fun v => v.category).sum ≤ 8) (k0 : EvP d mid 0 [(0, .ref a), (1, v1)] [] (I, J, K, h) (QL ψ)) (k1 : ∀ (x : Int64) (m1 : xMem), ψ x m1 → EvP (d + 1) y (pc + 3) ls (.long x :: rest) m1 Φ) : EvP (d + 1) y pc ls (v1 :: .ref a :: rest) (I, J, K, h) Φ := by
  obtain ⟨kd, hm, hkd, hl⟩ := hc
  have e : lv_args 0 ([.ref a, v1]) = [(0, .ref a), (1, v1)] := by simp [lv_args, xcat_ref, hv1]
  obtain ⟨_, m1, g1, x, rfl, g2⟩ := k0
  obtain ⟨r, t, g3, g4⟩ := k1 x m1 g2
  exact ⟨r, t, e_callV (As := [v1]) (q := some (.long x)) hd0 hs hm hkd rfl rfl (by simp [hv1]; omega) hw (by rw [e]; exact g1) g3, g4⟩
theorem p_cS2Lv {idx mid : Nat} {v1 v2 : Value} {ψ : xMem → Prop} (hd0 : xdec y pc = some (cn, .invokestatic idx, 3)) (hc : xCs cn idx mid 2) (hl2 : 3 ≤ xml mid) (hv1 : v1.category = 1) (hv2 : v2.category = 2) (hw : (rest.map fun v => v.category).sum ≤ 8) (k0 : EvP d mid 0 [(0, v1), (1, v2)] [] (I, J, K, h) (QV ψ)) (k1 : ∀ (m1 : xMem), ψ m1 → EvP (d + 1) y (pc + 3) ls rest m1 Φ) : EvP (d + 1) y pc ls (v2 :: v1 :: rest) (I, J, K, h) Φ := by
  obtain ⟨kd, hm, hkd, hl⟩ := hc
  have e : lv_args 0 ([v1, v2]) = [(0, v1), (1, v2)] := by simp [lv_args, xcat_ref, hv1, hv2]
  obtain ⟨_, m1, g1, rfl, g2⟩ := k0
  obtain ⟨r, t, g3, g4⟩ := k1 m1 g2
  exact ⟨r, t, e_callS (As := [v1, v2]) (q := none) hd0 hm hkd rfl rfl (by simp [hv1, hv2]; omega) hw (by rw [e]; exact g1) g3, g4⟩
end EVC2
def actA (w : Int32) (k i : Nat) (v x : Int32) : Int32 × List Nat := if w = 0 then ssA k i v x else if w = nI 1 then daA k i v x else taA k i v x
def actM (I : Nat → Nat → Int32) (na : Nat) (v w x : Int32) : Int32 × (Nat → Nat → Int32) := if ixB v na = false ∨ inB w (nI 0) (nI 2) = false then (nI 0, s1 I 98 72 (nI 0)) else ((actA w (I 102 v.toNatClampNeg).toNatClampNeg v.toNatClampNeg (I 103 v.toNatClampNeg) x).1, nts (s1 I 98 72 (nI 0)) 0 (actA w (I 102 v.toNatClampNeg).toNatClampNeg v.toNatClampNeg (I 103 v.toNatClampNeg) x).2)
set_option maxRecDepth 100000 in
set_option maxHeartbeats 4000000 in
theorem M_act {d : Nat} {I : Nat → Nat → Int32} {J : Nat → Nat → Int64} {K : Nat → Nat → Option Nat} {h : List xSh} (S : St K h) {nh na dd cb ce : Nat} (M : MI I nh na dd cb ce) (v w x : Int32) : EvP (d + 8) 223 0 [(0, .ref (98)), (1, .int (v)), (2, .int (w)), (3, .int (x))] [] (I, J, K, h) (QI (fun z t => z = (actM I na v w x).1 ∧ t = ((actM I na v w x).2, J, K, h))) := by
  have hnh := M.nh
  have hnh6 := M.nh6
  have hna := M.na
  have hna6 := M.na6
  refine p_aload_n k223_0 rfl ?_
  refine p_iconst (v := nI 0) k223_1 (by decide) ?_
  refine p_putIv k223_2 (s_98 S) g_12_229_12 n_223_12_72 ?_
  refine p_aload_n k223_5 rfl ?_
  refine p_iload_n k223_6 rfl ?_
  refine p_cV1i k223_7 (s_98 S) c_12_256_12 rfl (Nat.le_of_ble_eq_true rfl) (M_isHat S (I := s1 I 98 72 (nI 0)) hna hna6 v) (fun x1 m1 hq => ?_)
  obtain ⟨rfl, rfl⟩ := hq
  refine p_if_eqB (tgt := 23) k223_10 (by decide) (fun c10 => ?_) (fun c10 => ?_)
  · skip
    refine p_iconst (v := nI 0) k223_23 (by decide) ?_
    refine p_ireturn k223_24 rt_223 ?_
    exact ⟨by unfold actM; rw [if_pos (by first | exact Or.inl c10 | exact Or.inr c20)], by unfold actM; rw [if_pos (by first | exact Or.inl c10 | exact Or.inr c20)]⟩
  · skip
    refine p_aload_n k223_13 rfl ?_
    refine p_iload_n k223_14 rfl ?_
    refine p_iconst (v := nI 0) k223_15 (by decide) ?_
    refine p_iconst (v := nI 2) k223_16 (by decide) ?_
    refine p_cV3i k223_17 (s_98 S) c_12_248_12 rfl rfl rfl (Nat.le_of_ble_eq_true rfl) (M_in S (w) (nI (0)) (nI (2))) (fun x1 m1 hq => ?_)
    obtain ⟨rfl, rfl⟩ := hq
    refine p_if_neB (tgt := 25) k223_20 (by decide) (fun c20 => ?_) (fun c20 => ?_)
    · skip
      obtain ⟨a, ha, rfl⟩ := ixB_of (n := na) (by omega) c10
      have hca := nI_clamp (n := a) (by omega)
      obtain ⟨k, hk7, hke⟩ := M.kind a ha
      have hn9 : ¬ (ixB (nI a) na = false ∨ inB w (nI 0) (nI 2) = false) := by rw [c10, c20]; decide
      have hkc : (I 102 a).toNatClampNeg = k := by rw [hke, nI_clamp (by omega)]
      refine p_iload_n k223_25 rfl ?_
      refine p_if_ne (tgt := 38) k223_26 (by decide) (fun c26 => ?_) (fun c26 => ?_)
      · skip
        refine p_iload_n k223_38 rfl ?_
        refine p_iconst (v := nI 1) k223_39 (by decide) ?_
        refine p_icmp_ne (tgt := 52) k223_40 (by decide) (fun c40 => ?_) (fun c40 => ?_)
        · skip
          refine p_aload_n k223_52 rfl ?_
          refine p_iload_n k223_53 rfl ?_
          refine p_iload_n k223_54 rfl ?_
          refine p_cV2i k223_55 (s_98 S) c_12_434_12 rfl rfl (Nat.le_of_ble_eq_true rfl) (M_tellsAct S (I := s1 I 98 72 (nI 0)) (r := 0) (i := a) (k := k) (by omega) rfl (by omega) hke (by omega) x) (fun x1 m1 hq => ?_)
          obtain ⟨rfl, rfl⟩ := hq
          refine p_ireturn k223_58 rt_223 ?_
          exact ⟨by unfold actM actA; rw [if_neg hn9, hca, hkc, show s1 I 98 72 (nI 0) 103 a = I 103 a from rfl]; (first | rw [if_pos c26] | rw [if_neg c26, if_pos c40] | rw [if_neg c26, if_neg c40]), by unfold actM actA; rw [if_neg hn9, hca, hkc, show s1 I 98 72 (nI 0) 103 a = I 103 a from rfl]; (first | rw [if_pos c26] | rw [if_neg c26, if_pos c40] | rw [if_neg c26, if_neg c40])⟩
        · skip
          refine p_aload_n k223_43 rfl ?_
          refine p_iload_n k223_44 rfl ?_
          refine p_iload_n k223_45 rfl ?_
          refine p_cV2i k223_46 (s_98 S) c_12_428_12 rfl rfl (Nat.le_of_ble_eq_true rfl) (M_doesAct S (I := s1 I 98 72 (nI 0)) (r := 0) (i := a) (k := k) (by omega) rfl (by omega) hke (by omega) x) (fun x1 m1 hq => ?_)
          obtain ⟨rfl, rfl⟩ := hq
          refine p_goto (tgt := 58) k223_49 (by decide) ?_
          refine p_ireturn k223_58 rt_223 ?_
          exact ⟨by unfold actM actA; rw [if_neg hn9, hca, hkc, show s1 I 98 72 (nI 0) 103 a = I 103 a from rfl]; (first | rw [if_pos c26] | rw [if_neg c26, if_pos c40] | rw [if_neg c26, if_neg c40]), by unfold actM actA; rw [if_neg hn9, hca, hkc, show s1 I 98 72 (nI 0) 103 a = I 103 a from rfl]; (first | rw [if_pos c26] | rw [if_neg c26, if_pos c40] | rw [if_neg c26, if_neg c40])⟩
      · skip
        refine p_aload_n k223_29 rfl ?_
        refine p_iload_n k223_30 rfl ?_
        refine p_iload_n k223_31 rfl ?_
        refine p_cV2i k223_32 (s_98 S) c_12_419_12 rfl rfl (Nat.le_of_ble_eq_true rfl) (M_sitsAct S (I := s1 I 98 72 (nI 0)) (r := 0) (i := a) (k := k) (by omega) rfl (by omega) hke (by omega) x) (fun x1 m1 hq => ?_)
        obtain ⟨rfl, rfl⟩ := hq
        refine p_goto (tgt := 58) k223_35 (by decide) ?_
        refine p_ireturn k223_58 rt_223 ?_
        exact ⟨by unfold actM actA; rw [if_neg hn9, hca, hkc, show s1 I 98 72 (nI 0) 103 a = I 103 a from rfl]; (first | rw [if_pos c26] | rw [if_neg c26, if_pos c40] | rw [if_neg c26, if_neg c40]), by unfold actM actA; rw [if_neg hn9, hca, hkc, show s1 I 98 72 (nI 0) 103 a = I 103 a from rfl]; (first | rw [if_pos c26] | rw [if_neg c26, if_pos c40] | rw [if_neg c26, if_neg c40])⟩
    · skip
      refine p_iconst (v := nI 0) k223_23 (by decide) ?_
      refine p_ireturn k223_24 rt_223 ?_
      exact ⟨by unfold actM; rw [if_pos (by first | exact Or.inl c10 | exact Or.inr c20)], by unfold actM; rw [if_pos (by first | exact Or.inl c10 | exact Or.inr c20)]⟩

def takM (I : Nat → Nat → Int32) (na : Nat) (v w : Int32) : Int32 := if inB w (nI 0) (nI 6) = false then -2 else if ixB v na = false then -11 else if w = 0 ∨ I 102 v.toNatClampNeg = w ∨ (w = nI 1 ∧ I 102 v.toNatClampNeg = nI 4) ∨ (w = nI 2 ∧ I 102 v.toNatClampNeg = nI 5) ∨ (w = nI 3 ∧ I 102 v.toNatClampNeg = nI 6) then I 102 v.toNatClampNeg else -12
theorem nd_all : nI 1 ≠ 0 ∧ nI 2 ≠ 0 ∧ nI 3 ≠ 0 ∧ nI 2 ≠ nI 1 ∧ nI 3 ≠ nI 1 ∧ nI 3 ≠ nI 2 ∧ nI 1 ≠ nI 2 ∧ nI 1 ≠ nI 3 ∧ nI 2 ≠ nI 3 ∧ nI 5 ≠ nI 4 ∧ nI 6 ≠ nI 4 ∧ nI 6 ≠ nI 5 ∧ nI 4 ≠ nI 5 ∧ nI 4 ≠ nI 6 ∧ nI 5 ≠ nI 6 := by decide
set_option maxRecDepth 100000 in
set_option maxHeartbeats 4000000 in
theorem M_taken {d : Nat} {I : Nat → Nat → Int32} {J : Nat → Nat → Int64} {K : Nat → Nat → Option Nat} {h : List xSh} (S : St K h) {nh na dd cb ce : Nat} (M : MI I nh na dd cb ce) (v w : Int32) : EvP (d + 2) 225 0 [(0, .ref (98)), (1, .int (v)), (2, .int (w))] [] (I, J, K, h) (QI (fun x t => x = takM I na v w ∧ t = (I, J, K, h))) := by
  have hnh := M.nh
  have hnh6 := M.nh6
  have hna := M.na
  have hna6 := M.na6
  refine p_aload_n k225_0 rfl ?_
  refine p_iload_n k225_1 rfl ?_
  refine p_iconst (v := nI 0) k225_2 (by decide) ?_
  refine p_bipush (v := nI 6) k225_3 (by decide) ?_
  refine p_cV3i k225_5 (s_98 S) c_12_248_12 rfl rfl rfl (Nat.le_of_ble_eq_true rfl) (M_in S (w) (nI (0)) (nI (6))) (fun x1 m1 hq => ?_)
  obtain ⟨rfl, rfl⟩ := hq
  refine p_if_neB (tgt := 14) k225_8 (by decide) (fun c8 => ?_) (fun c8 => ?_)
  · skip
    refine p_aload_n k225_14 rfl ?_
    refine p_iload_n k225_15 rfl ?_
    refine p_cV1i k225_16 (s_98 S) c_12_256_12 rfl (Nat.le_of_ble_eq_true rfl) (M_isHat S hna hna6 (v)) (fun x1 m1 hq => ?_)
    obtain ⟨rfl, rfl⟩ := hq
    refine p_if_neB (tgt := 25) k225_19 (by decide) (fun c19 => ?_) (fun c19 => ?_)
    · skip
      obtain ⟨a, ha, rfl⟩ := ixB_of (n := na) (by omega) c19
      have hca := nI_clamp (n := a) (by omega)
      refine p_aload_n k225_25 rfl ?_
      refine p_getRv k225_26 (s_98 S) f_12_29_12 (r_98_6 S) ?_
      refine p_iload_n k225_29 rfl ?_
      refine p_ialdN k225_30 (s_102 S) (by omega) (by decide) rfl ?_
      refine p_istore_n (ls' := [(0, _), (1, _), (2, _), (3, _)]) k225_31 rfl ?_
      refine p_iload_n k225_32 rfl ?_
      refine p_if_eq (tgt := 72) k225_33 (by decide) (fun c33 => ?_) (fun c33 => ?_)
      · skip
        refine p_iload_n k225_72 rfl ?_
        refine p_goto (tgt := 78) k225_73 (by decide) ?_
        refine p_ireturn k225_78 rt_225 ?_
        exact ⟨by unfold takM; rw [if_neg (by rw [c8]; decide), if_neg (by rw [c19]; decide), hca]; first | rw [if_pos (by first | exact Or.inl c33 | exact Or.inr (Or.inl c38) | exact Or.inr (Or.inr (Or.inl ⟨c43, c48⟩)) | exact Or.inr (Or.inr (Or.inr (Or.inl ⟨c53, c58⟩))) | exact Or.inr (Or.inr (Or.inr (Or.inr ⟨c63, c69⟩))))] | rw [if_neg (fun z => by rcases z with e | e | ⟨e1, e2⟩ | ⟨e1, e2⟩ | ⟨e1, e2⟩ <;> first | exact c33 e | exact c38 e | exact c43 e1 | exact c48 e2 | exact c53 e1 | exact c58 e2 | exact c63 e1 | exact c69 e2)], rfl⟩
      · skip
        refine p_iload_n k225_36 rfl ?_
        refine p_iload_n k225_37 rfl ?_
        refine p_icmp_eq (tgt := 72) k225_38 (by decide) (fun c38 => ?_) (fun c38 => ?_)
        · skip
          refine p_iload_n k225_72 rfl ?_
          refine p_goto (tgt := 78) k225_73 (by decide) ?_
          refine p_ireturn k225_78 rt_225 ?_
          exact ⟨by unfold takM; rw [if_neg (by rw [c8]; decide), if_neg (by rw [c19]; decide), hca]; first | rw [if_pos (by first | exact Or.inl c33 | exact Or.inr (Or.inl c38) | exact Or.inr (Or.inr (Or.inl ⟨c43, c48⟩)) | exact Or.inr (Or.inr (Or.inr (Or.inl ⟨c53, c58⟩))) | exact Or.inr (Or.inr (Or.inr (Or.inr ⟨c63, c69⟩))))] | rw [if_neg (fun z => by rcases z with e | e | ⟨e1, e2⟩ | ⟨e1, e2⟩ | ⟨e1, e2⟩ <;> first | exact c33 e | exact c38 e | exact c43 e1 | exact c48 e2 | exact c53 e1 | exact c58 e2 | exact c63 e1 | exact c69 e2)], rfl⟩
        · skip
          refine p_iload_n k225_41 rfl ?_
          refine p_iconst (v := nI 1) k225_42 (by decide) ?_
          refine p_icmp_ne (tgt := 51) k225_43 (by decide) (fun c43 => ?_) (fun c43 => ?_)
          · skip
            refine p_iload_n k225_51 rfl ?_
            refine p_iconst (v := nI 2) k225_52 (by decide) ?_
            refine p_icmp_ne (tgt := 61) k225_53 (by decide) (fun c53 => ?_) (fun c53 => ?_)
            · skip
              refine p_iload_n k225_61 rfl ?_
              refine p_iconst (v := nI 3) k225_62 (by decide) ?_
              refine p_icmp_ne (tgt := 76) k225_63 (by decide) (fun c63 => ?_) (fun c63 => ?_)
              · skip
                refine p_bipush (v := (-12)) k225_76 (by decide) ?_
                refine p_ireturn k225_78 rt_225 ?_
                exact ⟨by unfold takM; rw [if_neg (by rw [c8]; decide), if_neg (by rw [c19]; decide), hca]; first | rw [if_pos (by first | exact Or.inl c33 | exact Or.inr (Or.inl c38) | exact Or.inr (Or.inr (Or.inl ⟨c43, c48⟩)) | exact Or.inr (Or.inr (Or.inr (Or.inl ⟨c53, c58⟩))) | exact Or.inr (Or.inr (Or.inr (Or.inr ⟨c63, c69⟩))))] | rw [if_neg (fun z => by rcases z with e | e | ⟨e1, e2⟩ | ⟨e1, e2⟩ | ⟨e1, e2⟩ <;> first | exact c33 e | exact c38 e | exact c43 e1 | exact c48 e2 | exact c53 e1 | exact c58 e2 | exact c63 e1 | exact c69 e2)], rfl⟩
              · skip
                refine p_iload_n k225_66 rfl ?_
                refine p_bipush (v := nI 6) k225_67 (by decide) ?_
                refine p_icmp_ne (tgt := 76) k225_69 (by decide) (fun c69 => ?_) (fun c69 => ?_)
                · skip
                  refine p_bipush (v := (-12)) k225_76 (by decide) ?_
                  refine p_ireturn k225_78 rt_225 ?_
                  exact ⟨by unfold takM; rw [if_neg (by rw [c8]; decide), if_neg (by rw [c19]; decide), hca]; first | rw [if_pos (by first | exact Or.inl c33 | exact Or.inr (Or.inl c38) | exact Or.inr (Or.inr (Or.inl ⟨c43, c48⟩)) | exact Or.inr (Or.inr (Or.inr (Or.inl ⟨c53, c58⟩))) | exact Or.inr (Or.inr (Or.inr (Or.inr ⟨c63, c69⟩))))] | rw [if_neg (fun z => by rcases z with e | e | ⟨e1, e2⟩ | ⟨e1, e2⟩ | ⟨e1, e2⟩ <;> first | exact c33 e | exact c38 e | exact c43 e1 | exact c48 e2 | exact c53 e1 | exact c58 e2 | exact c63 e1 | exact c69 e2)], rfl⟩
                · skip
                  refine p_iload_n k225_72 rfl ?_
                  refine p_goto (tgt := 78) k225_73 (by decide) ?_
                  refine p_ireturn k225_78 rt_225 ?_
                  exact ⟨by unfold takM; rw [if_neg (by rw [c8]; decide), if_neg (by rw [c19]; decide), hca]; first | rw [if_pos (by first | exact Or.inl c33 | exact Or.inr (Or.inl c38) | exact Or.inr (Or.inr (Or.inl ⟨c43, c48⟩)) | exact Or.inr (Or.inr (Or.inr (Or.inl ⟨c53, c58⟩))) | exact Or.inr (Or.inr (Or.inr (Or.inr ⟨c63, c69⟩))))] | rw [if_neg (fun z => by rcases z with e | e | ⟨e1, e2⟩ | ⟨e1, e2⟩ | ⟨e1, e2⟩ <;> first | exact c33 e | exact c38 e | exact c43 e1 | exact c48 e2 | exact c53 e1 | exact c58 e2 | exact c63 e1 | exact c69 e2)], rfl⟩
            · skip
              refine p_iload_n k225_56 rfl ?_
              refine p_iconst (v := nI 5) k225_57 (by decide) ?_
              refine p_icmp_eq (tgt := 72) k225_58 (by decide) (fun c58 => ?_) (fun c58 => ?_)
              · skip
                refine p_iload_n k225_72 rfl ?_
                refine p_goto (tgt := 78) k225_73 (by decide) ?_
                refine p_ireturn k225_78 rt_225 ?_
                exact ⟨by unfold takM; rw [if_neg (by rw [c8]; decide), if_neg (by rw [c19]; decide), hca]; first | rw [if_pos (by first | exact Or.inl c33 | exact Or.inr (Or.inl c38) | exact Or.inr (Or.inr (Or.inl ⟨c43, c48⟩)) | exact Or.inr (Or.inr (Or.inr (Or.inl ⟨c53, c58⟩))) | exact Or.inr (Or.inr (Or.inr (Or.inr ⟨c63, c69⟩))))] | rw [if_neg (fun z => by rcases z with e | e | ⟨e1, e2⟩ | ⟨e1, e2⟩ | ⟨e1, e2⟩ <;> first | exact c33 e | exact c38 e | exact c43 e1 | exact c48 e2 | exact c53 e1 | exact c58 e2 | exact c63 e1 | exact c69 e2)], rfl⟩
              · skip
                refine p_iload_n k225_61 rfl ?_
                refine p_iconst (v := nI 3) k225_62 (by decide) ?_
                refine p_icmp_ne (tgt := 76) k225_63 (by decide) (fun c63 => ?_) (fun c63 => ?_)
                · skip
                  refine p_bipush (v := (-12)) k225_76 (by decide) ?_
                  refine p_ireturn k225_78 rt_225 ?_
                  exact ⟨by unfold takM; rw [if_neg (by rw [c8]; decide), if_neg (by rw [c19]; decide), hca]; first | rw [if_pos (by first | exact Or.inl c33 | exact Or.inr (Or.inl c38) | exact Or.inr (Or.inr (Or.inl ⟨c43, c48⟩)) | exact Or.inr (Or.inr (Or.inr (Or.inl ⟨c53, c58⟩))) | exact Or.inr (Or.inr (Or.inr (Or.inr ⟨c63, c69⟩))))] | rw [if_neg (fun z => by rcases z with e | e | ⟨e1, e2⟩ | ⟨e1, e2⟩ | ⟨e1, e2⟩ <;> first | exact c33 e | exact c38 e | exact c43 e1 | exact c48 e2 | exact c53 e1 | exact c58 e2 | exact c63 e1 | exact c69 e2)], rfl⟩
                · skip
                  refine p_iload_n k225_66 rfl ?_
                  refine p_bipush (v := nI 6) k225_67 (by decide) ?_
                  refine p_icmp_ne (tgt := 76) k225_69 (by decide) (fun c69 => ?_) (fun c69 => ?_)
                  · skip
                    refine p_bipush (v := (-12)) k225_76 (by decide) ?_
                    refine p_ireturn k225_78 rt_225 ?_
                    exact ⟨by unfold takM; rw [if_neg (by rw [c8]; decide), if_neg (by rw [c19]; decide), hca]; first | rw [if_pos (by first | exact Or.inl c33 | exact Or.inr (Or.inl c38) | exact Or.inr (Or.inr (Or.inl ⟨c43, c48⟩)) | exact Or.inr (Or.inr (Or.inr (Or.inl ⟨c53, c58⟩))) | exact Or.inr (Or.inr (Or.inr (Or.inr ⟨c63, c69⟩))))] | rw [if_neg (fun z => by rcases z with e | e | ⟨e1, e2⟩ | ⟨e1, e2⟩ | ⟨e1, e2⟩ <;> first | exact c33 e | exact c38 e | exact c43 e1 | exact c48 e2 | exact c53 e1 | exact c58 e2 | exact c63 e1 | exact c69 e2)], rfl⟩
                  · skip
                    refine p_iload_n k225_72 rfl ?_
                    refine p_goto (tgt := 78) k225_73 (by decide) ?_
                    refine p_ireturn k225_78 rt_225 ?_
                    exact ⟨by unfold takM; rw [if_neg (by rw [c8]; decide), if_neg (by rw [c19]; decide), hca]; first | rw [if_pos (by first | exact Or.inl c33 | exact Or.inr (Or.inl c38) | exact Or.inr (Or.inr (Or.inl ⟨c43, c48⟩)) | exact Or.inr (Or.inr (Or.inr (Or.inl ⟨c53, c58⟩))) | exact Or.inr (Or.inr (Or.inr (Or.inr ⟨c63, c69⟩))))] | rw [if_neg (fun z => by rcases z with e | e | ⟨e1, e2⟩ | ⟨e1, e2⟩ | ⟨e1, e2⟩ <;> first | exact c33 e | exact c38 e | exact c43 e1 | exact c48 e2 | exact c53 e1 | exact c58 e2 | exact c63 e1 | exact c69 e2)], rfl⟩
          · skip
            refine p_iload_n k225_46 rfl ?_
            refine p_iconst (v := nI 4) k225_47 (by decide) ?_
            refine p_icmp_eq (tgt := 72) k225_48 (by decide) (fun c48 => ?_) (fun c48 => ?_)
            · skip
              refine p_iload_n k225_72 rfl ?_
              refine p_goto (tgt := 78) k225_73 (by decide) ?_
              refine p_ireturn k225_78 rt_225 ?_
              exact ⟨by unfold takM; rw [if_neg (by rw [c8]; decide), if_neg (by rw [c19]; decide), hca]; first | rw [if_pos (by first | exact Or.inl c33 | exact Or.inr (Or.inl c38) | exact Or.inr (Or.inr (Or.inl ⟨c43, c48⟩)) | exact Or.inr (Or.inr (Or.inr (Or.inl ⟨c53, c58⟩))) | exact Or.inr (Or.inr (Or.inr (Or.inr ⟨c63, c69⟩))))] | rw [if_neg (fun z => by rcases z with e | e | ⟨e1, e2⟩ | ⟨e1, e2⟩ | ⟨e1, e2⟩ <;> first | exact c33 e | exact c38 e | exact c43 e1 | exact c48 e2 | exact c53 e1 | exact c58 e2 | exact c63 e1 | exact c69 e2)], rfl⟩
            · skip
              refine p_iload_n k225_51 rfl ?_
              refine p_iconst (v := nI 2) k225_52 (by decide) ?_
              refine p_icmp_ne (tgt := 61) k225_53 (by decide) (fun c53 => ?_) (fun c53 => ?_)
              · skip
                refine p_iload_n k225_61 rfl ?_
                refine p_iconst (v := nI 3) k225_62 (by decide) ?_
                refine p_icmp_ne (tgt := 76) k225_63 (by decide) (fun c63 => ?_) (fun c63 => ?_)
                · skip
                  refine p_bipush (v := (-12)) k225_76 (by decide) ?_
                  refine p_ireturn k225_78 rt_225 ?_
                  exact ⟨by unfold takM; rw [if_neg (by rw [c8]; decide), if_neg (by rw [c19]; decide), hca]; first | rw [if_pos (by first | exact Or.inl c33 | exact Or.inr (Or.inl c38) | exact Or.inr (Or.inr (Or.inl ⟨c43, c48⟩)) | exact Or.inr (Or.inr (Or.inr (Or.inl ⟨c53, c58⟩))) | exact Or.inr (Or.inr (Or.inr (Or.inr ⟨c63, c69⟩))))] | rw [if_neg (fun z => by rcases z with e | e | ⟨e1, e2⟩ | ⟨e1, e2⟩ | ⟨e1, e2⟩ <;> first | exact c33 e | exact c38 e | exact c43 e1 | exact c48 e2 | exact c53 e1 | exact c58 e2 | exact c63 e1 | exact c69 e2)], rfl⟩
                · skip
                  refine p_iload_n k225_66 rfl ?_
                  refine p_bipush (v := nI 6) k225_67 (by decide) ?_
                  refine p_icmp_ne (tgt := 76) k225_69 (by decide) (fun c69 => ?_) (fun c69 => ?_)
                  · skip
                    refine p_bipush (v := (-12)) k225_76 (by decide) ?_
                    refine p_ireturn k225_78 rt_225 ?_
                    exact ⟨by unfold takM; rw [if_neg (by rw [c8]; decide), if_neg (by rw [c19]; decide), hca]; first | rw [if_pos (by first | exact Or.inl c33 | exact Or.inr (Or.inl c38) | exact Or.inr (Or.inr (Or.inl ⟨c43, c48⟩)) | exact Or.inr (Or.inr (Or.inr (Or.inl ⟨c53, c58⟩))) | exact Or.inr (Or.inr (Or.inr (Or.inr ⟨c63, c69⟩))))] | rw [if_neg (fun z => by rcases z with e | e | ⟨e1, e2⟩ | ⟨e1, e2⟩ | ⟨e1, e2⟩ <;> first | exact c33 e | exact c38 e | exact c43 e1 | exact c48 e2 | exact c53 e1 | exact c58 e2 | exact c63 e1 | exact c69 e2)], rfl⟩
                  · skip
                    refine p_iload_n k225_72 rfl ?_
                    refine p_goto (tgt := 78) k225_73 (by decide) ?_
                    refine p_ireturn k225_78 rt_225 ?_
                    exact ⟨by unfold takM; rw [if_neg (by rw [c8]; decide), if_neg (by rw [c19]; decide), hca]; first | rw [if_pos (by first | exact Or.inl c33 | exact Or.inr (Or.inl c38) | exact Or.inr (Or.inr (Or.inl ⟨c43, c48⟩)) | exact Or.inr (Or.inr (Or.inr (Or.inl ⟨c53, c58⟩))) | exact Or.inr (Or.inr (Or.inr (Or.inr ⟨c63, c69⟩))))] | rw [if_neg (fun z => by rcases z with e | e | ⟨e1, e2⟩ | ⟨e1, e2⟩ | ⟨e1, e2⟩ <;> first | exact c33 e | exact c38 e | exact c43 e1 | exact c48 e2 | exact c53 e1 | exact c58 e2 | exact c63 e1 | exact c69 e2)], rfl⟩
              · skip
                refine p_iload_n k225_56 rfl ?_
                refine p_iconst (v := nI 5) k225_57 (by decide) ?_
                refine p_icmp_eq (tgt := 72) k225_58 (by decide) (fun c58 => ?_) (fun c58 => ?_)
                · skip
                  refine p_iload_n k225_72 rfl ?_
                  refine p_goto (tgt := 78) k225_73 (by decide) ?_
                  refine p_ireturn k225_78 rt_225 ?_
                  exact ⟨by unfold takM; rw [if_neg (by rw [c8]; decide), if_neg (by rw [c19]; decide), hca]; first | rw [if_pos (by first | exact Or.inl c33 | exact Or.inr (Or.inl c38) | exact Or.inr (Or.inr (Or.inl ⟨c43, c48⟩)) | exact Or.inr (Or.inr (Or.inr (Or.inl ⟨c53, c58⟩))) | exact Or.inr (Or.inr (Or.inr (Or.inr ⟨c63, c69⟩))))] | rw [if_neg (fun z => by rcases z with e | e | ⟨e1, e2⟩ | ⟨e1, e2⟩ | ⟨e1, e2⟩ <;> first | exact c33 e | exact c38 e | exact c43 e1 | exact c48 e2 | exact c53 e1 | exact c58 e2 | exact c63 e1 | exact c69 e2)], rfl⟩
                · skip
                  refine p_iload_n k225_61 rfl ?_
                  refine p_iconst (v := nI 3) k225_62 (by decide) ?_
                  refine p_icmp_ne (tgt := 76) k225_63 (by decide) (fun c63 => ?_) (fun c63 => ?_)
                  · skip
                    refine p_bipush (v := (-12)) k225_76 (by decide) ?_
                    refine p_ireturn k225_78 rt_225 ?_
                    exact ⟨by unfold takM; rw [if_neg (by rw [c8]; decide), if_neg (by rw [c19]; decide), hca]; first | rw [if_pos (by first | exact Or.inl c33 | exact Or.inr (Or.inl c38) | exact Or.inr (Or.inr (Or.inl ⟨c43, c48⟩)) | exact Or.inr (Or.inr (Or.inr (Or.inl ⟨c53, c58⟩))) | exact Or.inr (Or.inr (Or.inr (Or.inr ⟨c63, c69⟩))))] | rw [if_neg (fun z => by rcases z with e | e | ⟨e1, e2⟩ | ⟨e1, e2⟩ | ⟨e1, e2⟩ <;> first | exact c33 e | exact c38 e | exact c43 e1 | exact c48 e2 | exact c53 e1 | exact c58 e2 | exact c63 e1 | exact c69 e2)], rfl⟩
                  · skip
                    refine p_iload_n k225_66 rfl ?_
                    refine p_bipush (v := nI 6) k225_67 (by decide) ?_
                    refine p_icmp_ne (tgt := 76) k225_69 (by decide) (fun c69 => ?_) (fun c69 => ?_)
                    · skip
                      refine p_bipush (v := (-12)) k225_76 (by decide) ?_
                      refine p_ireturn k225_78 rt_225 ?_
                      exact ⟨by unfold takM; rw [if_neg (by rw [c8]; decide), if_neg (by rw [c19]; decide), hca]; first | rw [if_pos (by first | exact Or.inl c33 | exact Or.inr (Or.inl c38) | exact Or.inr (Or.inr (Or.inl ⟨c43, c48⟩)) | exact Or.inr (Or.inr (Or.inr (Or.inl ⟨c53, c58⟩))) | exact Or.inr (Or.inr (Or.inr (Or.inr ⟨c63, c69⟩))))] | rw [if_neg (fun z => by rcases z with e | e | ⟨e1, e2⟩ | ⟨e1, e2⟩ | ⟨e1, e2⟩ <;> first | exact c33 e | exact c38 e | exact c43 e1 | exact c48 e2 | exact c53 e1 | exact c58 e2 | exact c63 e1 | exact c69 e2)], rfl⟩
                    · skip
                      refine p_iload_n k225_72 rfl ?_
                      refine p_goto (tgt := 78) k225_73 (by decide) ?_
                      refine p_ireturn k225_78 rt_225 ?_
                      exact ⟨by unfold takM; rw [if_neg (by rw [c8]; decide), if_neg (by rw [c19]; decide), hca]; first | rw [if_pos (by first | exact Or.inl c33 | exact Or.inr (Or.inl c38) | exact Or.inr (Or.inr (Or.inl ⟨c43, c48⟩)) | exact Or.inr (Or.inr (Or.inr (Or.inl ⟨c53, c58⟩))) | exact Or.inr (Or.inr (Or.inr (Or.inr ⟨c63, c69⟩))))] | rw [if_neg (fun z => by rcases z with e | e | ⟨e1, e2⟩ | ⟨e1, e2⟩ | ⟨e1, e2⟩ <;> first | exact c33 e | exact c38 e | exact c43 e1 | exact c48 e2 | exact c53 e1 | exact c58 e2 | exact c63 e1 | exact c69 e2)], rfl⟩
    · skip
      refine p_bipush (v := (-11)) k225_22 (by decide) ?_
      refine p_ireturn k225_24 rt_225 ?_
      exact ⟨by unfold takM; rw [if_neg (by rw [c8]; decide), if_pos c19], rfl⟩
  · skip
    refine p_bipush (v := (-2)) k225_11 (by decide) ?_
    refine p_ireturn k225_13 rt_225 ?_
    exact ⟨by unfold takM; rw [if_pos c8], rfl⟩

/-- the tapes' sorts and lengths -/
def TP (I : Nat → Nat → Int32) : Prop := ∀ t, t < 6 → (I 149 t = -1 ∨ ∃ s, s < 5 ∧ I 149 t = nI s) ∧ ∃ n, n ≤ 60 ∧ I 150 t = nI n
theorem p_selfJ (a : Nat) {d y pc : Nat} {ls : List (Nat × Value)} {st : List Value} {I : Nat → Nat → Int32} {J : Nat → Nat → Int64} {K : Nat → Nat → Option Nat} {h : List xSh} {Φ : xPost} (k0 : EvP d y pc ls st (I, upc J a (J a), K, h) Φ) : EvP d y pc ls st (I, J, K, h) Φ := by rw [upc_self] at k0; exact k0
def fClr (b k : Nat) (u : Nat → Int64) : Nat → Int64 := upc u (b + k) 0
theorem fClr_at (b : Nat) : ∀ (j k : Nat) (u : Nat → Int64) (m : Nat), fld (fClr b) j k u m = if b + k ≤ m ∧ m < b + k + j then 0 else u m := by
  intro j
  induction j with
  | zero => intro k u m; rw [if_neg (by omega)]; rfl
  | succ j ih =>
    intro k u m
    show fld (fClr b) j (k + 1) (fClr b k u) m = _
    rw [ih]
    by_cases h1 : b + (k + 1) ≤ m ∧ m < b + (k + 1) + j
    · rw [if_pos h1, if_pos (by omega)]
    · rw [if_neg h1]
      by_cases h2 : m = b + k
      · subst h2; rw [if_pos (by omega)]; exact upc_eq _ _ _
      · rw [if_neg (by omega)]; exact upc_ne _ _ h2
/-- sixty items from b on are 0 -/
def clr (f : Nat → Int64) (b : Nat) : Nat → Int64 := fun m => if b ≤ m ∧ m < b + 60 then 0 else f m
theorem fClr_clr (b : Nat) (f : Nat → Int64) : fld (fClr b) 60 0 f = clr f b := by
  funext m
  rw [fClr_at]
  rfl
def tapeM (I : Nat → Nat → Int32) (J : Nat → Nat → Int64) (v w z : Int32) : Int32 × (Nat → Nat → Int32) × (Nat → Nat → Int64) :=
  if ixB v 6 = false then (-1, I, J) else if inB w (-1) (nI 4) = false ∨ (¬ w < 0 ∧ ¬ z ≤ nI 60) then (-2, I, J) else if ¬ w < 0 ∧ ¬ 0 ≤ z then (-14, I, J) else (nI 1, s1 (s1 I 149 v.toNatClampNeg w) 150 v.toNatClampNeg (if w < 0 then nI 0 else z), upc J 151 (clr (J 151) (60 * v.toNatClampNeg)))
set_option maxRecDepth 100000 in
set_option maxHeartbeats 4000000 in
theorem M_tape {d : Nat} {I : Nat → Nat → Int32} {J : Nat → Nat → Int64} {K : Nat → Nat → Option Nat} {h : List xSh} (S : St K h) (v w z : Int32) : EvP (d + 2) 228 0 [(0, .ref (98)), (1, .int (v)), (2, .int (w)), (3, .int (z))] [] (I, J, K, h) (QI (fun x t => x = (tapeM I J v w z).1 ∧ t = ((tapeM I J v w z).2.1, (tapeM I J v w z).2.2, K, h))) := by
  refine p_aload_n k228_0 rfl ?_
  refine p_iload_n k228_1 rfl ?_
  refine p_cV1i k228_2 (s_98 S) c_12_410_12 rfl (Nat.le_of_ble_eq_true rfl) (M_isTape S (v)) (fun x1 m1 hq => ?_)
  obtain ⟨rfl, rfl⟩ := hq
  refine p_if_neB (tgt := 10) k228_5 (by decide) (fun c5 => ?_) (fun c5 => ?_)
  · skip
    refine p_aload_n k228_10 rfl ?_
    refine p_iload_n k228_11 rfl ?_
    refine p_iconst (v := (-1)) k228_12 (by decide) ?_
    refine p_iconst (v := nI 4) k228_13 (by decide) ?_
    refine p_cV3i k228_14 (s_98 S) c_12_248_12 rfl rfl rfl (Nat.le_of_ble_eq_true rfl) (M_in S (w) ((-1)) (nI (4))) (fun x1 m1 hq => ?_)
    obtain ⟨rfl, rfl⟩ := hq
    refine p_if_eqB (tgt := 30) k228_17 (by decide) (fun c17 => ?_) (fun c17 => ?_)
    · skip
      refine p_bipush (v := (-2)) k228_30 (by decide) ?_
      refine p_ireturn k228_32 rt_228 ?_
      exact ⟨by first | contradiction | exact absurd c21 (i_ge0 c57) | exact absurd (i_lt0 c57) c21 | simp [tapeM, -Int32.not_le, -Int32.not_lt, *], by first | contradiction | exact absurd c21 (i_ge0 c57) | exact absurd (i_lt0 c57) c21 | simp [tapeM, -Int32.not_le, -Int32.not_lt, *]⟩
    · skip
      refine p_iload_n k228_20 rfl ?_
      refine p_if_lt (tgt := 33) k228_21 (by decide) (fun c21 => ?_) (fun c21 => ?_)
      · skip
        refine p_iload_n k228_33 rfl ?_
        refine p_if_lt (tgt := 44) k228_34 (by decide) (fun c34 => ?_) (fun c34 => ?_)
        · skip
          obtain ⟨t, ht, rfl⟩ := ixB_of (n := 6) (by omega) c5
          have hct := nI_clamp (n := t) (by omega)
          refine p_aload_n k228_44 rfl ?_
          refine p_getRv k228_45 (s_98 S) f_12_235_12 (r_98_74 S) ?_
          refine p_iload_n k228_48 rfl ?_
          refine p_iload_n k228_49 rfl ?_
          refine p_iastN k228_50 (s_149 S) (by omega) (by decide) ?_
          refine p_aload_n k228_51 rfl ?_
          refine p_getRv k228_52 (s_98 S) f_12_238_12 (r_98_75 S) ?_
          refine p_iload_n k228_55 rfl ?_
          refine p_iload_n k228_56 rfl ?_
          refine p_if_ge (tgt := 64) k228_57 (by decide) (fun c57 => ?_) (fun c57 => ?_)
          · skip
            refine p_iload_n k228_64 rfl ?_
            refine p_iastN k228_65 (s_150 S) (by omega) (by decide) ?_
            refine p_iconst (v := nI 0) k228_66 (by decide) ?_
            refine p_istore (ls' := [(0, _), (1, _), (2, _), (3, _), (4, _)]) k228_67 rfl ?_
            have L : ∀ (j : Nat) (k : Nat) (u : Nat → Int64), k + j = 60 → fld (fClr (60 * t)) j k u = clr (J 151) (60 * t) → EvP (d + 2) 228 69 [(0, .ref (98)), (1, .int (nI (t))), (2, .int (w)), (3, .int (z)), (4, .int (nI (k)))] [] (s1 (s1 I 149 t w) 150 t (z), upc J 151 u, K, h) (QI (fun x m => x = (tapeM I J (nI t) w z).1 ∧ m = ((tapeM I J (nI t) w z).2.1, (tapeM I J (nI t) w z).2.2, K, h))) := by
              intro j
              induction j with
              | zero =>
                intro k u hk
                intro hu
                have hu2 : u = clr (J 151) (60 * t) := hu
                subst hu2
                refine p_iload k228_69 rfl ?_
                refine p_bipush (v := nI 60) k228_71 (by decide) ?_
                refine p_icmp_geN (tgt := 95) k228_73 (by decide) (by omega) (by omega) (fun _ => ?_) (fun c => False.elim (by omega))
                refine p_iconst (v := nI 1) k228_95 (by decide) ?_
                refine p_ireturn k228_96 rt_228 ?_
                exact ⟨by first | contradiction | exact absurd c21 (i_ge0 c57) | exact absurd (i_lt0 c57) c21 | simp [tapeM, s1, -Int32.not_le, -Int32.not_lt, *], by first | contradiction | exact absurd c21 (i_ge0 c57) | exact absurd (i_lt0 c57) c21 | simp [tapeM, s1, -Int32.not_le, -Int32.not_lt, *]⟩
              | succ j ih =>
                intro k u hk
                intro hu
                refine p_iload k228_69 rfl ?_
                refine p_bipush (v := nI 60) k228_71 (by decide) ?_
                refine p_icmp_geN (tgt := 95) k228_73 (by decide) (by omega) (by omega) (fun c => False.elim (by omega)) (fun _ => ?_)
                refine p_aload_n k228_76 rfl ?_
                refine p_getRv k228_77 (s_98 S) f_12_241_12 (r_98_76 S) ?_
                refine p_bipush (v := nI 60) k228_80 (by decide) ?_
                refine p_iload_n k228_82 rfl ?_
                refine p_imulN k228_83 ?_
                refine p_iload k228_84 rfl ?_
                refine p_iaddN k228_86 ?_
                refine p_lconst (v := 0) k228_87 (by decide) ?_
                refine p_lastN k228_88 (s_151 S) (by omega) (by decide) ?_
                refine p_iincN (ls1 := [(0, _), (1, _), (2, _), (3, _), (4, _)]) k228_89 rfl rfl ?_
                refine p_goto (tgt := 69) k228_92 (by decide) ?_
                rw [upc_uu, upc_eq]
                exact ih (k + 1) _ (by omega) hu
            refine p_selfJ 151 ?_
            exact L 60 0 (J 151) (by omega) (fClr_clr _ _)
          · skip
            refine p_iconst (v := nI 0) k228_60 (by decide) ?_
            refine p_goto (tgt := 65) k228_61 (by decide) ?_
            refine p_iastN k228_65 (s_150 S) (by omega) (by decide) ?_
            refine p_iconst (v := nI 0) k228_66 (by decide) ?_
            refine p_istore (ls' := [(0, _), (1, _), (2, _), (3, _), (4, _)]) k228_67 rfl ?_
            have L : ∀ (j : Nat) (k : Nat) (u : Nat → Int64), k + j = 60 → fld (fClr (60 * t)) j k u = clr (J 151) (60 * t) → EvP (d + 2) 228 69 [(0, .ref (98)), (1, .int (nI (t))), (2, .int (w)), (3, .int (z)), (4, .int (nI (k)))] [] (s1 (s1 I 149 t w) 150 t (nI 0), upc J 151 u, K, h) (QI (fun x m => x = (tapeM I J (nI t) w z).1 ∧ m = ((tapeM I J (nI t) w z).2.1, (tapeM I J (nI t) w z).2.2, K, h))) := by
              intro j
              induction j with
              | zero =>
                intro k u hk
                intro hu
                have hu2 : u = clr (J 151) (60 * t) := hu
                subst hu2
                refine p_iload k228_69 rfl ?_
                refine p_bipush (v := nI 60) k228_71 (by decide) ?_
                refine p_icmp_geN (tgt := 95) k228_73 (by decide) (by omega) (by omega) (fun _ => ?_) (fun c => False.elim (by omega))
                refine p_iconst (v := nI 1) k228_95 (by decide) ?_
                refine p_ireturn k228_96 rt_228 ?_
                exact ⟨by first | contradiction | exact absurd c21 (i_ge0 c57) | exact absurd (i_lt0 c57) c21 | simp [tapeM, s1, -Int32.not_le, -Int32.not_lt, *], by first | contradiction | exact absurd c21 (i_ge0 c57) | exact absurd (i_lt0 c57) c21 | simp [tapeM, s1, -Int32.not_le, -Int32.not_lt, *]⟩
              | succ j ih =>
                intro k u hk
                intro hu
                refine p_iload k228_69 rfl ?_
                refine p_bipush (v := nI 60) k228_71 (by decide) ?_
                refine p_icmp_geN (tgt := 95) k228_73 (by decide) (by omega) (by omega) (fun c => False.elim (by omega)) (fun _ => ?_)
                refine p_aload_n k228_76 rfl ?_
                refine p_getRv k228_77 (s_98 S) f_12_241_12 (r_98_76 S) ?_
                refine p_bipush (v := nI 60) k228_80 (by decide) ?_
                refine p_iload_n k228_82 rfl ?_
                refine p_imulN k228_83 ?_
                refine p_iload k228_84 rfl ?_
                refine p_iaddN k228_86 ?_
                refine p_lconst (v := 0) k228_87 (by decide) ?_
                refine p_lastN k228_88 (s_151 S) (by omega) (by decide) ?_
                refine p_iincN (ls1 := [(0, _), (1, _), (2, _), (3, _), (4, _)]) k228_89 rfl rfl ?_
                refine p_goto (tgt := 69) k228_92 (by decide) ?_
                rw [upc_uu, upc_eq]
                exact ih (k + 1) _ (by omega) hu
            refine p_selfJ 151 ?_
            exact L 60 0 (J 151) (by omega) (fClr_clr _ _)
        · skip
          refine p_iload_n k228_37 rfl ?_
          refine p_if_ge (tgt := 44) k228_38 (by decide) (fun c38 => ?_) (fun c38 => ?_)
          · skip
            obtain ⟨t, ht, rfl⟩ := ixB_of (n := 6) (by omega) c5
            have hct := nI_clamp (n := t) (by omega)
            refine p_aload_n k228_44 rfl ?_
            refine p_getRv k228_45 (s_98 S) f_12_235_12 (r_98_74 S) ?_
            refine p_iload_n k228_48 rfl ?_
            refine p_iload_n k228_49 rfl ?_
            refine p_iastN k228_50 (s_149 S) (by omega) (by decide) ?_
            refine p_aload_n k228_51 rfl ?_
            refine p_getRv k228_52 (s_98 S) f_12_238_12 (r_98_75 S) ?_
            refine p_iload_n k228_55 rfl ?_
            refine p_iload_n k228_56 rfl ?_
            refine p_if_ge (tgt := 64) k228_57 (by decide) (fun c57 => ?_) (fun c57 => ?_)
            · skip
              refine p_iload_n k228_64 rfl ?_
              refine p_iastN k228_65 (s_150 S) (by omega) (by decide) ?_
              refine p_iconst (v := nI 0) k228_66 (by decide) ?_
              refine p_istore (ls' := [(0, _), (1, _), (2, _), (3, _), (4, _)]) k228_67 rfl ?_
              have L : ∀ (j : Nat) (k : Nat) (u : Nat → Int64), k + j = 60 → fld (fClr (60 * t)) j k u = clr (J 151) (60 * t) → EvP (d + 2) 228 69 [(0, .ref (98)), (1, .int (nI (t))), (2, .int (w)), (3, .int (z)), (4, .int (nI (k)))] [] (s1 (s1 I 149 t w) 150 t (z), upc J 151 u, K, h) (QI (fun x m => x = (tapeM I J (nI t) w z).1 ∧ m = ((tapeM I J (nI t) w z).2.1, (tapeM I J (nI t) w z).2.2, K, h))) := by
                intro j
                induction j with
                | zero =>
                  intro k u hk
                  intro hu
                  have hu2 : u = clr (J 151) (60 * t) := hu
                  subst hu2
                  refine p_iload k228_69 rfl ?_
                  refine p_bipush (v := nI 60) k228_71 (by decide) ?_
                  refine p_icmp_geN (tgt := 95) k228_73 (by decide) (by omega) (by omega) (fun _ => ?_) (fun c => False.elim (by omega))
                  refine p_iconst (v := nI 1) k228_95 (by decide) ?_
                  refine p_ireturn k228_96 rt_228 ?_
                  exact ⟨by first | contradiction | exact absurd c21 (i_ge0 c57) | exact absurd (i_lt0 c57) c21 | simp [tapeM, s1, -Int32.not_le, -Int32.not_lt, *], by first | contradiction | exact absurd c21 (i_ge0 c57) | exact absurd (i_lt0 c57) c21 | simp [tapeM, s1, -Int32.not_le, -Int32.not_lt, *]⟩
                | succ j ih =>
                  intro k u hk
                  intro hu
                  refine p_iload k228_69 rfl ?_
                  refine p_bipush (v := nI 60) k228_71 (by decide) ?_
                  refine p_icmp_geN (tgt := 95) k228_73 (by decide) (by omega) (by omega) (fun c => False.elim (by omega)) (fun _ => ?_)
                  refine p_aload_n k228_76 rfl ?_
                  refine p_getRv k228_77 (s_98 S) f_12_241_12 (r_98_76 S) ?_
                  refine p_bipush (v := nI 60) k228_80 (by decide) ?_
                  refine p_iload_n k228_82 rfl ?_
                  refine p_imulN k228_83 ?_
                  refine p_iload k228_84 rfl ?_
                  refine p_iaddN k228_86 ?_
                  refine p_lconst (v := 0) k228_87 (by decide) ?_
                  refine p_lastN k228_88 (s_151 S) (by omega) (by decide) ?_
                  refine p_iincN (ls1 := [(0, _), (1, _), (2, _), (3, _), (4, _)]) k228_89 rfl rfl ?_
                  refine p_goto (tgt := 69) k228_92 (by decide) ?_
                  rw [upc_uu, upc_eq]
                  exact ih (k + 1) _ (by omega) hu
              refine p_selfJ 151 ?_
              exact L 60 0 (J 151) (by omega) (fClr_clr _ _)
            · skip
              refine p_iconst (v := nI 0) k228_60 (by decide) ?_
              refine p_goto (tgt := 65) k228_61 (by decide) ?_
              refine p_iastN k228_65 (s_150 S) (by omega) (by decide) ?_
              refine p_iconst (v := nI 0) k228_66 (by decide) ?_
              refine p_istore (ls' := [(0, _), (1, _), (2, _), (3, _), (4, _)]) k228_67 rfl ?_
              have L : ∀ (j : Nat) (k : Nat) (u : Nat → Int64), k + j = 60 → fld (fClr (60 * t)) j k u = clr (J 151) (60 * t) → EvP (d + 2) 228 69 [(0, .ref (98)), (1, .int (nI (t))), (2, .int (w)), (3, .int (z)), (4, .int (nI (k)))] [] (s1 (s1 I 149 t w) 150 t (nI 0), upc J 151 u, K, h) (QI (fun x m => x = (tapeM I J (nI t) w z).1 ∧ m = ((tapeM I J (nI t) w z).2.1, (tapeM I J (nI t) w z).2.2, K, h))) := by
                intro j
                induction j with
                | zero =>
                  intro k u hk
                  intro hu
                  have hu2 : u = clr (J 151) (60 * t) := hu
                  subst hu2
                  refine p_iload k228_69 rfl ?_
                  refine p_bipush (v := nI 60) k228_71 (by decide) ?_
                  refine p_icmp_geN (tgt := 95) k228_73 (by decide) (by omega) (by omega) (fun _ => ?_) (fun c => False.elim (by omega))
                  refine p_iconst (v := nI 1) k228_95 (by decide) ?_
                  refine p_ireturn k228_96 rt_228 ?_
                  exact ⟨by first | contradiction | exact absurd c21 (i_ge0 c57) | exact absurd (i_lt0 c57) c21 | simp [tapeM, s1, -Int32.not_le, -Int32.not_lt, *], by first | contradiction | exact absurd c21 (i_ge0 c57) | exact absurd (i_lt0 c57) c21 | simp [tapeM, s1, -Int32.not_le, -Int32.not_lt, *]⟩
                | succ j ih =>
                  intro k u hk
                  intro hu
                  refine p_iload k228_69 rfl ?_
                  refine p_bipush (v := nI 60) k228_71 (by decide) ?_
                  refine p_icmp_geN (tgt := 95) k228_73 (by decide) (by omega) (by omega) (fun c => False.elim (by omega)) (fun _ => ?_)
                  refine p_aload_n k228_76 rfl ?_
                  refine p_getRv k228_77 (s_98 S) f_12_241_12 (r_98_76 S) ?_
                  refine p_bipush (v := nI 60) k228_80 (by decide) ?_
                  refine p_iload_n k228_82 rfl ?_
                  refine p_imulN k228_83 ?_
                  refine p_iload k228_84 rfl ?_
                  refine p_iaddN k228_86 ?_
                  refine p_lconst (v := 0) k228_87 (by decide) ?_
                  refine p_lastN k228_88 (s_151 S) (by omega) (by decide) ?_
                  refine p_iincN (ls1 := [(0, _), (1, _), (2, _), (3, _), (4, _)]) k228_89 rfl rfl ?_
                  refine p_goto (tgt := 69) k228_92 (by decide) ?_
                  rw [upc_uu, upc_eq]
                  exact ih (k + 1) _ (by omega) hu
              refine p_selfJ 151 ?_
              exact L 60 0 (J 151) (by omega) (fClr_clr _ _)
          · skip
            refine p_bipush (v := (-14)) k228_41 (by decide) ?_
            refine p_ireturn k228_43 rt_228 ?_
            exact ⟨by first | contradiction | exact absurd c21 (i_ge0 c57) | exact absurd (i_lt0 c57) c21 | simp [tapeM, -Int32.not_le, -Int32.not_lt, *], by first | contradiction | exact absurd c21 (i_ge0 c57) | exact absurd (i_lt0 c57) c21 | simp [tapeM, -Int32.not_le, -Int32.not_lt, *]⟩
      · skip
        refine p_iload_n k228_24 rfl ?_
        refine p_bipush (v := nI 60) k228_25 (by decide) ?_
        refine p_icmp_le (tgt := 33) k228_27 (by decide) (fun c27 => ?_) (fun c27 => ?_)
        · skip
          refine p_iload_n k228_33 rfl ?_
          refine p_if_lt (tgt := 44) k228_34 (by decide) (fun c34 => ?_) (fun c34 => ?_)
          · skip
            obtain ⟨t, ht, rfl⟩ := ixB_of (n := 6) (by omega) c5
            have hct := nI_clamp (n := t) (by omega)
            refine p_aload_n k228_44 rfl ?_
            refine p_getRv k228_45 (s_98 S) f_12_235_12 (r_98_74 S) ?_
            refine p_iload_n k228_48 rfl ?_
            refine p_iload_n k228_49 rfl ?_
            refine p_iastN k228_50 (s_149 S) (by omega) (by decide) ?_
            refine p_aload_n k228_51 rfl ?_
            refine p_getRv k228_52 (s_98 S) f_12_238_12 (r_98_75 S) ?_
            refine p_iload_n k228_55 rfl ?_
            refine p_iload_n k228_56 rfl ?_
            refine p_if_ge (tgt := 64) k228_57 (by decide) (fun c57 => ?_) (fun c57 => ?_)
            · skip
              refine p_iload_n k228_64 rfl ?_
              refine p_iastN k228_65 (s_150 S) (by omega) (by decide) ?_
              refine p_iconst (v := nI 0) k228_66 (by decide) ?_
              refine p_istore (ls' := [(0, _), (1, _), (2, _), (3, _), (4, _)]) k228_67 rfl ?_
              have L : ∀ (j : Nat) (k : Nat) (u : Nat → Int64), k + j = 60 → fld (fClr (60 * t)) j k u = clr (J 151) (60 * t) → EvP (d + 2) 228 69 [(0, .ref (98)), (1, .int (nI (t))), (2, .int (w)), (3, .int (z)), (4, .int (nI (k)))] [] (s1 (s1 I 149 t w) 150 t (z), upc J 151 u, K, h) (QI (fun x m => x = (tapeM I J (nI t) w z).1 ∧ m = ((tapeM I J (nI t) w z).2.1, (tapeM I J (nI t) w z).2.2, K, h))) := by
                intro j
                induction j with
                | zero =>
                  intro k u hk
                  intro hu
                  have hu2 : u = clr (J 151) (60 * t) := hu
                  subst hu2
                  refine p_iload k228_69 rfl ?_
                  refine p_bipush (v := nI 60) k228_71 (by decide) ?_
                  refine p_icmp_geN (tgt := 95) k228_73 (by decide) (by omega) (by omega) (fun _ => ?_) (fun c => False.elim (by omega))
                  refine p_iconst (v := nI 1) k228_95 (by decide) ?_
                  refine p_ireturn k228_96 rt_228 ?_
                  exact ⟨by first | contradiction | exact absurd c21 (i_ge0 c57) | exact absurd (i_lt0 c57) c21 | simp [tapeM, s1, -Int32.not_le, -Int32.not_lt, *], by first | contradiction | exact absurd c21 (i_ge0 c57) | exact absurd (i_lt0 c57) c21 | simp [tapeM, s1, -Int32.not_le, -Int32.not_lt, *]⟩
                | succ j ih =>
                  intro k u hk
                  intro hu
                  refine p_iload k228_69 rfl ?_
                  refine p_bipush (v := nI 60) k228_71 (by decide) ?_
                  refine p_icmp_geN (tgt := 95) k228_73 (by decide) (by omega) (by omega) (fun c => False.elim (by omega)) (fun _ => ?_)
                  refine p_aload_n k228_76 rfl ?_
                  refine p_getRv k228_77 (s_98 S) f_12_241_12 (r_98_76 S) ?_
                  refine p_bipush (v := nI 60) k228_80 (by decide) ?_
                  refine p_iload_n k228_82 rfl ?_
                  refine p_imulN k228_83 ?_
                  refine p_iload k228_84 rfl ?_
                  refine p_iaddN k228_86 ?_
                  refine p_lconst (v := 0) k228_87 (by decide) ?_
                  refine p_lastN k228_88 (s_151 S) (by omega) (by decide) ?_
                  refine p_iincN (ls1 := [(0, _), (1, _), (2, _), (3, _), (4, _)]) k228_89 rfl rfl ?_
                  refine p_goto (tgt := 69) k228_92 (by decide) ?_
                  rw [upc_uu, upc_eq]
                  exact ih (k + 1) _ (by omega) hu
              refine p_selfJ 151 ?_
              exact L 60 0 (J 151) (by omega) (fClr_clr _ _)
            · skip
              refine p_iconst (v := nI 0) k228_60 (by decide) ?_
              refine p_goto (tgt := 65) k228_61 (by decide) ?_
              refine p_iastN k228_65 (s_150 S) (by omega) (by decide) ?_
              refine p_iconst (v := nI 0) k228_66 (by decide) ?_
              refine p_istore (ls' := [(0, _), (1, _), (2, _), (3, _), (4, _)]) k228_67 rfl ?_
              have L : ∀ (j : Nat) (k : Nat) (u : Nat → Int64), k + j = 60 → fld (fClr (60 * t)) j k u = clr (J 151) (60 * t) → EvP (d + 2) 228 69 [(0, .ref (98)), (1, .int (nI (t))), (2, .int (w)), (3, .int (z)), (4, .int (nI (k)))] [] (s1 (s1 I 149 t w) 150 t (nI 0), upc J 151 u, K, h) (QI (fun x m => x = (tapeM I J (nI t) w z).1 ∧ m = ((tapeM I J (nI t) w z).2.1, (tapeM I J (nI t) w z).2.2, K, h))) := by
                intro j
                induction j with
                | zero =>
                  intro k u hk
                  intro hu
                  have hu2 : u = clr (J 151) (60 * t) := hu
                  subst hu2
                  refine p_iload k228_69 rfl ?_
                  refine p_bipush (v := nI 60) k228_71 (by decide) ?_
                  refine p_icmp_geN (tgt := 95) k228_73 (by decide) (by omega) (by omega) (fun _ => ?_) (fun c => False.elim (by omega))
                  refine p_iconst (v := nI 1) k228_95 (by decide) ?_
                  refine p_ireturn k228_96 rt_228 ?_
                  exact ⟨by first | contradiction | exact absurd c21 (i_ge0 c57) | exact absurd (i_lt0 c57) c21 | simp [tapeM, s1, -Int32.not_le, -Int32.not_lt, *], by first | contradiction | exact absurd c21 (i_ge0 c57) | exact absurd (i_lt0 c57) c21 | simp [tapeM, s1, -Int32.not_le, -Int32.not_lt, *]⟩
                | succ j ih =>
                  intro k u hk
                  intro hu
                  refine p_iload k228_69 rfl ?_
                  refine p_bipush (v := nI 60) k228_71 (by decide) ?_
                  refine p_icmp_geN (tgt := 95) k228_73 (by decide) (by omega) (by omega) (fun c => False.elim (by omega)) (fun _ => ?_)
                  refine p_aload_n k228_76 rfl ?_
                  refine p_getRv k228_77 (s_98 S) f_12_241_12 (r_98_76 S) ?_
                  refine p_bipush (v := nI 60) k228_80 (by decide) ?_
                  refine p_iload_n k228_82 rfl ?_
                  refine p_imulN k228_83 ?_
                  refine p_iload k228_84 rfl ?_
                  refine p_iaddN k228_86 ?_
                  refine p_lconst (v := 0) k228_87 (by decide) ?_
                  refine p_lastN k228_88 (s_151 S) (by omega) (by decide) ?_
                  refine p_iincN (ls1 := [(0, _), (1, _), (2, _), (3, _), (4, _)]) k228_89 rfl rfl ?_
                  refine p_goto (tgt := 69) k228_92 (by decide) ?_
                  rw [upc_uu, upc_eq]
                  exact ih (k + 1) _ (by omega) hu
              refine p_selfJ 151 ?_
              exact L 60 0 (J 151) (by omega) (fClr_clr _ _)
          · skip
            refine p_iload_n k228_37 rfl ?_
            refine p_if_ge (tgt := 44) k228_38 (by decide) (fun c38 => ?_) (fun c38 => ?_)
            · skip
              obtain ⟨t, ht, rfl⟩ := ixB_of (n := 6) (by omega) c5
              have hct := nI_clamp (n := t) (by omega)
              refine p_aload_n k228_44 rfl ?_
              refine p_getRv k228_45 (s_98 S) f_12_235_12 (r_98_74 S) ?_
              refine p_iload_n k228_48 rfl ?_
              refine p_iload_n k228_49 rfl ?_
              refine p_iastN k228_50 (s_149 S) (by omega) (by decide) ?_
              refine p_aload_n k228_51 rfl ?_
              refine p_getRv k228_52 (s_98 S) f_12_238_12 (r_98_75 S) ?_
              refine p_iload_n k228_55 rfl ?_
              refine p_iload_n k228_56 rfl ?_
              refine p_if_ge (tgt := 64) k228_57 (by decide) (fun c57 => ?_) (fun c57 => ?_)
              · skip
                refine p_iload_n k228_64 rfl ?_
                refine p_iastN k228_65 (s_150 S) (by omega) (by decide) ?_
                refine p_iconst (v := nI 0) k228_66 (by decide) ?_
                refine p_istore (ls' := [(0, _), (1, _), (2, _), (3, _), (4, _)]) k228_67 rfl ?_
                have L : ∀ (j : Nat) (k : Nat) (u : Nat → Int64), k + j = 60 → fld (fClr (60 * t)) j k u = clr (J 151) (60 * t) → EvP (d + 2) 228 69 [(0, .ref (98)), (1, .int (nI (t))), (2, .int (w)), (3, .int (z)), (4, .int (nI (k)))] [] (s1 (s1 I 149 t w) 150 t (z), upc J 151 u, K, h) (QI (fun x m => x = (tapeM I J (nI t) w z).1 ∧ m = ((tapeM I J (nI t) w z).2.1, (tapeM I J (nI t) w z).2.2, K, h))) := by
                  intro j
                  induction j with
                  | zero =>
                    intro k u hk
                    intro hu
                    have hu2 : u = clr (J 151) (60 * t) := hu
                    subst hu2
                    refine p_iload k228_69 rfl ?_
                    refine p_bipush (v := nI 60) k228_71 (by decide) ?_
                    refine p_icmp_geN (tgt := 95) k228_73 (by decide) (by omega) (by omega) (fun _ => ?_) (fun c => False.elim (by omega))
                    refine p_iconst (v := nI 1) k228_95 (by decide) ?_
                    refine p_ireturn k228_96 rt_228 ?_
                    exact ⟨by first | contradiction | exact absurd c21 (i_ge0 c57) | exact absurd (i_lt0 c57) c21 | simp [tapeM, s1, -Int32.not_le, -Int32.not_lt, *], by first | contradiction | exact absurd c21 (i_ge0 c57) | exact absurd (i_lt0 c57) c21 | simp [tapeM, s1, -Int32.not_le, -Int32.not_lt, *]⟩
                  | succ j ih =>
                    intro k u hk
                    intro hu
                    refine p_iload k228_69 rfl ?_
                    refine p_bipush (v := nI 60) k228_71 (by decide) ?_
                    refine p_icmp_geN (tgt := 95) k228_73 (by decide) (by omega) (by omega) (fun c => False.elim (by omega)) (fun _ => ?_)
                    refine p_aload_n k228_76 rfl ?_
                    refine p_getRv k228_77 (s_98 S) f_12_241_12 (r_98_76 S) ?_
                    refine p_bipush (v := nI 60) k228_80 (by decide) ?_
                    refine p_iload_n k228_82 rfl ?_
                    refine p_imulN k228_83 ?_
                    refine p_iload k228_84 rfl ?_
                    refine p_iaddN k228_86 ?_
                    refine p_lconst (v := 0) k228_87 (by decide) ?_
                    refine p_lastN k228_88 (s_151 S) (by omega) (by decide) ?_
                    refine p_iincN (ls1 := [(0, _), (1, _), (2, _), (3, _), (4, _)]) k228_89 rfl rfl ?_
                    refine p_goto (tgt := 69) k228_92 (by decide) ?_
                    rw [upc_uu, upc_eq]
                    exact ih (k + 1) _ (by omega) hu
                refine p_selfJ 151 ?_
                exact L 60 0 (J 151) (by omega) (fClr_clr _ _)
              · skip
                refine p_iconst (v := nI 0) k228_60 (by decide) ?_
                refine p_goto (tgt := 65) k228_61 (by decide) ?_
                refine p_iastN k228_65 (s_150 S) (by omega) (by decide) ?_
                refine p_iconst (v := nI 0) k228_66 (by decide) ?_
                refine p_istore (ls' := [(0, _), (1, _), (2, _), (3, _), (4, _)]) k228_67 rfl ?_
                have L : ∀ (j : Nat) (k : Nat) (u : Nat → Int64), k + j = 60 → fld (fClr (60 * t)) j k u = clr (J 151) (60 * t) → EvP (d + 2) 228 69 [(0, .ref (98)), (1, .int (nI (t))), (2, .int (w)), (3, .int (z)), (4, .int (nI (k)))] [] (s1 (s1 I 149 t w) 150 t (nI 0), upc J 151 u, K, h) (QI (fun x m => x = (tapeM I J (nI t) w z).1 ∧ m = ((tapeM I J (nI t) w z).2.1, (tapeM I J (nI t) w z).2.2, K, h))) := by
                  intro j
                  induction j with
                  | zero =>
                    intro k u hk
                    intro hu
                    have hu2 : u = clr (J 151) (60 * t) := hu
                    subst hu2
                    refine p_iload k228_69 rfl ?_
                    refine p_bipush (v := nI 60) k228_71 (by decide) ?_
                    refine p_icmp_geN (tgt := 95) k228_73 (by decide) (by omega) (by omega) (fun _ => ?_) (fun c => False.elim (by omega))
                    refine p_iconst (v := nI 1) k228_95 (by decide) ?_
                    refine p_ireturn k228_96 rt_228 ?_
                    exact ⟨by first | contradiction | exact absurd c21 (i_ge0 c57) | exact absurd (i_lt0 c57) c21 | simp [tapeM, s1, -Int32.not_le, -Int32.not_lt, *], by first | contradiction | exact absurd c21 (i_ge0 c57) | exact absurd (i_lt0 c57) c21 | simp [tapeM, s1, -Int32.not_le, -Int32.not_lt, *]⟩
                  | succ j ih =>
                    intro k u hk
                    intro hu
                    refine p_iload k228_69 rfl ?_
                    refine p_bipush (v := nI 60) k228_71 (by decide) ?_
                    refine p_icmp_geN (tgt := 95) k228_73 (by decide) (by omega) (by omega) (fun c => False.elim (by omega)) (fun _ => ?_)
                    refine p_aload_n k228_76 rfl ?_
                    refine p_getRv k228_77 (s_98 S) f_12_241_12 (r_98_76 S) ?_
                    refine p_bipush (v := nI 60) k228_80 (by decide) ?_
                    refine p_iload_n k228_82 rfl ?_
                    refine p_imulN k228_83 ?_
                    refine p_iload k228_84 rfl ?_
                    refine p_iaddN k228_86 ?_
                    refine p_lconst (v := 0) k228_87 (by decide) ?_
                    refine p_lastN k228_88 (s_151 S) (by omega) (by decide) ?_
                    refine p_iincN (ls1 := [(0, _), (1, _), (2, _), (3, _), (4, _)]) k228_89 rfl rfl ?_
                    refine p_goto (tgt := 69) k228_92 (by decide) ?_
                    rw [upc_uu, upc_eq]
                    exact ih (k + 1) _ (by omega) hu
                refine p_selfJ 151 ?_
                exact L 60 0 (J 151) (by omega) (fClr_clr _ _)
            · skip
              refine p_bipush (v := (-14)) k228_41 (by decide) ?_
              refine p_ireturn k228_43 rt_228 ?_
              exact ⟨by first | contradiction | exact absurd c21 (i_ge0 c57) | exact absurd (i_lt0 c57) c21 | simp [tapeM, -Int32.not_le, -Int32.not_lt, *], by first | contradiction | exact absurd c21 (i_ge0 c57) | exact absurd (i_lt0 c57) c21 | simp [tapeM, -Int32.not_le, -Int32.not_lt, *]⟩
        · skip
          refine p_bipush (v := (-2)) k228_30 (by decide) ?_
          refine p_ireturn k228_32 rt_228 ?_
          exact ⟨by first | contradiction | exact absurd c21 (i_ge0 c57) | exact absurd (i_lt0 c57) c21 | simp [tapeM, -Int32.not_le, -Int32.not_lt, *], by first | contradiction | exact absurd c21 (i_ge0 c57) | exact absurd (i_lt0 c57) c21 | simp [tapeM, -Int32.not_le, -Int32.not_lt, *]⟩
  · skip
    refine p_iconst (v := (-1)) k228_8 (by decide) ?_
    refine p_ireturn k228_9 rt_228 ?_
    exact ⟨by first | contradiction | exact absurd c21 (i_ge0 c57) | exact absurd (i_lt0 c57) c21 | simp [tapeM, -Int32.not_le, -Int32.not_lt, *], by first | contradiction | exact absurd c21 (i_ge0 c57) | exact absurd (i_lt0 c57) c21 | simp [tapeM, -Int32.not_le, -Int32.not_lt, *]⟩

def narM (s : Int32) (z : Int64) : Int64 := if s = 0 then z.toInt32.toInt8.toInt32.toInt64 else if s = nI 1 then z.toInt32.toInt16.toInt32.toInt64 else if s = nI 2 then z.toInt32.toInt64 else if s = nI 4 then (if lg_cmp z 0 = 0 then 0 else 1) else z
set_option maxRecDepth 100000 in
set_option maxHeartbeats 4000000 in
theorem M_narrow {d : Nat} {I : Nat → Nat → Int32} {J : Nat → Nat → Int64} {K : Nat → Nat → Option Nat} {h : List xSh} (S : St K h) (s : Int32) (z : Int64) : EvP d 229 0 [(0, .ref (98)), (1, .int (s)), (2, .long (z))] [] (I, J, K, h) (QL (fun x t => x = narM s z ∧ t = (I, J, K, h))) := by
  refine p_iload_n k229_0 rfl ?_
  refine p_if_ne (tgt := 11) k229_1 (by decide) (fun c1 => ?_) (fun c1 => ?_)
  · skip
    refine p_iload_n k229_11 rfl ?_
    refine p_iconst (v := nI 1) k229_12 (by decide) ?_
    refine p_icmp_ne (tgt := 23) k229_13 (by decide) (fun c13 => ?_) (fun c13 => ?_)
    · skip
      refine p_iload_n k229_23 rfl ?_
      refine p_iconst (v := nI 2) k229_24 (by decide) ?_
      refine p_icmp_ne (tgt := 34) k229_25 (by decide) (fun c25 => ?_) (fun c25 => ?_)
      · skip
        refine p_iload_n k229_34 rfl ?_
        refine p_iconst (v := nI 4) k229_35 (by decide) ?_
        refine p_icmp_ne (tgt := 53) k229_36 (by decide) (fun c36 => ?_) (fun c36 => ?_)
        · skip
          refine p_lload_n k229_53 rfl ?_
          refine p_lreturn k229_54 rt_229 ?_
          exact ⟨by unfold narM; first | rw [if_pos c1] | rw [if_neg c1, if_pos c13] | rw [if_neg c1, if_neg c13, if_pos c25] | rw [if_neg c1, if_neg c13, if_neg c25, if_pos c36, if_pos c42] | rw [if_neg c1, if_neg c13, if_neg c25, if_pos c36, if_neg c42] | rw [if_neg c1, if_neg c13, if_neg c25, if_neg c36], rfl⟩
        · skip
          refine p_lload_n k229_39 rfl ?_
          refine p_lconst (v := 0) k229_40 (by decide) ?_
          refine p_lcmp k229_41 ?_
          refine p_if_eq (tgt := 49) k229_42 (by decide) (fun c42 => ?_) (fun c42 => ?_)
          · skip
            refine p_lconst (v := 0) k229_49 (by decide) ?_
            refine p_goto (tgt := 54) k229_50 (by decide) ?_
            refine p_lreturn k229_54 rt_229 ?_
            exact ⟨by unfold narM; first | rw [if_pos c1] | rw [if_neg c1, if_pos c13] | rw [if_neg c1, if_neg c13, if_pos c25] | rw [if_neg c1, if_neg c13, if_neg c25, if_pos c36, if_pos c42] | rw [if_neg c1, if_neg c13, if_neg c25, if_pos c36, if_neg c42] | rw [if_neg c1, if_neg c13, if_neg c25, if_neg c36], rfl⟩
          · skip
            refine p_lconst (v := 1) k229_45 (by decide) ?_
            refine p_goto (tgt := 54) k229_46 (by decide) ?_
            refine p_lreturn k229_54 rt_229 ?_
            exact ⟨by unfold narM; first | rw [if_pos c1] | rw [if_neg c1, if_pos c13] | rw [if_neg c1, if_neg c13, if_pos c25] | rw [if_neg c1, if_neg c13, if_neg c25, if_pos c36, if_pos c42] | rw [if_neg c1, if_neg c13, if_neg c25, if_pos c36, if_neg c42] | rw [if_neg c1, if_neg c13, if_neg c25, if_neg c36], rfl⟩
      · skip
        refine p_lload_n k229_28 rfl ?_
        refine p_l2i k229_29 ?_
        refine p_i2l k229_30 ?_
        refine p_goto (tgt := 54) k229_31 (by decide) ?_
        refine p_lreturn k229_54 rt_229 ?_
        exact ⟨by unfold narM; first | rw [if_pos c1] | rw [if_neg c1, if_pos c13] | rw [if_neg c1, if_neg c13, if_pos c25] | rw [if_neg c1, if_neg c13, if_neg c25, if_pos c36, if_pos c42] | rw [if_neg c1, if_neg c13, if_neg c25, if_pos c36, if_neg c42] | rw [if_neg c1, if_neg c13, if_neg c25, if_neg c36], rfl⟩
    · skip
      refine p_lload_n k229_16 rfl ?_
      refine p_l2i k229_17 ?_
      refine p_i2s k229_18 ?_
      refine p_i2l k229_19 ?_
      refine p_goto (tgt := 54) k229_20 (by decide) ?_
      refine p_lreturn k229_54 rt_229 ?_
      exact ⟨by unfold narM; first | rw [if_pos c1] | rw [if_neg c1, if_pos c13] | rw [if_neg c1, if_neg c13, if_pos c25] | rw [if_neg c1, if_neg c13, if_neg c25, if_pos c36, if_pos c42] | rw [if_neg c1, if_neg c13, if_neg c25, if_pos c36, if_neg c42] | rw [if_neg c1, if_neg c13, if_neg c25, if_neg c36], rfl⟩
  · skip
    refine p_lload_n k229_4 rfl ?_
    refine p_l2i k229_5 ?_
    refine p_i2b k229_6 ?_
    refine p_i2l k229_7 ?_
    refine p_goto (tgt := 54) k229_8 (by decide) ?_
    refine p_lreturn k229_54 rt_229 ?_
    exact ⟨by unfold narM; first | rw [if_pos c1] | rw [if_neg c1, if_pos c13] | rw [if_neg c1, if_neg c13, if_pos c25] | rw [if_neg c1, if_neg c13, if_neg c25, if_pos c36, if_pos c42] | rw [if_neg c1, if_neg c13, if_neg c25, if_pos c36, if_neg c42] | rw [if_neg c1, if_neg c13, if_neg c25, if_neg c36], rfl⟩

theorem inB_ix {w : Int32} {n : Nat} (hn : n ≤ 60) : inB w (nI 0) (nI n - nI 1) = ixB w n := ixB_in (by omega)
def itemM (I : Nat → Nat → Int32) (J : Nat → Nat → Int64) (v w : Int32) (z : Int64) : Int32 × (Nat → Nat → Int64) := if ixB v 6 = false then (-1, J) else if ¬ 0 ≤ I 149 v.toNatClampNeg then (-11, J) else if inB w (nI 0) (I 150 v.toNatClampNeg - nI 1) = false then (-13, J) else (nI 1, upc J 151 (upc (J 151) (60 * v.toNatClampNeg + w.toNatClampNeg) (narM (I 149 v.toNatClampNeg) z)))
def readM (I : Nat → Nat → Int32) (J : Nat → Nat → Int64) (v w : Int32) : Int64 := if ixB v 6 = false ∨ I 149 v.toNatClampNeg < 0 ∨ inB w (nI 0) (I 150 v.toNatClampNeg - nI 1) = false then -9223372036854775808 else J 151 (60 * v.toNatClampNeg + w.toNatClampNeg)
set_option maxRecDepth 100000 in
set_option maxHeartbeats 4000000 in
theorem M_item {d : Nat} {I : Nat → Nat → Int32} {J : Nat → Nat → Int64} {K : Nat → Nat → Option Nat} {h : List xSh} (S : St K h) (hT : TP I) (v w : Int32) (z : Int64) : EvP (d + 2) 230 0 [(0, .ref (98)), (1, .int (v)), (2, .int (w)), (3, .long (z))] [] (I, J, K, h) (QI (fun x t => x = (itemM I J v w z).1 ∧ t = (I, (itemM I J v w z).2, K, h))) := by
  refine p_aload_n k230_0 rfl ?_
  refine p_iload_n k230_1 rfl ?_
  refine p_cV1i k230_2 (s_98 S) c_12_410_12 rfl (Nat.le_of_ble_eq_true rfl) (M_isTape S (v)) (fun x1 m1 hq => ?_)
  obtain ⟨rfl, rfl⟩ := hq
  refine p_if_neB (tgt := 10) k230_5 (by decide) (fun c5 => ?_) (fun c5 => ?_)
  · skip
    obtain ⟨t, ht, rfl⟩ := ixB_of (n := 6) (by omega) c5
    have hct := nI_clamp (n := t) (by omega)
    refine p_aload_n k230_10 rfl ?_
    refine p_getRv k230_11 (s_98 S) f_12_235_12 (r_98_74 S) ?_
    refine p_iload_n k230_14 rfl ?_
    refine p_ialdN k230_15 (s_149 S) (by omega) (by decide) rfl ?_
    refine p_if_ge (tgt := 22) k230_16 (by decide) (fun c16 => ?_) (fun c16 => ?_)
    · skip
      refine p_aload_n k230_22 rfl ?_
      refine p_iload_n k230_23 rfl ?_
      refine p_iconst (v := nI 0) k230_24 (by decide) ?_
      refine p_aload_n k230_25 rfl ?_
      refine p_getRv k230_26 (s_98 S) f_12_238_12 (r_98_75 S) ?_
      refine p_iload_n k230_29 rfl ?_
      refine p_ialdN k230_30 (s_150 S) (by omega) (by decide) rfl ?_
      refine p_iconst (v := nI 1) k230_31 (by decide) ?_
      refine p_isub k230_32 ?_
      refine p_cV3i k230_33 (s_98 S) c_12_248_12 rfl rfl rfl (Nat.le_of_ble_eq_true rfl) (M_in S (w) (nI (0)) (_)) (fun x1 m1 hq => ?_)
      obtain ⟨rfl, rfl⟩ := hq
      refine p_if_neB (tgt := 42) k230_36 (by decide) (fun c36 => ?_) (fun c36 => ?_)
      · skip
        obtain ⟨n, hn60, hne⟩ := (hT t ht).2
        have hwi := c36
        rw [hne, inB_ix hn60] at hwi
        rw [hne] at c36
        obtain ⟨i, hi, rfl⟩ := ixB_of (n := n) (by omega) hwi
        have hci := nI_clamp (n := i) (by omega)
        refine p_aload_n k230_42 rfl ?_
        refine p_getRv k230_43 (s_98 S) f_12_241_12 (r_98_76 S) ?_
        refine p_bipush (v := nI 60) k230_46 (by decide) ?_
        refine p_iload_n k230_48 rfl ?_
        refine p_imulN k230_49 ?_
        refine p_iload_n k230_50 rfl ?_
        refine p_iaddN k230_51 ?_
        refine p_aload_n k230_52 rfl ?_
        refine p_aload_n k230_53 rfl ?_
        refine p_getRv k230_54 (s_98 S) f_12_235_12 (r_98_74 S) ?_
        refine p_iload_n k230_57 rfl ?_
        refine p_ialdN k230_58 (s_149 S) (by omega) (by decide) rfl ?_
        refine p_lload_n k230_59 rfl ?_
        refine p_cV2Ll k230_60 (s_98 S) c_12_437_12 (Nat.le_of_ble_eq_true rfl) rfl rfl (Nat.le_of_ble_eq_true rfl) (M_narrow S _ _) (fun x1 m1 hq => ?_)
        obtain ⟨rfl, rfl⟩ := hq
        refine p_lastN k230_63 (s_151 S) (by omega) (by decide) ?_
        refine p_iconst (v := nI 1) k230_64 (by decide) ?_
        refine p_ireturn k230_65 rt_230 ?_
        exact ⟨by first | contradiction | simp [itemM, -Int32.not_le, -Int32.not_lt, *], by first | contradiction | simp [itemM, -Int32.not_le, -Int32.not_lt, *]⟩
      · skip
        refine p_bipush (v := (-13)) k230_39 (by decide) ?_
        refine p_ireturn k230_41 rt_230 ?_
        exact ⟨by first | contradiction | simp [itemM, -Int32.not_le, -Int32.not_lt, *], by first | contradiction | simp [itemM, -Int32.not_le, -Int32.not_lt, *]⟩
    · skip
      refine p_bipush (v := (-11)) k230_19 (by decide) ?_
      refine p_ireturn k230_21 rt_230 ?_
      exact ⟨by first | contradiction | simp [itemM, -Int32.not_le, -Int32.not_lt, *], by first | contradiction | simp [itemM, -Int32.not_le, -Int32.not_lt, *]⟩
  · skip
    refine p_iconst (v := (-1)) k230_8 (by decide) ?_
    refine p_ireturn k230_9 rt_230 ?_
    exact ⟨by first | contradiction | simp [itemM, -Int32.not_le, -Int32.not_lt, *], by first | contradiction | simp [itemM, -Int32.not_le, -Int32.not_lt, *]⟩

set_option maxRecDepth 100000 in
set_option maxHeartbeats 4000000 in
theorem M_read {d : Nat} {I : Nat → Nat → Int32} {J : Nat → Nat → Int64} {K : Nat → Nat → Option Nat} {h : List xSh} (S : St K h) (hT : TP I) (v w : Int32) : EvP (d + 2) 231 0 [(0, .ref (98)), (1, .int (v)), (2, .int (w))] [] (I, J, K, h) (QL (fun x t => x = readM I J v w ∧ t = (I, J, K, h))) := by
  refine p_aload_n k231_0 rfl ?_
  refine p_iload_n k231_1 rfl ?_
  refine p_cV1i k231_2 (s_98 S) c_12_410_12 rfl (Nat.le_of_ble_eq_true rfl) (M_isTape S (v)) (fun x1 m1 hq => ?_)
  obtain ⟨rfl, rfl⟩ := hq
  refine p_if_eqB (tgt := 34) k231_5 (by decide) (fun c5 => ?_) (fun c5 => ?_)
  · skip
    refine p_ldc2 (v := (-9223372036854775808)) k231_34 (by decide) ?_
    refine p_goto (tgt := 51) k231_37 (by decide) ?_
    refine p_lreturn k231_51 rt_231 ?_
    exact ⟨by first | contradiction | simp [readM, -Int32.not_le, -Int32.not_lt, *], rfl⟩
  · skip
    obtain ⟨t, ht, rfl⟩ := ixB_of (n := 6) (by omega) c5
    have hct := nI_clamp (n := t) (by omega)
    refine p_aload_n k231_8 rfl ?_
    refine p_getRv k231_9 (s_98 S) f_12_235_12 (r_98_74 S) ?_
    refine p_iload_n k231_12 rfl ?_
    refine p_ialdN k231_13 (s_149 S) (by omega) (by decide) rfl ?_
    refine p_if_lt (tgt := 34) k231_14 (by decide) (fun c14 => ?_) (fun c14 => ?_)
    · skip
      refine p_ldc2 (v := (-9223372036854775808)) k231_34 (by decide) ?_
      refine p_goto (tgt := 51) k231_37 (by decide) ?_
      refine p_lreturn k231_51 rt_231 ?_
      exact ⟨by first | contradiction | simp [readM, -Int32.not_le, -Int32.not_lt, *], rfl⟩
    · skip
      refine p_aload_n k231_17 rfl ?_
      refine p_iload_n k231_18 rfl ?_
      refine p_iconst (v := nI 0) k231_19 (by decide) ?_
      refine p_aload_n k231_20 rfl ?_
      refine p_getRv k231_21 (s_98 S) f_12_238_12 (r_98_75 S) ?_
      refine p_iload_n k231_24 rfl ?_
      refine p_ialdN k231_25 (s_150 S) (by omega) (by decide) rfl ?_
      refine p_iconst (v := nI 1) k231_26 (by decide) ?_
      refine p_isub k231_27 ?_
      refine p_cV3i k231_28 (s_98 S) c_12_248_12 rfl rfl rfl (Nat.le_of_ble_eq_true rfl) (M_in S (w) (nI (0)) (_)) (fun x1 m1 hq => ?_)
      obtain ⟨rfl, rfl⟩ := hq
      refine p_if_neB (tgt := 40) k231_31 (by decide) (fun c31 => ?_) (fun c31 => ?_)
      · skip
        obtain ⟨n, hn60, hne⟩ := (hT t ht).2
        have hwi := c31
        rw [hne, inB_ix hn60] at hwi
        rw [hne] at c31
        obtain ⟨i, hi, rfl⟩ := ixB_of (n := n) (by omega) hwi
        have hci := nI_clamp (n := i) (by omega)
        refine p_aload_n k231_40 rfl ?_
        refine p_getRv k231_41 (s_98 S) f_12_241_12 (r_98_76 S) ?_
        refine p_bipush (v := nI 60) k231_44 (by decide) ?_
        refine p_iload_n k231_46 rfl ?_
        refine p_imulN k231_47 ?_
        refine p_iload_n k231_48 rfl ?_
        refine p_iaddN k231_49 ?_
        refine p_laldN k231_50 (s_151 S) (by omega) (by decide) rfl ?_
        refine p_lreturn k231_51 rt_231 ?_
        exact ⟨by first | contradiction | simp [readM, -Int32.not_le, -Int32.not_lt, *], rfl⟩
      · skip
        refine p_ldc2 (v := (-9223372036854775808)) k231_34 (by decide) ?_
        refine p_goto (tgt := 51) k231_37 (by decide) ?_
        refine p_lreturn k231_51 rt_231 ?_
        exact ⟨by first | contradiction | simp [readM, -Int32.not_le, -Int32.not_lt, *], rfl⟩

/-- a judge's first fault from head k on, j heads -/
def judL (I : Nat → Nat → Int32) (J : Nat → Nat → Int64) (t : Nat) (w : Int32) : Nat → Nat → Int32
  | 0, _ => -5
  | j + 1, k => if I 149 t < 0 ∨ w < 0 ∨ ¬ w ≤ I 150 t - nI k - nI 1 then nI (100 + k) else if lg_cmp (J 151 (60 * t + w.toNatClampNeg + k)) (I 101 k).toInt64 = 0 then judL I J t w j (k + 1) else nI k
def judM (I : Nat → Nat → Int32) (J : Nat → Nat → Int64) (nh : Nat) (v w : Int32) : Int32 := if ixB v 6 = false then -1 else if ¬ I 149 v.toNatClampNeg ≤ 0 then -12 else judL I J v.toNatClampNeg w nh 0
theorem nI_s2 {n k : Nat} (hn : n ≤ 60) (hk : k ≤ 6) : (nI n - nI k - nI 1).toInt = (n : Int) - k - 1 := by
  rw [Int32.toInt_sub, Int32.toInt_sub, nI_t (by omega), nI_t (by omega), nI_t (by omega)]
  rw [Int.bmod_eq_of_le (n := (n : Int) - k) (by omega) (by omega), Int.bmod_eq_of_le (by omega) (by omega)]
  rfl
theorem jud_ix {w : Int32} {n k : Nat} (hn : n ≤ 60) (hk : k ≤ 6) (h0 : ¬ w < 0) (h1 : w ≤ nI n - nI k - nI 1) : ∃ i, w = nI i ∧ i + k < n := by
  rw [i_le, nI_s2 hn hk] at h1
  rw [i_lt] at h0
  have h0' : 0 ≤ w.toInt := Int.not_lt.mp h0
  refine ⟨w.toInt.toNat, ?_, by omega⟩
  rw [i_eq, nI_t (by omega)]
  omega
set_option maxRecDepth 100000 in
set_option maxHeartbeats 4000000 in
theorem M_judge {d : Nat} {I : Nat → Nat → Int32} {J : Nat → Nat → Int64} {K : Nat → Nat → Option Nat} {h : List xSh} (S : St K h) {nh na dd cb ce : Nat} (M : MI I nh na dd cb ce) (hT : TP I) (v w : Int32) : EvP (d + 2) 212 0 [(0, .ref (98)), (1, .int (v)), (2, .int (w))] [] (I, J, K, h) (QI (fun x t => x = judM I J nh v w ∧ t = (I, J, K, h))) := by
  have hnh := M.nh
  have hnh6 := M.nh6
  have hna := M.na
  have hna6 := M.na6
  refine p_aload_n k212_0 rfl ?_
  refine p_iload_n k212_1 rfl ?_
  refine p_cV1i k212_2 (s_98 S) c_12_410_12 rfl (Nat.le_of_ble_eq_true rfl) (M_isTape S (v)) (fun x1 m1 hq => ?_)
  obtain ⟨rfl, rfl⟩ := hq
  refine p_if_neB (tgt := 10) k212_5 (by decide) (fun c5 => ?_) (fun c5 => ?_)
  · skip
    obtain ⟨t, ht, rfl⟩ := ixB_of (n := 6) (by omega) c5
    have hct := nI_clamp (n := t) (by omega)
    refine p_aload_n k212_10 rfl ?_
    refine p_getRv k212_11 (s_98 S) f_12_235_12 (r_98_74 S) ?_
    refine p_iload_n k212_14 rfl ?_
    refine p_ialdN k212_15 (s_149 S) (by omega) (by decide) rfl ?_
    refine p_if_le (tgt := 22) k212_16 (by decide) (fun c16 => ?_) (fun c16 => ?_)
    · skip
      refine p_iconst (v := nI 0) k212_22 (by decide) ?_
      refine p_istore_n (ls' := [(0, _), (1, _), (2, _), (3, _)]) k212_23 rfl ?_
      obtain ⟨w0, hw0⟩ : ∃ w0, w0 = w := ⟨w, rfl⟩
      rw [← hw0]
      have L : ∀ (j : Nat) (k : Nat) (w : Int32), k + j = nh → judM I J nh (nI t) w0 = judL I J t w j k → EvP (d + 2) 212 24 [(0, .ref (98)), (1, .int (nI (t))), (2, .int (w)), (3, .int (nI (k)))] [] (I, J, K, h) (QI (fun x m => x = judM I J nh (nI t) w0 ∧ m = (I, J, K, h))) := by
        intro j
        induction j with
        | zero =>
          intro k w hk
          intro hs
          refine p_iload_n k212_24 rfl ?_
          refine p_aload_n k212_25 rfl ?_
          refine p_getIv k212_26 (s_98 S) f_12_7_12 M.nh ?_
          refine p_icmp_geN (tgt := 96) k212_29 (by decide) (by omega) (by omega) (fun _ => ?_) (fun c => False.elim (by omega))
          refine p_bipush (v := (-5)) k212_96 (by decide) ?_
          refine p_ireturn k212_98 rt_212 ?_
          exact ⟨hs.symm, rfl⟩
        | succ j ih =>
          intro k w hk
          intro hs
          refine p_iload_n k212_24 rfl ?_
          refine p_aload_n k212_25 rfl ?_
          refine p_getIv k212_26 (s_98 S) f_12_7_12 M.nh ?_
          refine p_icmp_geN (tgt := 96) k212_29 (by decide) (by omega) (by omega) (fun c => False.elim (by omega)) (fun _ => ?_)
          refine p_aload_n k212_32 rfl ?_
          refine p_getRv k212_33 (s_98 S) f_12_235_12 (r_98_74 S) ?_
          refine p_iload_n k212_36 rfl ?_
          refine p_ialdN k212_37 (s_149 S) (by omega) (by decide) rfl ?_
          refine p_if_lt (tgt := 59) k212_38 (by decide) (fun c38 => ?_) (fun c38 => ?_)
          · skip
            refine p_bipush (v := nI 100) k212_59 (by decide) ?_
            refine p_iload_n k212_61 rfl ?_
            refine p_iaddN k212_62 ?_
            refine p_ireturn k212_63 rt_212 ?_
            exact ⟨by rw [hs]; exact (if_pos (by first | exact Or.inl c38 | exact Or.inr (Or.inl c42) | exact Or.inr (Or.inr c56))).symm, rfl⟩
          · skip
            refine p_iload_n k212_41 rfl ?_
            refine p_if_lt (tgt := 59) k212_42 (by decide) (fun c42 => ?_) (fun c42 => ?_)
            · skip
              refine p_bipush (v := nI 100) k212_59 (by decide) ?_
              refine p_iload_n k212_61 rfl ?_
              refine p_iaddN k212_62 ?_
              refine p_ireturn k212_63 rt_212 ?_
              exact ⟨by rw [hs]; exact (if_pos (by first | exact Or.inl c38 | exact Or.inr (Or.inl c42) | exact Or.inr (Or.inr c56))).symm, rfl⟩
            · skip
              refine p_iload_n k212_45 rfl ?_
              refine p_aload_n k212_46 rfl ?_
              refine p_getRv k212_47 (s_98 S) f_12_238_12 (r_98_75 S) ?_
              refine p_iload_n k212_50 rfl ?_
              refine p_ialdN k212_51 (s_150 S) (by omega) (by decide) rfl ?_
              refine p_iload_n k212_52 rfl ?_
              refine p_isub k212_53 ?_
              refine p_iconst (v := nI 1) k212_54 (by decide) ?_
              refine p_isub k212_55 ?_
              refine p_icmp_le (tgt := 64) k212_56 (by decide) (fun c56 => ?_) (fun c56 => ?_)
              · skip
                have hng : ¬ (I 149 t < 0 ∨ w < 0 ∨ ¬ w ≤ I 150 t - nI k - nI 1) := fun z => z.elim (fun z => c38 z) (fun z => z.elim c42 (fun z => z c56))
                obtain ⟨n, hn60, hne⟩ := (hT t ht).2
                rw [hne] at c56
                obtain ⟨i, rfl, hin⟩ := jud_ix hn60 (by omega) c42 c56
                have hci := nI_clamp (n := i) (by omega)
                refine p_aload_n k212_64 rfl ?_
                refine p_getRv k212_65 (s_98 S) f_12_241_12 (r_98_76 S) ?_
                refine p_bipush (v := nI 60) k212_68 (by decide) ?_
                refine p_iload_n k212_70 rfl ?_
                refine p_imulN k212_71 ?_
                refine p_iload_n k212_72 rfl ?_
                refine p_iaddN k212_73 ?_
                refine p_iload_n k212_74 rfl ?_
                refine p_iaddN k212_75 ?_
                refine p_laldN k212_76 (s_151 S) (by omega) (by decide) rfl ?_
                refine p_aload_n k212_77 rfl ?_
                refine p_getRv k212_78 (s_98 S) f_12_26_12 (r_98_5 S) ?_
                refine p_iload_n k212_81 rfl ?_
                refine p_ialdN k212_82 (s_101 S) (by omega) (by decide) rfl ?_
                refine p_i2l k212_83 ?_
                refine p_lcmp k212_84 ?_
                refine p_if_eq (tgt := 90) k212_85 (by decide) (fun c85 => ?_) (fun c85 => ?_)
                · skip
                  refine p_iincN (ls1 := [(0, _), (1, _), (2, _), (3, _)]) k212_90 rfl rfl ?_
                  refine p_goto (tgt := 24) k212_93 (by decide) ?_
                  refine ih (k + 1) _ (by omega) (by rw [hs]; exact (if_neg hng).trans (if_pos (by rw [hci]; exact c85)))
                · skip
                  refine p_iload_n k212_88 rfl ?_
                  refine p_ireturn k212_89 rt_212 ?_
                  exact ⟨by rw [hs]; exact ((if_neg hng).trans (if_neg (by rw [hci]; exact c85))).symm, rfl⟩
              · skip
                refine p_bipush (v := nI 100) k212_59 (by decide) ?_
                refine p_iload_n k212_61 rfl ?_
                refine p_iaddN k212_62 ?_
                refine p_ireturn k212_63 rt_212 ?_
                exact ⟨by rw [hs]; exact (if_pos (by first | exact Or.inl c38 | exact Or.inr (Or.inl c42) | exact Or.inr (Or.inr c56))).symm, rfl⟩
      rw [hw0]
      subst hw0
      exact L nh 0 w0 (by omega) (by unfold judM; rw [hct]; simp [*])
    · skip
      refine p_bipush (v := (-12)) k212_19 (by decide) ?_
      refine p_ireturn k212_21 rt_212 ?_
      exact ⟨by simp [judM, -Int32.not_le, -Int32.not_lt, *], rfl⟩
  · skip
    refine p_iconst (v := (-1)) k212_8 (by decide) ?_
    refine p_ireturn k212_9 rt_212 ?_
    exact ⟨by simp [judM, -Int32.not_le, -Int32.not_lt, *], rfl⟩

def fMv (f : Nat → Int64) (a k : Nat) (u : Nat → Int64) : Nat → Int64 := upc u k (f (a + k))
def fPt (g : Nat → Int64) (b k : Nat) (u : Nat → Int64) : Nat → Int64 := upc u (b + k) (g k)
theorem fMv_at (f : Nat → Int64) (a : Nat) : ∀ (j k : Nat) (u : Nat → Int64) (m : Nat), fld (fMv f a) j k u m = if k ≤ m ∧ m < k + j then f (a + m) else u m := by
  intro j
  induction j with
  | zero => intro k u m; rw [if_neg (by omega)]; rfl
  | succ j ih =>
    intro k u m
    show fld (fMv f a) j (k + 1) (fMv f a k u) m = _
    rw [ih]
    by_cases h1 : k + 1 ≤ m ∧ m < k + 1 + j
    · rw [if_pos h1, if_pos (by omega)]
    · rw [if_neg h1]
      by_cases h2 : m = k
      · subst h2; rw [if_pos (by omega)]; exact upc_eq _ _ _
      · rw [if_neg (by omega)]; exact upc_ne _ _ h2
theorem fPt_at (g : Nat → Int64) (b : Nat) : ∀ (j k : Nat) (u : Nat → Int64) (m : Nat), fld (fPt g b) j k u m = if b + k ≤ m ∧ m < b + k + j then g (m - b) else u m := by
  intro j
  induction j with
  | zero => intro k u m; rw [if_neg (by omega)]; rfl
  | succ j ih =>
    intro k u m
    show fld (fPt g b) j (k + 1) (fPt g b k u) m = _
    rw [ih]
    by_cases h1 : b + (k + 1) ≤ m ∧ m < b + (k + 1) + j
    · rw [if_pos h1, if_pos (by omega)]
    · rw [if_neg h1]
      by_cases h2 : m = b + k
      · subst h2
        rw [if_pos (by omega), show b + k - b = k by omega]
        exact upc_eq _ _ _
      · rw [if_neg (by omega)]; exact upc_ne _ _ h2
/-- n items from a on come to b on -/
def shJ (f : Nat → Int64) (a b n : Nat) : Nat → Int64 := fun m => if b ≤ m ∧ m < b + n then f (a + (m - b)) else f m
theorem shJ_of (f g : Nat → Int64) (a b n : Nat) : fld (fPt (fld (fMv f a) n 0 g) b) n 0 f = shJ f a b n := by
  funext m
  rw [fPt_at]
  unfold shJ
  by_cases h1 : b ≤ m ∧ m < b + n
  · rw [if_pos (by omega), if_pos h1, fMv_at, if_pos (by omega)]
  · rw [if_neg (by omega), if_neg h1]
def shfM (I : Nat → Nat → Int32) (J : Nat → Nat → Int64) (v w v2 w2 n : Int32) : Int32 × (Nat → Nat → Int64) := if ixB v 6 = false ∨ ixB v2 6 = false then (-1, J) else if I 149 v.toNatClampNeg < 0 ∨ ¬ 0 ≤ I 149 v2.toNatClampNeg then (-11, J) else if ¬ I 149 v.toNatClampNeg = I 149 v2.toNatClampNeg then (-12, J) else if n < 0 ∨ w < 0 ∨ w2 < 0 ∨ I 150 v.toNatClampNeg - n < w ∨ ¬ w2 ≤ I 150 v2.toNatClampNeg - n then (-13, J) else (n, upc J 151 (shJ (J 151) (60 * v.toNatClampNeg + w.toNatClampNeg) (60 * v2.toNatClampNeg + w2.toNatClampNeg) n.toNatClampNeg))
theorem sub_le {w n : Int32} {m : Nat} (hm : m ≤ 60) (h0 : ¬ w < 0) (hn : ¬ n < 0) (h1' : ¬ nI m - n < w) : ∃ i q, w = nI i ∧ n = nI q ∧ i + q ≤ m := by
  rw [i_lt] at h0 hn
  have h0' : 0 ≤ w.toInt := Int.not_lt.mp h0
  have hn' : 0 ≤ n.toInt := Int.not_lt.mp hn
  have hb := Int32.toInt_lt n
  have h1 : w ≤ nI m - n := Int32.not_lt.mp h1'
  rw [i_le, Int32.toInt_sub, nI_t (by omega), Int.bmod_eq_of_le (by omega) (by omega)] at h1
  refine ⟨w.toInt.toNat, n.toInt.toNat, ?_, ?_, by omega⟩
  · rw [i_eq, nI_t (by omega)]; omega
  · rw [i_eq, nI_t (by omega)]; omega
theorem nI_inj {a b : Nat} (ha : a < 2 ^ 31) (hb : b < 2 ^ 31) (h : nI a = nI b) : a = b := by
  have := congrArg Int32.toInt h
  rw [nI_t ha, nI_t hb] at this
  omega
set_option maxRecDepth 100000 in
set_option maxHeartbeats 4000000 in
theorem M_shift {d : Nat} {I : Nat → Nat → Int32} {J : Nat → Nat → Int64} {K : Nat → Nat → Option Nat} {h : List xSh} (S : St K h) (hT : TP I) (v w v2 w2 n : Int32) : EvP (d + 2) 232 0 [(0, .ref (98)), (1, .int (v)), (2, .int (w)), (3, .int (v2)), (4, .int (w2)), (5, .int (n))] [] (I, J, K, h) (QI (fun x t => x = (shfM I J v w v2 w2 n).1 ∧ ∃ g, t = (I, upc (shfM I J v w v2 w2 n).2 152 g, K, h))) := by
  refine p_aload_n k232_0 rfl ?_
  refine p_iload_n k232_1 rfl ?_
  refine p_cV1i k232_2 (s_98 S) c_12_410_12 rfl (Nat.le_of_ble_eq_true rfl) (M_isTape S (v)) (fun x1 m1 hq => ?_)
  obtain ⟨rfl, rfl⟩ := hq
  refine p_if_eqB (tgt := 16) k232_5 (by decide) (fun c5 => ?_) (fun c5 => ?_)
  · skip
    refine p_iconst (v := (-1)) k232_16 (by decide) ?_
    refine p_ireturn k232_17 rt_232 ?_
    refine ⟨?_, J 152, ?_⟩
    · unfold shfM; rw [if_pos (by first | exact Or.inl c5 | exact Or.inr c13)]
    · rw [show (shfM I J _ w _ w2 n).2 = J from by unfold shfM; rw [if_pos (by first | exact Or.inl c5 | exact Or.inr c13)], upc_self]
  · skip
    refine p_aload_n k232_8 rfl ?_
    refine p_iload_n k232_9 rfl ?_
    refine p_cV1i k232_10 (s_98 S) c_12_410_12 rfl (Nat.le_of_ble_eq_true rfl) (M_isTape S (v2)) (fun x1 m1 hq => ?_)
    obtain ⟨rfl, rfl⟩ := hq
    refine p_if_neB (tgt := 18) k232_13 (by decide) (fun c13 => ?_) (fun c13 => ?_)
    · skip
      obtain ⟨t, ht, rfl⟩ := ixB_of (n := 6) (by omega) c5
      have hct := nI_clamp (n := t) (by omega)
      obtain ⟨o, ho, rfl⟩ := ixB_of (n := 6) (by omega) c13
      have hco := nI_clamp (n := o) (by omega)
      have h1 : ¬ (ixB (nI t) 6 = false ∨ ixB (nI o) 6 = false) := by rw [c5, c13]; decide
      refine p_aload_n k232_18 rfl ?_
      refine p_getRv k232_19 (s_98 S) f_12_235_12 (r_98_74 S) ?_
      refine p_iload_n k232_22 rfl ?_
      refine p_ialdN k232_23 (s_149 S) (by omega) (by decide) rfl ?_
      refine p_if_lt (tgt := 36) k232_24 (by decide) (fun c24 => ?_) (fun c24 => ?_)
      · skip
        refine p_bipush (v := (-11)) k232_36 (by decide) ?_
        refine p_ireturn k232_38 rt_232 ?_
        refine ⟨?_, J 152, ?_⟩
        · unfold shfM; rw [if_neg h1, hct, hco, if_pos (by first | exact Or.inl c24 | exact Or.inr c33)]
        · rw [show (shfM I J _ w _ w2 n).2 = J from by unfold shfM; rw [if_neg h1, hct, hco, if_pos (by first | exact Or.inl c24 | exact Or.inr c33)], upc_self]
      · skip
        refine p_aload_n k232_27 rfl ?_
        refine p_getRv k232_28 (s_98 S) f_12_235_12 (r_98_74 S) ?_
        refine p_iload_n k232_31 rfl ?_
        refine p_ialdN k232_32 (s_149 S) (by omega) (by decide) rfl ?_
        refine p_if_ge (tgt := 39) k232_33 (by decide) (fun c33 => ?_) (fun c33 => ?_)
        · skip
          refine p_aload_n k232_39 rfl ?_
          refine p_getRv k232_40 (s_98 S) f_12_235_12 (r_98_74 S) ?_
          refine p_iload_n k232_43 rfl ?_
          refine p_ialdN k232_44 (s_149 S) (by omega) (by decide) rfl ?_
          refine p_aload_n k232_45 rfl ?_
          refine p_getRv k232_46 (s_98 S) f_12_235_12 (r_98_74 S) ?_
          refine p_iload_n k232_49 rfl ?_
          refine p_ialdN k232_50 (s_149 S) (by omega) (by decide) rfl ?_
          refine p_icmp_eq (tgt := 57) k232_51 (by decide) (fun c51 => ?_) (fun c51 => ?_)
          · skip
            refine p_iload k232_57 rfl ?_
            refine p_if_lt (tgt := 98) k232_59 (by decide) (fun c59 => ?_) (fun c59 => ?_)
            · skip
              refine p_bipush (v := (-13)) k232_98 (by decide) ?_
              refine p_ireturn k232_100 rt_232 ?_
              refine ⟨?_, J 152, ?_⟩
              · unfold shfM; rw [if_neg h1, hct, hco, if_neg (fun z => z.elim c24 (fun z => z c33)), if_neg ((fun f => f c51 : ¬ ¬ _)), if_pos (by first | exact Or.inl c59 | exact Or.inr (Or.inl c63) | exact Or.inr (Or.inr (Or.inl c68)) | exact Or.inr (Or.inr (Or.inr (Or.inl c81))) | exact Or.inr (Or.inr (Or.inr (Or.inr c95))))]
              · rw [show (shfM I J _ w _ w2 n).2 = J from by unfold shfM; rw [if_neg h1, hct, hco, if_neg (fun z => z.elim c24 (fun z => z c33)), if_neg ((fun f => f c51 : ¬ ¬ _)), if_pos (by first | exact Or.inl c59 | exact Or.inr (Or.inl c63) | exact Or.inr (Or.inr (Or.inl c68)) | exact Or.inr (Or.inr (Or.inr (Or.inl c81))) | exact Or.inr (Or.inr (Or.inr (Or.inr c95))))], upc_self]
            · skip
              refine p_iload_n k232_62 rfl ?_
              refine p_if_lt (tgt := 98) k232_63 (by decide) (fun c63 => ?_) (fun c63 => ?_)
              · skip
                refine p_bipush (v := (-13)) k232_98 (by decide) ?_
                refine p_ireturn k232_100 rt_232 ?_
                refine ⟨?_, J 152, ?_⟩
                · unfold shfM; rw [if_neg h1, hct, hco, if_neg (fun z => z.elim c24 (fun z => z c33)), if_neg ((fun f => f c51 : ¬ ¬ _)), if_pos (by first | exact Or.inl c59 | exact Or.inr (Or.inl c63) | exact Or.inr (Or.inr (Or.inl c68)) | exact Or.inr (Or.inr (Or.inr (Or.inl c81))) | exact Or.inr (Or.inr (Or.inr (Or.inr c95))))]
                · rw [show (shfM I J _ w _ w2 n).2 = J from by unfold shfM; rw [if_neg h1, hct, hco, if_neg (fun z => z.elim c24 (fun z => z c33)), if_neg ((fun f => f c51 : ¬ ¬ _)), if_pos (by first | exact Or.inl c59 | exact Or.inr (Or.inl c63) | exact Or.inr (Or.inr (Or.inl c68)) | exact Or.inr (Or.inr (Or.inr (Or.inl c81))) | exact Or.inr (Or.inr (Or.inr (Or.inr c95))))], upc_self]
              · skip
                refine p_iload k232_66 rfl ?_
                refine p_if_lt (tgt := 98) k232_68 (by decide) (fun c68 => ?_) (fun c68 => ?_)
                · skip
                  refine p_bipush (v := (-13)) k232_98 (by decide) ?_
                  refine p_ireturn k232_100 rt_232 ?_
                  refine ⟨?_, J 152, ?_⟩
                  · unfold shfM; rw [if_neg h1, hct, hco, if_neg (fun z => z.elim c24 (fun z => z c33)), if_neg ((fun f => f c51 : ¬ ¬ _)), if_pos (by first | exact Or.inl c59 | exact Or.inr (Or.inl c63) | exact Or.inr (Or.inr (Or.inl c68)) | exact Or.inr (Or.inr (Or.inr (Or.inl c81))) | exact Or.inr (Or.inr (Or.inr (Or.inr c95))))]
                  · rw [show (shfM I J _ w _ w2 n).2 = J from by unfold shfM; rw [if_neg h1, hct, hco, if_neg (fun z => z.elim c24 (fun z => z c33)), if_neg ((fun f => f c51 : ¬ ¬ _)), if_pos (by first | exact Or.inl c59 | exact Or.inr (Or.inl c63) | exact Or.inr (Or.inr (Or.inl c68)) | exact Or.inr (Or.inr (Or.inr (Or.inl c81))) | exact Or.inr (Or.inr (Or.inr (Or.inr c95))))], upc_self]
                · skip
                  refine p_iload_n k232_71 rfl ?_
                  refine p_aload_n k232_72 rfl ?_
                  refine p_getRv k232_73 (s_98 S) f_12_238_12 (r_98_75 S) ?_
                  refine p_iload_n k232_76 rfl ?_
                  refine p_ialdN k232_77 (s_150 S) (by omega) (by decide) rfl ?_
                  refine p_iload k232_78 rfl ?_
                  refine p_isub k232_80 ?_
                  refine p_icmp_gt (tgt := 98) k232_81 (by decide) (fun c81 => ?_) (fun c81 => ?_)
                  · skip
                    refine p_bipush (v := (-13)) k232_98 (by decide) ?_
                    refine p_ireturn k232_100 rt_232 ?_
                    refine ⟨?_, J 152, ?_⟩
                    · unfold shfM; rw [if_neg h1, hct, hco, if_neg (fun z => z.elim c24 (fun z => z c33)), if_neg ((fun f => f c51 : ¬ ¬ _)), if_pos (by first | exact Or.inl c59 | exact Or.inr (Or.inl c63) | exact Or.inr (Or.inr (Or.inl c68)) | exact Or.inr (Or.inr (Or.inr (Or.inl c81))) | exact Or.inr (Or.inr (Or.inr (Or.inr c95))))]
                    · rw [show (shfM I J _ w _ w2 n).2 = J from by unfold shfM; rw [if_neg h1, hct, hco, if_neg (fun z => z.elim c24 (fun z => z c33)), if_neg ((fun f => f c51 : ¬ ¬ _)), if_pos (by first | exact Or.inl c59 | exact Or.inr (Or.inl c63) | exact Or.inr (Or.inr (Or.inl c68)) | exact Or.inr (Or.inr (Or.inr (Or.inl c81))) | exact Or.inr (Or.inr (Or.inr (Or.inr c95))))], upc_self]
                  · skip
                    refine p_iload k232_84 rfl ?_
                    refine p_aload_n k232_86 rfl ?_
                    refine p_getRv k232_87 (s_98 S) f_12_238_12 (r_98_75 S) ?_
                    refine p_iload_n k232_90 rfl ?_
                    refine p_ialdN k232_91 (s_150 S) (by omega) (by decide) rfl ?_
                    refine p_iload k232_92 rfl ?_
                    refine p_isub k232_94 ?_
                    refine p_icmp_le (tgt := 101) k232_95 (by decide) (fun c95 => ?_) (fun c95 => ?_)
                    · skip
                      obtain ⟨n1, hn1, hne1⟩ := (hT t ht).2
                      obtain ⟨n2, hn2, hne2⟩ := (hT o ho).2
                      have hS9 : shfM I J (nI t) w (nI o) w2 n = (n, upc J 151 (shJ (J 151) (60 * t + w.toNatClampNeg) (60 * o + w2.toNatClampNeg) n.toNatClampNeg)) := by unfold shfM; rw [hct, hco, if_neg h1, if_neg (fun z => z.elim c24 (fun z => z c33)), if_neg ((fun f => f c51 : ¬ ¬ _)), if_neg (fun z => z.elim c59 (fun z => z.elim c63 (fun z => z.elim c68 (fun z => z.elim c81 (fun z => z c95)))))]
                      rw [hne1] at c81
                      rw [hne2] at c95
                      obtain ⟨i, q, rfl, rfl, hiq⟩ := sub_le hn1 c63 c59 c81
                      obtain ⟨p, q2, rfl, hq2, hpq⟩ := sub_le hn2 c68 c59 (Int32.not_lt.mpr c95)
                      have hq22 : q2 = q := nI_inj (by omega) (by omega) hq2.symm
                      subst hq22
                      have hci := nI_clamp (n := i) (by omega)
                      have hcp := nI_clamp (n := p) (by omega)
                      have hcq := nI_clamp (n := q2) (by omega)
                      rw [hci, hcp, hcq] at hS9
                      refine p_iconst (v := nI 0) k232_101 (by decide) ?_
                      refine p_istore (ls' := [(0, _), (1, _), (2, _), (3, _), (4, _), (5, _), (6, _)]) k232_102 rfl ?_
                      have L : ∀ (j : Nat) (k : Nat) (u : Nat → Int64), k + j = q2 → fld (fMv (J 151) (60 * t + i)) j k u = fld (fMv (J 151) (60 * t + i)) q2 0 (J 152) → EvP (d + 2) 232 104 [(0, .ref (98)), (1, .int (nI (t))), (2, .int (nI (i))), (3, .int (nI (o))), (4, .int (nI (p))), (5, .int (nI (q2))), (6, .int (nI (k)))] [] (I, upc J 152 u, K, h) (QI (fun x m => x = (shfM I J (nI t) (nI i) (nI o) (nI p) (nI q2)).1 ∧ ∃ g, m = (I, upc (shfM I J (nI t) (nI i) (nI o) (nI p) (nI q2)).2 152 g, K, h))) := by
                        intro j
                        induction j with
                        | zero =>
                          intro k u hk
                          intro hu
                          have hu2 : u = fld (fMv (J 151) (60 * t + i)) q2 0 (J 152) := hu
                          subst hu2
                          refine p_iload k232_104 rfl ?_
                          refine p_iload k232_106 rfl ?_
                          refine p_icmp_geN (tgt := 138) k232_108 (by decide) (by omega) (by omega) (fun _ => ?_) (fun c => False.elim (by omega))
                          refine p_iconst (v := nI 0) k232_138 (by decide) ?_
                          refine p_istore (ls' := [(0, _), (1, _), (2, _), (3, _), (4, _), (5, _), (6, _)]) k232_139 rfl ?_
                          have L2 : ∀ (j : Nat) (k : Nat) (u : Nat → Int64), k + j = q2 → fld (fPt (fld (fMv (J 151) (60 * t + i)) q2 0 (J 152)) (60 * o + p)) j k u = shJ (J 151) (60 * t + i) (60 * o + p) q2 → EvP (d + 2) 232 141 [(0, .ref (98)), (1, .int (nI (t))), (2, .int (nI (i))), (3, .int (nI (o))), (4, .int (nI (p))), (5, .int (nI (q2))), (6, .int (nI (k)))] [] (I, upc (upc J 152 (fld (fMv (J 151) (60 * t + i)) q2 0 (J 152))) 151 u, K, h) (QI (fun x m => x = (shfM I J (nI t) (nI i) (nI o) (nI p) (nI q2)).1 ∧ ∃ g, m = (I, upc (shfM I J (nI t) (nI i) (nI o) (nI p) (nI q2)).2 152 g, K, h))) := by
                            intro j
                            induction j with
                            | zero =>
                              intro k u hk
                              intro hu
                              refine p_iload k232_141 rfl ?_
                              refine p_iload k232_143 rfl ?_
                              refine p_icmp_geN (tgt := 176) k232_145 (by decide) (by omega) (by omega) (fun _ => ?_) (fun c => False.elim (by omega))
                              refine p_iload k232_176 rfl ?_
                              refine p_ireturn k232_178 rt_232 ?_
                              exact ⟨by rw [hS9], fld (fMv (J 151) (60 * t + i)) q2 0 (J 152), by rw [hS9]; show _ = (I, upc (upc J 151 _) 152 _, K, h); rw [upc_sw _ (show 151 ≠ 152 by decide), ← hu]; rfl⟩
                            | succ j ih =>
                              intro k u hk
                              intro hu
                              refine p_iload k232_141 rfl ?_
                              refine p_iload k232_143 rfl ?_
                              refine p_icmp_geN (tgt := 176) k232_145 (by decide) (by omega) (by omega) (fun c => False.elim (by omega)) (fun _ => ?_)
                              refine p_aload_n k232_148 rfl ?_
                              refine p_getRv k232_149 (s_98 S) f_12_241_12 (r_98_76 S) ?_
                              refine p_bipush (v := nI 60) k232_152 (by decide) ?_
                              refine p_iload_n k232_154 rfl ?_
                              refine p_imulN k232_155 ?_
                              refine p_iload k232_156 rfl ?_
                              refine p_iaddN k232_158 ?_
                              refine p_iload k232_159 rfl ?_
                              refine p_iaddN k232_161 ?_
                              refine p_aload_n k232_162 rfl ?_
                              refine p_getRv k232_163 (s_98 S) f_12_245_12 (r_98_77 S) ?_
                              refine p_iload k232_166 rfl ?_
                              refine p_laldN k232_168 (s_152 S) (by omega) (by decide) (show _ = (fld (fMv (J 151) (60 * t + i)) q2 0 (J 152)) k from rfl) ?_
                              refine p_lastN k232_169 (s_151 S) (by omega) (by decide) ?_
                              refine p_iincN (ls1 := [(0, _), (1, _), (2, _), (3, _), (4, _), (5, _), (6, _)]) k232_170 rfl rfl ?_
                              refine p_goto (tgt := 141) k232_173 (by decide) ?_
                              rw [upc_uu, upc_eq]
                              exact ih (k + 1) _ (by omega) hu
                          refine p_selfJ 151 ?_
                          exact L2 q2 0 (J 151) (by omega) (shJ_of _ _ _ _ _)
                        | succ j ih =>
                          intro k u hk
                          intro hu
                          refine p_iload k232_104 rfl ?_
                          refine p_iload k232_106 rfl ?_
                          refine p_icmp_geN (tgt := 138) k232_108 (by decide) (by omega) (by omega) (fun c => False.elim (by omega)) (fun _ => ?_)
                          refine p_aload_n k232_111 rfl ?_
                          refine p_getRv k232_112 (s_98 S) f_12_245_12 (r_98_77 S) ?_
                          refine p_iload k232_115 rfl ?_
                          refine p_aload_n k232_117 rfl ?_
                          refine p_getRv k232_118 (s_98 S) f_12_241_12 (r_98_76 S) ?_
                          refine p_bipush (v := nI 60) k232_121 (by decide) ?_
                          refine p_iload_n k232_123 rfl ?_
                          refine p_imulN k232_124 ?_
                          refine p_iload_n k232_125 rfl ?_
                          refine p_iaddN k232_126 ?_
                          refine p_iload k232_127 rfl ?_
                          refine p_iaddN k232_129 ?_
                          refine p_laldN k232_130 (s_151 S) (by omega) (by decide) (show _ = J 151 (60 * t + i + k) from rfl) ?_
                          refine p_lastN k232_131 (s_152 S) (by omega) (by decide) ?_
                          refine p_iincN (ls1 := [(0, _), (1, _), (2, _), (3, _), (4, _), (5, _), (6, _)]) k232_132 rfl rfl ?_
                          refine p_goto (tgt := 104) k232_135 (by decide) ?_
                          rw [upc_uu, upc_eq]
                          exact ih (k + 1) _ (by omega) hu
                      refine p_selfJ 152 ?_
                      exact L q2 0 (J 152) (by omega) rfl
                    · skip
                      refine p_bipush (v := (-13)) k232_98 (by decide) ?_
                      refine p_ireturn k232_100 rt_232 ?_
                      refine ⟨?_, J 152, ?_⟩
                      · unfold shfM; rw [if_neg h1, hct, hco, if_neg (fun z => z.elim c24 (fun z => z c33)), if_neg ((fun f => f c51 : ¬ ¬ _)), if_pos (by first | exact Or.inl c59 | exact Or.inr (Or.inl c63) | exact Or.inr (Or.inr (Or.inl c68)) | exact Or.inr (Or.inr (Or.inr (Or.inl c81))) | exact Or.inr (Or.inr (Or.inr (Or.inr c95))))]
                      · rw [show (shfM I J _ w _ w2 n).2 = J from by unfold shfM; rw [if_neg h1, hct, hco, if_neg (fun z => z.elim c24 (fun z => z c33)), if_neg ((fun f => f c51 : ¬ ¬ _)), if_pos (by first | exact Or.inl c59 | exact Or.inr (Or.inl c63) | exact Or.inr (Or.inr (Or.inl c68)) | exact Or.inr (Or.inr (Or.inr (Or.inl c81))) | exact Or.inr (Or.inr (Or.inr (Or.inr c95))))], upc_self]
          · skip
            refine p_bipush (v := (-12)) k232_54 (by decide) ?_
            refine p_ireturn k232_56 rt_232 ?_
            refine ⟨?_, J 152, ?_⟩
            · unfold shfM; rw [if_neg h1, hct, hco, if_neg (fun z => z.elim c24 (fun z => z c33)), if_pos c51]
            · rw [show (shfM I J _ w _ w2 n).2 = J from by unfold shfM; rw [if_neg h1, hct, hco, if_neg (fun z => z.elim c24 (fun z => z c33)), if_pos c51], upc_self]
        · skip
          refine p_bipush (v := (-11)) k232_36 (by decide) ?_
          refine p_ireturn k232_38 rt_232 ?_
          refine ⟨?_, J 152, ?_⟩
          · unfold shfM; rw [if_neg h1, hct, hco, if_pos (by first | exact Or.inl c24 | exact Or.inr c33)]
          · rw [show (shfM I J _ w _ w2 n).2 = J from by unfold shfM; rw [if_neg h1, hct, hco, if_pos (by first | exact Or.inl c24 | exact Or.inr c33)], upc_self]
    · skip
      refine p_iconst (v := (-1)) k232_16 (by decide) ?_
      refine p_ireturn k232_17 rt_232 ?_
      refine ⟨?_, J 152, ?_⟩
      · unfold shfM; rw [if_pos (by first | exact Or.inl c5 | exact Or.inr c13)]
      · rw [show (shfM I J _ w _ w2 n).2 = J from by unfold shfM; rw [if_pos (by first | exact Or.inl c5 | exact Or.inr c13)], upc_self]

