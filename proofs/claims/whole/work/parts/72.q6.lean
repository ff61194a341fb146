/-! the class: town -/
set_option maxRecDepth 100000 in
set_option maxHeartbeats 4000000 in
theorem C_town {d : Nat} {I : Nat → Nat → Int32} {J : Nat → Nat → Int64} {K : Nat → Nat → Option Nat} {h : List xSh} (S : St K h) {tw n : Nat} {c : Nat → Nat} (htc : I 0 7 = nI tw) (htw : tw ≤ 6) (htn : I 0 4 = nI n) (hn100 : n ≤ 100) (hCT : CT c n) (htx : ∀ p, p < n → I 27 p = nI (c p)) : EvP (d + 18) 65 0 [(0, .ref (0))] [] (I, J, K, h) (QI (fun x t => (tw = 6 ∧ x = -4 ∧ t = (I, J, K, h)) ∨ (tw < 6 ∧ ∃ I3, (∀ y, y < 44 + 9 * tw ∨ 44 + 9 * tw + 6 < y → I3 y = I y) ∧ ((∃ q R, (pTw c n 10 0) = (q, some R) ∧ x = nI tw ∧ CTg I3 (44 + 9 * tw) R ∧ R.length ≤ 10 ∧ t = (s1 (s1 (s1 I3 0 4 (nI 0)) 1 17 (nI tw)) 0 7 (nI (tw + 1)), J, (upc K (44 + 9 * tw) (upc (K (44 + 9 * tw)) 8 (some 27))), h)) ∨ (∃ q, (pTw c n 10 0) = (q, none) ∧ q ≤ n ∧ x = -10 - nI q ∧ t = (s1 I3 0 4 (nI 0), J, (upc K (44 + 9 * tw) (upc (K (44 + 9 * tw)) 8 (some 27))), h)))))) := by
  refine p_aload_n k65_0 rfl ?_
  refine p_getIv k65_1 (s_0 S) f_11_44_11 htc ?_
  refine p_bipush (v := nI 6) k65_4 (by decide) ?_
  refine p_icmp_ltN (tgt := 12) k65_6 (by decide) (by omega) (by omega) (fun cq6 => ?_) (fun cq6 => ?_)
  · skip
    refine p_aload_n k65_12 rfl ?_
    refine p_getRv k65_13 (s_0 S) f_11_35_11 (r_0_5 S) ?_
    refine p_aload_n k65_16 rfl ?_
    refine p_getIv k65_17 (s_0 S) f_11_44_11 htc ?_
    refine p_aaldNj k65_20 (s_28 S) xaty_8 (by omega) (by decide) (TS_t S (by omega)).2 ?_
    refine p_aload_n k65_21 rfl ?_
    refine p_getRv k65_22 (s_0 S) f_11_25_11 (r_0_3 S) ?_
    refine p_aload_n k65_25 rfl ?_
    refine p_getIv k65_26 (s_0 S) f_11_29_11 htn ?_
    refine p_cV2i k65_29 (TS_t S (by omega)).1.1.1 c_11_183_8 rfl rfl (Nat.le_of_ble_eq_true rfl) (C_parse S (b := 44 + 9 * tw) (by omega) (by omega) (TS_t S (by omega)).1 hn100 hCT htx) (fun x1 m1 hq => ?_)
    obtain ⟨I3, rfl, hF, hQ⟩ := hq
    generalize x1 = x9 at hQ ⊢
    replace S := S.src (b := 44 + 9 * tw) ⟨by omega, by omega⟩ (some 27)
    refine p_istore_n (ls' := [(0, _), (1, _)]) k65_32 rfl ?_
    refine p_aload_n k65_33 rfl ?_
    refine p_iconst (v := nI 0) k65_34 (by decide) ?_
    refine p_putIv k65_35 (s_0 S) g_11_29_11 n_65_11_4 ?_
    refine p_iload_n k65_38 rfl ?_
    refine p_iconst (v := (-1)) k65_39 (by decide) ?_
    refine p_icmp_eq (tgt := 48) k65_40 (by decide) (fun cq40 => ?_) (fun cq40 => ?_)
    · skip
      refine p_aload_n k65_48 rfl ?_
      refine p_getRv k65_49 (s_0 S) f_11_14_11 (r_0_0 S) ?_
      refine p_aload_n k65_52 rfl ?_
      refine p_getIv k65_53 (s_0 S) f_11_44_11 ((congrFun (hF 0 (by omega)) 7).trans htc) ?_
      refine p_putIv k65_56 (s_1 S) g_11_187_3 n_65_3_17 ?_
      refine p_aload_n k65_59 rfl ?_
      refine p_dup k65_60 rfl ?_
      refine p_getIv k65_61 (s_0 S) f_11_44_11 ((congrFun (hF 0 (by omega)) 7).trans htc) ?_
      refine p_iconst (v := nI 1) k65_64 (by decide) ?_
      refine p_iaddN k65_65 ?_
      refine p_putIv k65_66 (s_0 S) g_11_44_11 n_65_11_7 ?_
      refine p_aload_n k65_69 rfl ?_
      refine p_getRv k65_70 (s_0 S) f_11_14_11 (r_0_0 S) ?_
      refine p_getIv k65_73 (s_1 S) f_11_187_3 rfl ?_
      refine p_ireturn k65_76 rt_65 ?_
      rcases hQ with ⟨q, R, h1, h2, h3, h4⟩ | ⟨q, h1, h2, h3⟩
      · exact Or.inr ⟨by omega, I3, hF, Or.inl ⟨q, R, h1, rfl, h3, h4, rfl⟩⟩
      · exact absurd (h2.symm.trans cq40) (nI_neg (by omega) (by decide))
    · skip
      refine p_bipush (v := (-10)) k65_43 (by decide) ?_
      refine p_iload_n k65_45 rfl ?_
      refine p_isub k65_46 ?_
      refine p_ireturn k65_47 rt_65 ?_
      rcases hQ with ⟨q, R, h1, h2, h3⟩ | ⟨q, h1, h2, h3⟩
      · exact absurd h2 cq40
      · exact Or.inr ⟨by omega, I3, hF, Or.inr ⟨q, h1, h3, by rw [h2], rfl⟩⟩
  · skip
    refine p_bipush (v := (-4)) k65_9 (by decide) ?_
    refine p_ireturn k65_11 rt_65 ?_
    exact Or.inl ⟨by omega, rfl, rfl⟩

