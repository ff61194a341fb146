/-! the class: deedOn, total, isEnough -/
theorem CUR.tr {I R R0 : Nat → Nat → Int32} {K : Nat → Nat → Option Nat} {h : List xSh} {b cb ce : Nat} (C : CUR I K h R0 b cb ce) (hR : ∀ c, 99 ≤ c → c < 119 → c ≠ 107 → R c = R0 c) : CUR I K h R b cb ce := by
  obtain ⟨h1, CL, h2, h3, h4, h5⟩ := C
  refine ⟨h1, CL, h2, h3, h4, fun i hi => ?_⟩
  have := h5 i hi
  unfold RClg at *
  rw [hR 112 (by decide) (by decide) (by decide), hR 113 (by decide) (by decide) (by decide), hR 114 (by decide) (by decide) (by decide), hR 115 (by decide) (by decide) (by decide), hR 116 (by decide) (by decide) (by decide), hR 117 (by decide) (by decide) (by decide)]
  exact this
theorem M39 (I : Nat → Nat → Int32) (g : Nat → Int32) {q : Nat} (hq : 153 ≤ q) : upc I 39 g q = I q := upc_ne _ _ (by omega)
set_option maxRecDepth 100000 in
set_option maxHeartbeats 4000000 in
theorem C_deedOn {d : Nat} {I : Nat → Nat → Int32} {J : Nat → Nat → Int64} {K : Nat → Nat → Option Nat} {h : List xSh} (S : St K h) {R0 R : Nat → Nat → Int32} {nh na dd cb ce tw : Nat} (C : CR I K h R0 na tw) (M : MI R0 nh na dd cb ce) (g : Nat → Int32) (hR : ∀ c, 99 ≤ c → c < 119 → c ≠ 107 → R c = R0 c) {a hh ah u : Nat} (ha : a < na) (hh6 : hh < nh) (hu0 : R0 107 a = nI u) (hu : R 107 a = nI (u + ah)) (hd : R 98 2 = nI (dd + ah)) (hb1 : u + ah < 20000) (hb2 : dd + ah < 20000) {x y : Nat} (hx : R0 104 a = nI x) (hx9 : x ≤ 9) (hy : R0 99 hh = nI y) (hy9 : y ≤ 9) : EvP (d + 5) 110 0 [(0, .ref (0)), (1, .int (nI (a))), (2, .int (nI (hh))), (3, .int (nI (ah)))] [] (upc I 39 g, J, K, h) (QI (fun z t => z = deedM R cb ce a hh ∧ ∃ g, t = (upc I 39 g, J, K, h))) := by
  have hnh6 := M.nh6
  have hna6 := M.na6
  have hn1 : upc I 39 g 1 0 = nI nh := C.heads.trans M.nh
  have hn2 : upc I 39 g 1 4 = nI na := C.hats.trans M.na
  have hxa : ixB (nI a) na = true := by rw [ixB_nI (by omega)]; exact decide_eq_true ha
  have hxh : ixB (nI hh) nh = true := by rw [ixB_nI (by omega)]; exact decide_eq_true hh6
  have hap : (if (0 : Int32) ≤ nI x - nI y then nI x - nI y else 0 - (nI x - nI y)) = apartI R a hh ∧ (apartI R a hh = 0 ↔ ¬ 0 < apartI R a hh) := by unfold apartI; rw [hR 104 (by decide) (by decide) (by decide), hR 99 (by decide) (by decide) (by decide), hx, hy]; exact apart_abs hx9 hy9
  obtain ⟨q, k, ⟨hKq, hq153⟩, ⟨hk7, hkR, hqs⟩, e0, e1, e2, e3, e4, e5⟩ := C.hat a ha
  have hdE : dC (([2, 6, 10, 0, 4, 1, 7] : List Nat).getD k 2) (R0 105 a + fitF R cb ce a hh) (apartI R a hh) (mothF R cb ce * nI (u + ah) / nI 4) (R0 108 (a * 4 + (dd + ah) % 4)) (R0 103 a) = deedM R cb ce a hh := by
    have z := dC_deed (R := R) (cb := cb) (ce := ce) (a := a) (hh := hh) (dd := dd + ah) hk7 hap.2
    rw [hR 105 (by decide) (by decide) (by decide), hR 108 (by decide) (by decide) (by decide), hR 103 (by decide) (by decide) (by decide), hu, Nat.mul_comm 4 a] at z
    unfold deedM
    rw [hd, hR 102 (by decide) (by decide) (by decide), hkR, nI_clamp (by omega), nI_clamp (by omega)]
    exact z
  rcases (show k = 0 ∨ k = 1 ∨ k = 2 ∨ k = 3 ∨ k = 4 ∨ k = 5 ∨ k = 6 by omega) with rfl | rfl | rfl | rfl | rfl | rfl | rfl
  · skip
    replace hqs : h[q]? = some (.inl 2) := hqs
    refine p_aload_n k110_0 rfl ?_
    refine p_getRv k110_1 (s_0 S) f_11_14_11 (r_0_0 S) ?_
    refine p_iload_n k110_4 rfl ?_
    refine p_cV1i k110_5 (s_1 S) c_11_151_3 rfl (Nat.le_of_ble_eq_true rfl) (C_isHat S hn2 hna6 (nI a)) (fun x1 m1 hq => ?_)
    obtain ⟨rfl, rfl⟩ := hq
    rw [hxa]
    refine p_if_eqB (tgt := 22) k110_8 (by decide) (fun c => False.elim (by cases c)) (fun _ => ?_)
    refine p_aload_n k110_11 rfl ?_
    refine p_getRv k110_12 (s_0 S) f_11_14_11 (r_0_0 S) ?_
    refine p_iload_n k110_15 rfl ?_
    refine p_cV1i k110_16 (s_1 S) c_11_173_3 rfl (Nat.le_of_ble_eq_true rfl) (C_isHead S hn1 hnh6 (nI hh)) (fun x1 m1 hq => ?_)
    obtain ⟨rfl, rfl⟩ := hq
    rw [hxh]
    refine p_if_neB (tgt := 24) k110_19 (by decide) (fun _ => ?_) (fun c => False.elim (by cases c))
    refine p_aload_n k110_24 rfl ?_
    refine p_getRv k110_25 (s_0 S) f_11_14_11 (r_0_0 S) ?_
    refine p_getRv k110_28 (s_1 S) f_11_111_3 (r_1_5 S) ?_
    refine p_iload_n k110_31 rfl ?_
    refine p_aaldNj k110_32 (s_5 S) xaty_2 (by omega) (by decide) (show K 5 a = some q from hKq) ?_
    refine p_astore (ls' := [(0, _), (1, _), (2, _), (3, _), (4, _)]) k110_33 rfl ?_
    refine p_aload_n k110_35 rfl ?_
    refine p_cV0r k110_36 (s_0 S) c_11_193_11 (Nat.le_of_ble_eq_true rfl) (C_holding S (C.up (by omega) g) M.th) (fun x1 m1 hq => ?_)
    obtain ⟨hCU, rfl⟩ := hq
    generalize x1 = b at hCU ⊢
    have hTS := hCU.1.1
    have hCU2 := hCU.tr hR
    refine p_astore (ls' := [(0, _), (1, _), (2, _), (3, _), (4, _), (5, _)]) k110_39 rfl ?_
    refine p_aload_n k110_41 rfl ?_
    refine p_getRv k110_42 (s_0 S) f_11_14_11 (r_0_0 S) ?_
    refine p_getRv k110_45 (s_1 S) f_11_122_3 (r_1_7 S) ?_
    refine p_iload_n k110_48 rfl ?_
    refine p_ialdN k110_49 (s_7 S) (by omega) (by decide) (show _ = nI u from (congrFun C.a7 a).trans hu0) ?_
    refine p_iload_n k110_50 rfl ?_
    refine p_iaddN k110_51 ?_
    refine p_istore (ls' := [(0, _), (1, _), (2, _), (3, _), (4, _), (5, _), (6, _)]) k110_52 rfl ?_
    refine p_aload_n k110_54 rfl ?_
    refine p_getRv k110_55 (s_0 S) f_11_14_11 (r_0_0 S) ?_
    refine p_getIv k110_58 (s_1 S) f_11_190_3 (show _ = nI dd from C.day.trans M.dd) ?_
    refine p_iload_n k110_61 rfl ?_
    refine p_iaddN k110_62 ?_
    refine p_istore (ls' := [(0, _), (1, _), (2, _), (3, _), (4, _), (5, _), (6, _), (7, _)]) k110_63 rfl ?_
    refine p_aload_n k110_65 rfl ?_
    refine p_getRv k110_66 (s_0 S) f_11_68_11 (r_0_10 S) ?_
    refine p_iconst (v := nI 0) k110_69 (by decide) ?_
    refine p_iload_n k110_70 rfl ?_
    refine p_iastN k110_71 (s_39 S) (by omega) (by decide) ?_
    rw [upc_uu, upc_eq]
    refine p_aload_n k110_72 rfl ?_
    refine p_getRv k110_73 (s_0 S) f_11_68_11 (r_0_10 S) ?_
    refine p_iconst (v := nI 1) k110_76 (by decide) ?_
    refine p_iload_n k110_77 rfl ?_
    refine p_iastN k110_78 (s_39 S) (by omega) (by decide) ?_
    rw [upc_uu, upc_eq]
    refine p_aload_n k110_79 rfl ?_
    refine p_getRv k110_80 (s_0 S) f_11_68_11 (r_0_10 S) ?_
    refine p_iconst (v := nI 2) k110_83 (by decide) ?_
    refine p_aload k110_84 rfl ?_
    refine p_getIv k110_86 hqs f_11_154_2 (show _ = nI 0 from (congrFun (M39 I _ hq153) 0).trans e0) ?_
    refine p_iastN k110_89 (s_39 S) (by omega) (by decide) ?_
    rw [upc_uu, upc_eq]
    refine p_aload_n k110_90 rfl ?_
    refine p_getRv k110_91 (s_0 S) f_11_68_11 (r_0_10 S) ?_
    refine p_iconst (v := nI 3) k110_94 (by decide) ?_
    refine p_aload k110_95 rfl ?_
    refine p_getIv k110_97 hqs f_11_163_2 (show _ = R0 106 a from (congrFun (M39 I _ hq153) 4).trans e4) ?_
    refine p_iastN k110_100 (s_39 S) (by omega) (by decide) ?_
    rw [upc_uu, upc_eq]
    refine p_aload_n k110_101 rfl ?_
    refine p_getRv k110_102 (s_0 S) f_11_68_11 (r_0_10 S) ?_
    refine p_iconst (v := nI 4) k110_105 (by decide) ?_
    refine p_iload k110_106 rfl ?_
    refine p_bipush (v := nI 10) k110_108 (by decide) ?_
    refine p_irem k110_110 (by decide) ?_
    refine p_iastN k110_111 (s_39 S) (by omega) (by decide) ?_
    rw [upc_uu, upc_eq]
    refine p_aload_n k110_112 rfl ?_
    refine p_getRv k110_113 (s_0 S) f_11_68_11 (r_0_10 S) ?_
    refine p_iconst (v := nI 5) k110_116 (by decide) ?_
    refine p_iload k110_117 rfl ?_
    refine p_bipush (v := nI 7) k110_119 (by decide) ?_
    refine p_irem k110_121 (by decide) ?_
    refine p_iastN k110_122 (s_39 S) (by omega) (by decide) ?_
    rw [upc_uu, upc_eq]
    generalize hG9 : upc (upc (upc (upc (upc (upc g 0 (nI a)) 1 (nI hh)) 2 (nI 0)) 3 (R0 106 a)) 4 _) 5 _ = G9
    have hFAC : FAC (upc I 39 G9) (facM R a hh) := by
      intro j hj
      show G9 j = _
      rw [← hG9]
      rcases (show j = 0 ∨ j = 1 ∨ j = 2 ∨ j = 3 ∨ j = 4 ∨ j = 5 by omega) with rfl | rfl | rfl | rfl | rfl | rfl
      · rfl
      · rfl
      · show nI 0 = R 102 a; rw [hR 102 (by decide) (by decide) (by decide), hkR]
      · show R0 106 a = R 106 a; rw [hR 106 (by decide) (by decide) (by decide)]
      · show _ = remI (R 107 a) (nI 10); rw [hu]; rfl
      · show _ = remI (R 98 2) (nI 7); rw [hd]; rfl
    refine p_aload k110_123 rfl ?_
    refine p_getIv k110_125 hqs f_11_160_2 (show _ = nI x from (congrFun (M39 I _ hq153) 3).trans (e3.trans hx)) ?_
    refine p_aload_n k110_128 rfl ?_
    refine p_getRv k110_129 (s_0 S) f_11_14_11 (r_0_0 S) ?_
    refine p_getRv k110_132 (s_1 S) f_11_92_3 (r_1_1 S) ?_
    refine p_iload_n k110_135 rfl ?_
    refine p_ialdN k110_136 (s_2 S) (by omega) (by decide) (show _ = nI y from (congrFun C.a2 hh).trans hy) ?_
    refine p_isub k110_137 ?_
    refine p_abs k110_138 (by decide) (Nat.le_of_ble_eq_true rfl) ?_
    refine p_toI (z := (apartI R a hh)) hap.1 ?_
    refine p_istore (ls' := [(0, _), (1, _), (2, _), (3, _), (4, _), (5, _), (6, _), (7, _), (8, _)]) k110_141 rfl ?_
    refine p_aload k110_143 rfl ?_
    refine p_cV0i k110_145 hTS.1.1 c_11_197_8 (Nat.le_of_ble_eq_true rfl) (C_moth S (I := upc I 39 _) (by have z := hCU2.up (c := 39) (by omega) G9; rw [upc_uu] at z; exact z)) (fun x1 m1 hq => ?_)
    obtain ⟨rfl, rfl⟩ := hq
    refine p_iload k110_148 rfl ?_
    refine p_imul k110_150 ?_
    refine p_iconst (v := nI 4) k110_151 (by decide) ?_
    refine p_idiv k110_152 (by decide) ?_
    refine p_istore (ls' := [(0, _), (1, _), (2, _), (3, _), (4, _), (5, _), (6, _), (7, _), (8, _), (9, _)]) k110_153 rfl ?_
    refine p_aload_n k110_155 rfl ?_
    refine p_getRv k110_156 (s_0 S) f_11_14_11 (r_0_0 S) ?_
    refine p_getRv k110_159 (s_1 S) f_11_125_3 (r_1_8 S) ?_
    refine p_iload_n k110_162 rfl ?_
    refine p_iconst (v := nI 4) k110_163 (by decide) ?_
    refine p_imulN k110_164 ?_
    refine p_iload k110_165 rfl ?_
    refine p_iconst (v := nI 4) k110_167 (by decide) ?_
    refine p_iremN (by omega) (by omega) (by omega) k110_168 ?_
    refine p_iaddN k110_169 ?_
    refine p_ialdN k110_170 (s_8 S) (by omega) (by decide) (show _ = R0 108 (a * 4 + (dd + ah) % 4) from congrFun C.a8 _) ?_
    refine p_istore (ls' := [(0, _), (1, _), (2, _), (3, _), (4, _), (5, _), (6, _), (7, _), (8, _), (9, _), (10, _)]) k110_171 rfl ?_
    refine p_aload k110_173 rfl ?_
    refine p_aload_n k110_175 rfl ?_
    refine p_getRv k110_176 (s_0 S) f_11_14_11 (r_0_0 S) ?_
    refine p_getRv k110_179 (s_1 S) f_11_119_3 (r_1_6 S) ?_
    refine p_iload_n k110_182 rfl ?_
    refine p_ialdN k110_183 (s_6 S) (by omega) (by decide) (show _ = R0 105 a from congrFun C.a6 a) ?_
    refine p_aload k110_184 rfl ?_
    refine p_aload_n k110_186 rfl ?_
    refine p_getRv k110_187 (s_0 S) f_11_68_11 (r_0_10 S) ?_
    refine p_cV1i k110_190 hTS.1.1 c_11_339_8 rfl (Nat.le_of_ble_eq_true rfl) (C_fits S (I := upc I 39 _) (R := R) (b := b) (cb := cb) (ce := ce) (by have z := hCU2.up (c := 39) (by omega) G9; rw [upc_uu] at z; exact z) (a := a) (hh := hh) hFAC) (fun x1 m1 hq => ?_)
    obtain ⟨rfl, rfl⟩ := hq
    refine p_iadd k110_193 ?_
    refine p_iload k110_194 rfl ?_
    refine p_iload k110_196 rfl ?_
    refine p_iload k110_198 rfl ?_
    refine p_cV4i k110_200 hqs c_11_343_2 rfl rfl rfl rfl (Nat.le_of_ble_eq_true rfl) (C_deed7_2 S (I := upc I 39 G9) (v := R0 103 a) hqs (show _ = R0 103 a from (congrFun (M39 I _ hq153) 2).trans e2) _ _ _ _) (fun x1 m1 hq => ?_)
    obtain ⟨rfl, rfl⟩ := hq
    refine p_ireturn k110_203 rt_110 ?_
    exact ⟨hdE, _, rfl⟩
  · skip
    replace hqs : h[q]? = some (.inl 6) := hqs
    refine p_aload_n k110_0 rfl ?_
    refine p_getRv k110_1 (s_0 S) f_11_14_11 (r_0_0 S) ?_
    refine p_iload_n k110_4 rfl ?_
    refine p_cV1i k110_5 (s_1 S) c_11_151_3 rfl (Nat.le_of_ble_eq_true rfl) (C_isHat S hn2 hna6 (nI a)) (fun x1 m1 hq => ?_)
    obtain ⟨rfl, rfl⟩ := hq
    rw [hxa]
    refine p_if_eqB (tgt := 22) k110_8 (by decide) (fun c => False.elim (by cases c)) (fun _ => ?_)
    refine p_aload_n k110_11 rfl ?_
    refine p_getRv k110_12 (s_0 S) f_11_14_11 (r_0_0 S) ?_
    refine p_iload_n k110_15 rfl ?_
    refine p_cV1i k110_16 (s_1 S) c_11_173_3 rfl (Nat.le_of_ble_eq_true rfl) (C_isHead S hn1 hnh6 (nI hh)) (fun x1 m1 hq => ?_)
    obtain ⟨rfl, rfl⟩ := hq
    rw [hxh]
    refine p_if_neB (tgt := 24) k110_19 (by decide) (fun _ => ?_) (fun c => False.elim (by cases c))
    refine p_aload_n k110_24 rfl ?_
    refine p_getRv k110_25 (s_0 S) f_11_14_11 (r_0_0 S) ?_
    refine p_getRv k110_28 (s_1 S) f_11_111_3 (r_1_5 S) ?_
    refine p_iload_n k110_31 rfl ?_
    refine p_aaldNj k110_32 (s_5 S) xaty_2 (by omega) (by decide) (show K 5 a = some q from hKq) ?_
    refine p_astore (ls' := [(0, _), (1, _), (2, _), (3, _), (4, _)]) k110_33 rfl ?_
    refine p_aload_n k110_35 rfl ?_
    refine p_cV0r k110_36 (s_0 S) c_11_193_11 (Nat.le_of_ble_eq_true rfl) (C_holding S (C.up (by omega) g) M.th) (fun x1 m1 hq => ?_)
    obtain ⟨hCU, rfl⟩ := hq
    generalize x1 = b at hCU ⊢
    have hTS := hCU.1.1
    have hCU2 := hCU.tr hR
    refine p_astore (ls' := [(0, _), (1, _), (2, _), (3, _), (4, _), (5, _)]) k110_39 rfl ?_
    refine p_aload_n k110_41 rfl ?_
    refine p_getRv k110_42 (s_0 S) f_11_14_11 (r_0_0 S) ?_
    refine p_getRv k110_45 (s_1 S) f_11_122_3 (r_1_7 S) ?_
    refine p_iload_n k110_48 rfl ?_
    refine p_ialdN k110_49 (s_7 S) (by omega) (by decide) (show _ = nI u from (congrFun C.a7 a).trans hu0) ?_
    refine p_iload_n k110_50 rfl ?_
    refine p_iaddN k110_51 ?_
    refine p_istore (ls' := [(0, _), (1, _), (2, _), (3, _), (4, _), (5, _), (6, _)]) k110_52 rfl ?_
    refine p_aload_n k110_54 rfl ?_
    refine p_getRv k110_55 (s_0 S) f_11_14_11 (r_0_0 S) ?_
    refine p_getIv k110_58 (s_1 S) f_11_190_3 (show _ = nI dd from C.day.trans M.dd) ?_
    refine p_iload_n k110_61 rfl ?_
    refine p_iaddN k110_62 ?_
    refine p_istore (ls' := [(0, _), (1, _), (2, _), (3, _), (4, _), (5, _), (6, _), (7, _)]) k110_63 rfl ?_
    refine p_aload_n k110_65 rfl ?_
    refine p_getRv k110_66 (s_0 S) f_11_68_11 (r_0_10 S) ?_
    refine p_iconst (v := nI 0) k110_69 (by decide) ?_
    refine p_iload_n k110_70 rfl ?_
    refine p_iastN k110_71 (s_39 S) (by omega) (by decide) ?_
    rw [upc_uu, upc_eq]
    refine p_aload_n k110_72 rfl ?_
    refine p_getRv k110_73 (s_0 S) f_11_68_11 (r_0_10 S) ?_
    refine p_iconst (v := nI 1) k110_76 (by decide) ?_
    refine p_iload_n k110_77 rfl ?_
    refine p_iastN k110_78 (s_39 S) (by omega) (by decide) ?_
    rw [upc_uu, upc_eq]
    refine p_aload_n k110_79 rfl ?_
    refine p_getRv k110_80 (s_0 S) f_11_68_11 (r_0_10 S) ?_
    refine p_iconst (v := nI 2) k110_83 (by decide) ?_
    refine p_aload k110_84 rfl ?_
    refine p_getIv k110_86 hqs f_11_154_6 (show _ = nI 1 from (congrFun (M39 I _ hq153) 0).trans e0) ?_
    refine p_iastN k110_89 (s_39 S) (by omega) (by decide) ?_
    rw [upc_uu, upc_eq]
    refine p_aload_n k110_90 rfl ?_
    refine p_getRv k110_91 (s_0 S) f_11_68_11 (r_0_10 S) ?_
    refine p_iconst (v := nI 3) k110_94 (by decide) ?_
    refine p_aload k110_95 rfl ?_
    refine p_getIv k110_97 hqs f_11_163_6 (show _ = R0 106 a from (congrFun (M39 I _ hq153) 4).trans e4) ?_
    refine p_iastN k110_100 (s_39 S) (by omega) (by decide) ?_
    rw [upc_uu, upc_eq]
    refine p_aload_n k110_101 rfl ?_
    refine p_getRv k110_102 (s_0 S) f_11_68_11 (r_0_10 S) ?_
    refine p_iconst (v := nI 4) k110_105 (by decide) ?_
    refine p_iload k110_106 rfl ?_
    refine p_bipush (v := nI 10) k110_108 (by decide) ?_
    refine p_irem k110_110 (by decide) ?_
    refine p_iastN k110_111 (s_39 S) (by omega) (by decide) ?_
    rw [upc_uu, upc_eq]
    refine p_aload_n k110_112 rfl ?_
    refine p_getRv k110_113 (s_0 S) f_11_68_11 (r_0_10 S) ?_
    refine p_iconst (v := nI 5) k110_116 (by decide) ?_
    refine p_iload k110_117 rfl ?_
    refine p_bipush (v := nI 7) k110_119 (by decide) ?_
    refine p_irem k110_121 (by decide) ?_
    refine p_iastN k110_122 (s_39 S) (by omega) (by decide) ?_
    rw [upc_uu, upc_eq]
    generalize hG9 : upc (upc (upc (upc (upc (upc g 0 (nI a)) 1 (nI hh)) 2 (nI 1)) 3 (R0 106 a)) 4 _) 5 _ = G9
    have hFAC : FAC (upc I 39 G9) (facM R a hh) := by
      intro j hj
      show G9 j = _
      rw [← hG9]
      rcases (show j = 0 ∨ j = 1 ∨ j = 2 ∨ j = 3 ∨ j = 4 ∨ j = 5 by omega) with rfl | rfl | rfl | rfl | rfl | rfl
      · rfl
      · rfl
      · show nI 1 = R 102 a; rw [hR 102 (by decide) (by decide) (by decide), hkR]
      · show R0 106 a = R 106 a; rw [hR 106 (by decide) (by decide) (by decide)]
      · show _ = remI (R 107 a) (nI 10); rw [hu]; rfl
      · show _ = remI (R 98 2) (nI 7); rw [hd]; rfl
    refine p_aload k110_123 rfl ?_
    refine p_getIv k110_125 hqs f_11_160_6 (show _ = nI x from (congrFun (M39 I _ hq153) 3).trans (e3.trans hx)) ?_
    refine p_aload_n k110_128 rfl ?_
    refine p_getRv k110_129 (s_0 S) f_11_14_11 (r_0_0 S) ?_
    refine p_getRv k110_132 (s_1 S) f_11_92_3 (r_1_1 S) ?_
    refine p_iload_n k110_135 rfl ?_
    refine p_ialdN k110_136 (s_2 S) (by omega) (by decide) (show _ = nI y from (congrFun C.a2 hh).trans hy) ?_
    refine p_isub k110_137 ?_
    refine p_abs k110_138 (by decide) (Nat.le_of_ble_eq_true rfl) ?_
    refine p_toI (z := (apartI R a hh)) hap.1 ?_
    refine p_istore (ls' := [(0, _), (1, _), (2, _), (3, _), (4, _), (5, _), (6, _), (7, _), (8, _)]) k110_141 rfl ?_
    refine p_aload k110_143 rfl ?_
    refine p_cV0i k110_145 hTS.1.1 c_11_197_8 (Nat.le_of_ble_eq_true rfl) (C_moth S (I := upc I 39 _) (by have z := hCU2.up (c := 39) (by omega) G9; rw [upc_uu] at z; exact z)) (fun x1 m1 hq => ?_)
    obtain ⟨rfl, rfl⟩ := hq
    refine p_iload k110_148 rfl ?_
    refine p_imul k110_150 ?_
    refine p_iconst (v := nI 4) k110_151 (by decide) ?_
    refine p_idiv k110_152 (by decide) ?_
    refine p_istore (ls' := [(0, _), (1, _), (2, _), (3, _), (4, _), (5, _), (6, _), (7, _), (8, _), (9, _)]) k110_153 rfl ?_
    refine p_aload_n k110_155 rfl ?_
    refine p_getRv k110_156 (s_0 S) f_11_14_11 (r_0_0 S) ?_
    refine p_getRv k110_159 (s_1 S) f_11_125_3 (r_1_8 S) ?_
    refine p_iload_n k110_162 rfl ?_
    refine p_iconst (v := nI 4) k110_163 (by decide) ?_
    refine p_imulN k110_164 ?_
    refine p_iload k110_165 rfl ?_
    refine p_iconst (v := nI 4) k110_167 (by decide) ?_
    refine p_iremN (by omega) (by omega) (by omega) k110_168 ?_
    refine p_iaddN k110_169 ?_
    refine p_ialdN k110_170 (s_8 S) (by omega) (by decide) (show _ = R0 108 (a * 4 + (dd + ah) % 4) from congrFun C.a8 _) ?_
    refine p_istore (ls' := [(0, _), (1, _), (2, _), (3, _), (4, _), (5, _), (6, _), (7, _), (8, _), (9, _), (10, _)]) k110_171 rfl ?_
    refine p_aload k110_173 rfl ?_
    refine p_aload_n k110_175 rfl ?_
    refine p_getRv k110_176 (s_0 S) f_11_14_11 (r_0_0 S) ?_
    refine p_getRv k110_179 (s_1 S) f_11_119_3 (r_1_6 S) ?_
    refine p_iload_n k110_182 rfl ?_
    refine p_ialdN k110_183 (s_6 S) (by omega) (by decide) (show _ = R0 105 a from congrFun C.a6 a) ?_
    refine p_aload k110_184 rfl ?_
    refine p_aload_n k110_186 rfl ?_
    refine p_getRv k110_187 (s_0 S) f_11_68_11 (r_0_10 S) ?_
    refine p_cV1i k110_190 hTS.1.1 c_11_339_8 rfl (Nat.le_of_ble_eq_true rfl) (C_fits S (I := upc I 39 _) (R := R) (b := b) (cb := cb) (ce := ce) (by have z := hCU2.up (c := 39) (by omega) G9; rw [upc_uu] at z; exact z) (a := a) (hh := hh) hFAC) (fun x1 m1 hq => ?_)
    obtain ⟨rfl, rfl⟩ := hq
    refine p_iadd k110_193 ?_
    refine p_iload k110_194 rfl ?_
    refine p_iload k110_196 rfl ?_
    refine p_iload k110_198 rfl ?_
    refine p_cV4i k110_200 hqs c_11_343_6 rfl rfl rfl rfl (Nat.le_of_ble_eq_true rfl) (C_deed26_6 S (I := upc I 39 G9) (v := R0 103 a) hqs (show _ = R0 103 a from (congrFun (M39 I _ hq153) 2).trans e2) _ _ _ _) (fun x1 m1 hq => ?_)
    obtain ⟨rfl, rfl⟩ := hq
    refine p_ireturn k110_203 rt_110 ?_
    exact ⟨hdE, _, rfl⟩
  · skip
    replace hqs : h[q]? = some (.inl 10) := hqs
    refine p_aload_n k110_0 rfl ?_
    refine p_getRv k110_1 (s_0 S) f_11_14_11 (r_0_0 S) ?_
    refine p_iload_n k110_4 rfl ?_
    refine p_cV1i k110_5 (s_1 S) c_11_151_3 rfl (Nat.le_of_ble_eq_true rfl) (C_isHat S hn2 hna6 (nI a)) (fun x1 m1 hq => ?_)
    obtain ⟨rfl, rfl⟩ := hq
    rw [hxa]
    refine p_if_eqB (tgt := 22) k110_8 (by decide) (fun c => False.elim (by cases c)) (fun _ => ?_)
    refine p_aload_n k110_11 rfl ?_
    refine p_getRv k110_12 (s_0 S) f_11_14_11 (r_0_0 S) ?_
    refine p_iload_n k110_15 rfl ?_
    refine p_cV1i k110_16 (s_1 S) c_11_173_3 rfl (Nat.le_of_ble_eq_true rfl) (C_isHead S hn1 hnh6 (nI hh)) (fun x1 m1 hq => ?_)
    obtain ⟨rfl, rfl⟩ := hq
    rw [hxh]
    refine p_if_neB (tgt := 24) k110_19 (by decide) (fun _ => ?_) (fun c => False.elim (by cases c))
    refine p_aload_n k110_24 rfl ?_
    refine p_getRv k110_25 (s_0 S) f_11_14_11 (r_0_0 S) ?_
    refine p_getRv k110_28 (s_1 S) f_11_111_3 (r_1_5 S) ?_
    refine p_iload_n k110_31 rfl ?_
    refine p_aaldNj k110_32 (s_5 S) xaty_2 (by omega) (by decide) (show K 5 a = some q from hKq) ?_
    refine p_astore (ls' := [(0, _), (1, _), (2, _), (3, _), (4, _)]) k110_33 rfl ?_
    refine p_aload_n k110_35 rfl ?_
    refine p_cV0r k110_36 (s_0 S) c_11_193_11 (Nat.le_of_ble_eq_true rfl) (C_holding S (C.up (by omega) g) M.th) (fun x1 m1 hq => ?_)
    obtain ⟨hCU, rfl⟩ := hq
    generalize x1 = b at hCU ⊢
    have hTS := hCU.1.1
    have hCU2 := hCU.tr hR
    refine p_astore (ls' := [(0, _), (1, _), (2, _), (3, _), (4, _), (5, _)]) k110_39 rfl ?_
    refine p_aload_n k110_41 rfl ?_
    refine p_getRv k110_42 (s_0 S) f_11_14_11 (r_0_0 S) ?_
    refine p_getRv k110_45 (s_1 S) f_11_122_3 (r_1_7 S) ?_
    refine p_iload_n k110_48 rfl ?_
    refine p_ialdN k110_49 (s_7 S) (by omega) (by decide) (show _ = nI u from (congrFun C.a7 a).trans hu0) ?_
    refine p_iload_n k110_50 rfl ?_
    refine p_iaddN k110_51 ?_
    refine p_istore (ls' := [(0, _), (1, _), (2, _), (3, _), (4, _), (5, _), (6, _)]) k110_52 rfl ?_
    refine p_aload_n k110_54 rfl ?_
    refine p_getRv k110_55 (s_0 S) f_11_14_11 (r_0_0 S) ?_
    refine p_getIv k110_58 (s_1 S) f_11_190_3 (show _ = nI dd from C.day.trans M.dd) ?_
    refine p_iload_n k110_61 rfl ?_
    refine p_iaddN k110_62 ?_
    refine p_istore (ls' := [(0, _), (1, _), (2, _), (3, _), (4, _), (5, _), (6, _), (7, _)]) k110_63 rfl ?_
    refine p_aload_n k110_65 rfl ?_
    refine p_getRv k110_66 (s_0 S) f_11_68_11 (r_0_10 S) ?_
    refine p_iconst (v := nI 0) k110_69 (by decide) ?_
    refine p_iload_n k110_70 rfl ?_
    refine p_iastN k110_71 (s_39 S) (by omega) (by decide) ?_
    rw [upc_uu, upc_eq]
    refine p_aload_n k110_72 rfl ?_
    refine p_getRv k110_73 (s_0 S) f_11_68_11 (r_0_10 S) ?_
    refine p_iconst (v := nI 1) k110_76 (by decide) ?_
    refine p_iload_n k110_77 rfl ?_
    refine p_iastN k110_78 (s_39 S) (by omega) (by decide) ?_
    rw [upc_uu, upc_eq]
    refine p_aload_n k110_79 rfl ?_
    refine p_getRv k110_80 (s_0 S) f_11_68_11 (r_0_10 S) ?_
    refine p_iconst (v := nI 2) k110_83 (by decide) ?_
    refine p_aload k110_84 rfl ?_
    refine p_getIv k110_86 hqs f_11_154_10 (show _ = nI 2 from (congrFun (M39 I _ hq153) 0).trans e0) ?_
    refine p_iastN k110_89 (s_39 S) (by omega) (by decide) ?_
    rw [upc_uu, upc_eq]
    refine p_aload_n k110_90 rfl ?_
    refine p_getRv k110_91 (s_0 S) f_11_68_11 (r_0_10 S) ?_
    refine p_iconst (v := nI 3) k110_94 (by decide) ?_
    refine p_aload k110_95 rfl ?_
    refine p_getIv k110_97 hqs f_11_163_10 (show _ = R0 106 a from (congrFun (M39 I _ hq153) 4).trans e4) ?_
    refine p_iastN k110_100 (s_39 S) (by omega) (by decide) ?_
    rw [upc_uu, upc_eq]
    refine p_aload_n k110_101 rfl ?_
    refine p_getRv k110_102 (s_0 S) f_11_68_11 (r_0_10 S) ?_
    refine p_iconst (v := nI 4) k110_105 (by decide) ?_
    refine p_iload k110_106 rfl ?_
    refine p_bipush (v := nI 10) k110_108 (by decide) ?_
    refine p_irem k110_110 (by decide) ?_
    refine p_iastN k110_111 (s_39 S) (by omega) (by decide) ?_
    rw [upc_uu, upc_eq]
    refine p_aload_n k110_112 rfl ?_
    refine p_getRv k110_113 (s_0 S) f_11_68_11 (r_0_10 S) ?_
    refine p_iconst (v := nI 5) k110_116 (by decide) ?_
    refine p_iload k110_117 rfl ?_
    refine p_bipush (v := nI 7) k110_119 (by decide) ?_
    refine p_irem k110_121 (by decide) ?_
    refine p_iastN k110_122 (s_39 S) (by omega) (by decide) ?_
    rw [upc_uu, upc_eq]
    generalize hG9 : upc (upc (upc (upc (upc (upc g 0 (nI a)) 1 (nI hh)) 2 (nI 2)) 3 (R0 106 a)) 4 _) 5 _ = G9
    have hFAC : FAC (upc I 39 G9) (facM R a hh) := by
      intro j hj
      show G9 j = _
      rw [← hG9]
      rcases (show j = 0 ∨ j = 1 ∨ j = 2 ∨ j = 3 ∨ j = 4 ∨ j = 5 by omega) with rfl | rfl | rfl | rfl | rfl | rfl
      · rfl
      · rfl
      · show nI 2 = R 102 a; rw [hR 102 (by decide) (by decide) (by decide), hkR]
      · show R0 106 a = R 106 a; rw [hR 106 (by decide) (by decide) (by decide)]
      · show _ = remI (R 107 a) (nI 10); rw [hu]; rfl
      · show _ = remI (R 98 2) (nI 7); rw [hd]; rfl
    refine p_aload k110_123 rfl ?_
    refine p_getIv k110_125 hqs f_11_160_10 (show _ = nI x from (congrFun (M39 I _ hq153) 3).trans (e3.trans hx)) ?_
    refine p_aload_n k110_128 rfl ?_
    refine p_getRv k110_129 (s_0 S) f_11_14_11 (r_0_0 S) ?_
    refine p_getRv k110_132 (s_1 S) f_11_92_3 (r_1_1 S) ?_
    refine p_iload_n k110_135 rfl ?_
    refine p_ialdN k110_136 (s_2 S) (by omega) (by decide) (show _ = nI y from (congrFun C.a2 hh).trans hy) ?_
    refine p_isub k110_137 ?_
    refine p_abs k110_138 (by decide) (Nat.le_of_ble_eq_true rfl) ?_
    refine p_toI (z := (apartI R a hh)) hap.1 ?_
    refine p_istore (ls' := [(0, _), (1, _), (2, _), (3, _), (4, _), (5, _), (6, _), (7, _), (8, _)]) k110_141 rfl ?_
    refine p_aload k110_143 rfl ?_
    refine p_cV0i k110_145 hTS.1.1 c_11_197_8 (Nat.le_of_ble_eq_true rfl) (C_moth S (I := upc I 39 _) (by have z := hCU2.up (c := 39) (by omega) G9; rw [upc_uu] at z; exact z)) (fun x1 m1 hq => ?_)
    obtain ⟨rfl, rfl⟩ := hq
    refine p_iload k110_148 rfl ?_
    refine p_imul k110_150 ?_
    refine p_iconst (v := nI 4) k110_151 (by decide) ?_
    refine p_idiv k110_152 (by decide) ?_
    refine p_istore (ls' := [(0, _), (1, _), (2, _), (3, _), (4, _), (5, _), (6, _), (7, _), (8, _), (9, _)]) k110_153 rfl ?_
    refine p_aload_n k110_155 rfl ?_
    refine p_getRv k110_156 (s_0 S) f_11_14_11 (r_0_0 S) ?_
    refine p_getRv k110_159 (s_1 S) f_11_125_3 (r_1_8 S) ?_
    refine p_iload_n k110_162 rfl ?_
    refine p_iconst (v := nI 4) k110_163 (by decide) ?_
    refine p_imulN k110_164 ?_
    refine p_iload k110_165 rfl ?_
    refine p_iconst (v := nI 4) k110_167 (by decide) ?_
    refine p_iremN (by omega) (by omega) (by omega) k110_168 ?_
    refine p_iaddN k110_169 ?_
    refine p_ialdN k110_170 (s_8 S) (by omega) (by decide) (show _ = R0 108 (a * 4 + (dd + ah) % 4) from congrFun C.a8 _) ?_
    refine p_istore (ls' := [(0, _), (1, _), (2, _), (3, _), (4, _), (5, _), (6, _), (7, _), (8, _), (9, _), (10, _)]) k110_171 rfl ?_
    refine p_aload k110_173 rfl ?_
    refine p_aload_n k110_175 rfl ?_
    refine p_getRv k110_176 (s_0 S) f_11_14_11 (r_0_0 S) ?_
    refine p_getRv k110_179 (s_1 S) f_11_119_3 (r_1_6 S) ?_
    refine p_iload_n k110_182 rfl ?_
    refine p_ialdN k110_183 (s_6 S) (by omega) (by decide) (show _ = R0 105 a from congrFun C.a6 a) ?_
    refine p_aload k110_184 rfl ?_
    refine p_aload_n k110_186 rfl ?_
    refine p_getRv k110_187 (s_0 S) f_11_68_11 (r_0_10 S) ?_
    refine p_cV1i k110_190 hTS.1.1 c_11_339_8 rfl (Nat.le_of_ble_eq_true rfl) (C_fits S (I := upc I 39 _) (R := R) (b := b) (cb := cb) (ce := ce) (by have z := hCU2.up (c := 39) (by omega) G9; rw [upc_uu] at z; exact z) (a := a) (hh := hh) hFAC) (fun x1 m1 hq => ?_)
    obtain ⟨rfl, rfl⟩ := hq
    refine p_iadd k110_193 ?_
    refine p_iload k110_194 rfl ?_
    refine p_iload k110_196 rfl ?_
    refine p_iload k110_198 rfl ?_
    refine p_cV4i k110_200 hqs c_11_343_10 rfl rfl rfl rfl (Nat.le_of_ble_eq_true rfl) (C_deed52_10 S (I := upc I 39 G9) (v := R0 103 a) hqs (show _ = R0 103 a from (congrFun (M39 I _ hq153) 2).trans e2) _ _ _ _) (fun x1 m1 hq => ?_)
    obtain ⟨rfl, rfl⟩ := hq
    refine p_ireturn k110_203 rt_110 ?_
    exact ⟨hdE, _, rfl⟩
  · skip
    replace hqs : h[q]? = some (.inl 0) := hqs
    refine p_aload_n k110_0 rfl ?_
    refine p_getRv k110_1 (s_0 S) f_11_14_11 (r_0_0 S) ?_
    refine p_iload_n k110_4 rfl ?_
    refine p_cV1i k110_5 (s_1 S) c_11_151_3 rfl (Nat.le_of_ble_eq_true rfl) (C_isHat S hn2 hna6 (nI a)) (fun x1 m1 hq => ?_)
    obtain ⟨rfl, rfl⟩ := hq
    rw [hxa]
    refine p_if_eqB (tgt := 22) k110_8 (by decide) (fun c => False.elim (by cases c)) (fun _ => ?_)
    refine p_aload_n k110_11 rfl ?_
    refine p_getRv k110_12 (s_0 S) f_11_14_11 (r_0_0 S) ?_
    refine p_iload_n k110_15 rfl ?_
    refine p_cV1i k110_16 (s_1 S) c_11_173_3 rfl (Nat.le_of_ble_eq_true rfl) (C_isHead S hn1 hnh6 (nI hh)) (fun x1 m1 hq => ?_)
    obtain ⟨rfl, rfl⟩ := hq
    rw [hxh]
    refine p_if_neB (tgt := 24) k110_19 (by decide) (fun _ => ?_) (fun c => False.elim (by cases c))
    refine p_aload_n k110_24 rfl ?_
    refine p_getRv k110_25 (s_0 S) f_11_14_11 (r_0_0 S) ?_
    refine p_getRv k110_28 (s_1 S) f_11_111_3 (r_1_5 S) ?_
    refine p_iload_n k110_31 rfl ?_
    refine p_aaldNj k110_32 (s_5 S) xaty_2 (by omega) (by decide) (show K 5 a = some q from hKq) ?_
    refine p_astore (ls' := [(0, _), (1, _), (2, _), (3, _), (4, _)]) k110_33 rfl ?_
    refine p_aload_n k110_35 rfl ?_
    refine p_cV0r k110_36 (s_0 S) c_11_193_11 (Nat.le_of_ble_eq_true rfl) (C_holding S (C.up (by omega) g) M.th) (fun x1 m1 hq => ?_)
    obtain ⟨hCU, rfl⟩ := hq
    generalize x1 = b at hCU ⊢
    have hTS := hCU.1.1
    have hCU2 := hCU.tr hR
    refine p_astore (ls' := [(0, _), (1, _), (2, _), (3, _), (4, _), (5, _)]) k110_39 rfl ?_
    refine p_aload_n k110_41 rfl ?_
    refine p_getRv k110_42 (s_0 S) f_11_14_11 (r_0_0 S) ?_
    refine p_getRv k110_45 (s_1 S) f_11_122_3 (r_1_7 S) ?_
    refine p_iload_n k110_48 rfl ?_
    refine p_ialdN k110_49 (s_7 S) (by omega) (by decide) (show _ = nI u from (congrFun C.a7 a).trans hu0) ?_
    refine p_iload_n k110_50 rfl ?_
    refine p_iaddN k110_51 ?_
    refine p_istore (ls' := [(0, _), (1, _), (2, _), (3, _), (4, _), (5, _), (6, _)]) k110_52 rfl ?_
    refine p_aload_n k110_54 rfl ?_
    refine p_getRv k110_55 (s_0 S) f_11_14_11 (r_0_0 S) ?_
    refine p_getIv k110_58 (s_1 S) f_11_190_3 (show _ = nI dd from C.day.trans M.dd) ?_
    refine p_iload_n k110_61 rfl ?_
    refine p_iaddN k110_62 ?_
    refine p_istore (ls' := [(0, _), (1, _), (2, _), (3, _), (4, _), (5, _), (6, _), (7, _)]) k110_63 rfl ?_
    refine p_aload_n k110_65 rfl ?_
    refine p_getRv k110_66 (s_0 S) f_11_68_11 (r_0_10 S) ?_
    refine p_iconst (v := nI 0) k110_69 (by decide) ?_
    refine p_iload_n k110_70 rfl ?_
    refine p_iastN k110_71 (s_39 S) (by omega) (by decide) ?_
    rw [upc_uu, upc_eq]
    refine p_aload_n k110_72 rfl ?_
    refine p_getRv k110_73 (s_0 S) f_11_68_11 (r_0_10 S) ?_
    refine p_iconst (v := nI 1) k110_76 (by decide) ?_
    refine p_iload_n k110_77 rfl ?_
    refine p_iastN k110_78 (s_39 S) (by omega) (by decide) ?_
    rw [upc_uu, upc_eq]
    refine p_aload_n k110_79 rfl ?_
    refine p_getRv k110_80 (s_0 S) f_11_68_11 (r_0_10 S) ?_
    refine p_iconst (v := nI 2) k110_83 (by decide) ?_
    refine p_aload k110_84 rfl ?_
    refine p_getIv k110_86 hqs f_11_154_0 (show _ = nI 3 from (congrFun (M39 I _ hq153) 0).trans e0) ?_
    refine p_iastN k110_89 (s_39 S) (by omega) (by decide) ?_
    rw [upc_uu, upc_eq]
    refine p_aload_n k110_90 rfl ?_
    refine p_getRv k110_91 (s_0 S) f_11_68_11 (r_0_10 S) ?_
    refine p_iconst (v := nI 3) k110_94 (by decide) ?_
    refine p_aload k110_95 rfl ?_
    refine p_getIv k110_97 hqs f_11_163_0 (show _ = R0 106 a from (congrFun (M39 I _ hq153) 4).trans e4) ?_
    refine p_iastN k110_100 (s_39 S) (by omega) (by decide) ?_
    rw [upc_uu, upc_eq]
    refine p_aload_n k110_101 rfl ?_
    refine p_getRv k110_102 (s_0 S) f_11_68_11 (r_0_10 S) ?_
    refine p_iconst (v := nI 4) k110_105 (by decide) ?_
    refine p_iload k110_106 rfl ?_
    refine p_bipush (v := nI 10) k110_108 (by decide) ?_
    refine p_irem k110_110 (by decide) ?_
    refine p_iastN k110_111 (s_39 S) (by omega) (by decide) ?_
    rw [upc_uu, upc_eq]
    refine p_aload_n k110_112 rfl ?_
    refine p_getRv k110_113 (s_0 S) f_11_68_11 (r_0_10 S) ?_
    refine p_iconst (v := nI 5) k110_116 (by decide) ?_
    refine p_iload k110_117 rfl ?_
    refine p_bipush (v := nI 7) k110_119 (by decide) ?_
    refine p_irem k110_121 (by decide) ?_
    refine p_iastN k110_122 (s_39 S) (by omega) (by decide) ?_
    rw [upc_uu, upc_eq]
    generalize hG9 : upc (upc (upc (upc (upc (upc g 0 (nI a)) 1 (nI hh)) 2 (nI 3)) 3 (R0 106 a)) 4 _) 5 _ = G9
    have hFAC : FAC (upc I 39 G9) (facM R a hh) := by
      intro j hj
      show G9 j = _
      rw [← hG9]
      rcases (show j = 0 ∨ j = 1 ∨ j = 2 ∨ j = 3 ∨ j = 4 ∨ j = 5 by omega) with rfl | rfl | rfl | rfl | rfl | rfl
      · rfl
      · rfl
      · show nI 3 = R 102 a; rw [hR 102 (by decide) (by decide) (by decide), hkR]
      · show R0 106 a = R 106 a; rw [hR 106 (by decide) (by decide) (by decide)]
      · show _ = remI (R 107 a) (nI 10); rw [hu]; rfl
      · show _ = remI (R 98 2) (nI 7); rw [hd]; rfl
    refine p_aload k110_123 rfl ?_
    refine p_getIv k110_125 hqs f_11_160_0 (show _ = nI x from (congrFun (M39 I _ hq153) 3).trans (e3.trans hx)) ?_
    refine p_aload_n k110_128 rfl ?_
    refine p_getRv k110_129 (s_0 S) f_11_14_11 (r_0_0 S) ?_
    refine p_getRv k110_132 (s_1 S) f_11_92_3 (r_1_1 S) ?_
    refine p_iload_n k110_135 rfl ?_
    refine p_ialdN k110_136 (s_2 S) (by omega) (by decide) (show _ = nI y from (congrFun C.a2 hh).trans hy) ?_
    refine p_isub k110_137 ?_
    refine p_abs k110_138 (by decide) (Nat.le_of_ble_eq_true rfl) ?_
    refine p_toI (z := (apartI R a hh)) hap.1 ?_
    refine p_istore (ls' := [(0, _), (1, _), (2, _), (3, _), (4, _), (5, _), (6, _), (7, _), (8, _)]) k110_141 rfl ?_
    refine p_aload k110_143 rfl ?_
    refine p_cV0i k110_145 hTS.1.1 c_11_197_8 (Nat.le_of_ble_eq_true rfl) (C_moth S (I := upc I 39 _) (by have z := hCU2.up (c := 39) (by omega) G9; rw [upc_uu] at z; exact z)) (fun x1 m1 hq => ?_)
    obtain ⟨rfl, rfl⟩ := hq
    refine p_iload k110_148 rfl ?_
    refine p_imul k110_150 ?_
    refine p_iconst (v := nI 4) k110_151 (by decide) ?_
    refine p_idiv k110_152 (by decide) ?_
    refine p_istore (ls' := [(0, _), (1, _), (2, _), (3, _), (4, _), (5, _), (6, _), (7, _), (8, _), (9, _)]) k110_153 rfl ?_
    refine p_aload_n k110_155 rfl ?_
    refine p_getRv k110_156 (s_0 S) f_11_14_11 (r_0_0 S) ?_
    refine p_getRv k110_159 (s_1 S) f_11_125_3 (r_1_8 S) ?_
    refine p_iload_n k110_162 rfl ?_
    refine p_iconst (v := nI 4) k110_163 (by decide) ?_
    refine p_imulN k110_164 ?_
    refine p_iload k110_165 rfl ?_
    refine p_iconst (v := nI 4) k110_167 (by decide) ?_
    refine p_iremN (by omega) (by omega) (by omega) k110_168 ?_
    refine p_iaddN k110_169 ?_
    refine p_ialdN k110_170 (s_8 S) (by omega) (by decide) (show _ = R0 108 (a * 4 + (dd + ah) % 4) from congrFun C.a8 _) ?_
    refine p_istore (ls' := [(0, _), (1, _), (2, _), (3, _), (4, _), (5, _), (6, _), (7, _), (8, _), (9, _), (10, _)]) k110_171 rfl ?_
    refine p_aload k110_173 rfl ?_
    refine p_aload_n k110_175 rfl ?_
    refine p_getRv k110_176 (s_0 S) f_11_14_11 (r_0_0 S) ?_
    refine p_getRv k110_179 (s_1 S) f_11_119_3 (r_1_6 S) ?_
    refine p_iload_n k110_182 rfl ?_
    refine p_ialdN k110_183 (s_6 S) (by omega) (by decide) (show _ = R0 105 a from congrFun C.a6 a) ?_
    refine p_aload k110_184 rfl ?_
    refine p_aload_n k110_186 rfl ?_
    refine p_getRv k110_187 (s_0 S) f_11_68_11 (r_0_10 S) ?_
    refine p_cV1i k110_190 hTS.1.1 c_11_339_8 rfl (Nat.le_of_ble_eq_true rfl) (C_fits S (I := upc I 39 _) (R := R) (b := b) (cb := cb) (ce := ce) (by have z := hCU2.up (c := 39) (by omega) G9; rw [upc_uu] at z; exact z) (a := a) (hh := hh) hFAC) (fun x1 m1 hq => ?_)
    obtain ⟨rfl, rfl⟩ := hq
    refine p_iadd k110_193 ?_
    refine p_iload k110_194 rfl ?_
    refine p_iload k110_196 rfl ?_
    refine p_iload k110_198 rfl ?_
    refine p_cV4i k110_200 hqs c_11_343_0 rfl rfl rfl rfl (Nat.le_of_ble_eq_true rfl) (C_deed1_0 S (I := upc I 39 G9) (v := R0 103 a) hqs (show _ = R0 103 a from (congrFun (M39 I _ hq153) 2).trans e2) _ _ _ _) (fun x1 m1 hq => ?_)
    obtain ⟨rfl, rfl⟩ := hq
    refine p_ireturn k110_203 rt_110 ?_
    exact ⟨hdE, _, rfl⟩
  · skip
    replace hqs : h[q]? = some (.inl 4) := hqs
    refine p_aload_n k110_0 rfl ?_
    refine p_getRv k110_1 (s_0 S) f_11_14_11 (r_0_0 S) ?_
    refine p_iload_n k110_4 rfl ?_
    refine p_cV1i k110_5 (s_1 S) c_11_151_3 rfl (Nat.le_of_ble_eq_true rfl) (C_isHat S hn2 hna6 (nI a)) (fun x1 m1 hq => ?_)
    obtain ⟨rfl, rfl⟩ := hq
    rw [hxa]
    refine p_if_eqB (tgt := 22) k110_8 (by decide) (fun c => False.elim (by cases c)) (fun _ => ?_)
    refine p_aload_n k110_11 rfl ?_
    refine p_getRv k110_12 (s_0 S) f_11_14_11 (r_0_0 S) ?_
    refine p_iload_n k110_15 rfl ?_
    refine p_cV1i k110_16 (s_1 S) c_11_173_3 rfl (Nat.le_of_ble_eq_true rfl) (C_isHead S hn1 hnh6 (nI hh)) (fun x1 m1 hq => ?_)
    obtain ⟨rfl, rfl⟩ := hq
    rw [hxh]
    refine p_if_neB (tgt := 24) k110_19 (by decide) (fun _ => ?_) (fun c => False.elim (by cases c))
    refine p_aload_n k110_24 rfl ?_
    refine p_getRv k110_25 (s_0 S) f_11_14_11 (r_0_0 S) ?_
    refine p_getRv k110_28 (s_1 S) f_11_111_3 (r_1_5 S) ?_
    refine p_iload_n k110_31 rfl ?_
    refine p_aaldNj k110_32 (s_5 S) xaty_2 (by omega) (by decide) (show K 5 a = some q from hKq) ?_
    refine p_astore (ls' := [(0, _), (1, _), (2, _), (3, _), (4, _)]) k110_33 rfl ?_
    refine p_aload_n k110_35 rfl ?_
    refine p_cV0r k110_36 (s_0 S) c_11_193_11 (Nat.le_of_ble_eq_true rfl) (C_holding S (C.up (by omega) g) M.th) (fun x1 m1 hq => ?_)
    obtain ⟨hCU, rfl⟩ := hq
    generalize x1 = b at hCU ⊢
    have hTS := hCU.1.1
    have hCU2 := hCU.tr hR
    refine p_astore (ls' := [(0, _), (1, _), (2, _), (3, _), (4, _), (5, _)]) k110_39 rfl ?_
    refine p_aload_n k110_41 rfl ?_
    refine p_getRv k110_42 (s_0 S) f_11_14_11 (r_0_0 S) ?_
    refine p_getRv k110_45 (s_1 S) f_11_122_3 (r_1_7 S) ?_
    refine p_iload_n k110_48 rfl ?_
    refine p_ialdN k110_49 (s_7 S) (by omega) (by decide) (show _ = nI u from (congrFun C.a7 a).trans hu0) ?_
    refine p_iload_n k110_50 rfl ?_
    refine p_iaddN k110_51 ?_
    refine p_istore (ls' := [(0, _), (1, _), (2, _), (3, _), (4, _), (5, _), (6, _)]) k110_52 rfl ?_
    refine p_aload_n k110_54 rfl ?_
    refine p_getRv k110_55 (s_0 S) f_11_14_11 (r_0_0 S) ?_
    refine p_getIv k110_58 (s_1 S) f_11_190_3 (show _ = nI dd from C.day.trans M.dd) ?_
    refine p_iload_n k110_61 rfl ?_
    refine p_iaddN k110_62 ?_
    refine p_istore (ls' := [(0, _), (1, _), (2, _), (3, _), (4, _), (5, _), (6, _), (7, _)]) k110_63 rfl ?_
    refine p_aload_n k110_65 rfl ?_
    refine p_getRv k110_66 (s_0 S) f_11_68_11 (r_0_10 S) ?_
    refine p_iconst (v := nI 0) k110_69 (by decide) ?_
    refine p_iload_n k110_70 rfl ?_
    refine p_iastN k110_71 (s_39 S) (by omega) (by decide) ?_
    rw [upc_uu, upc_eq]
    refine p_aload_n k110_72 rfl ?_
    refine p_getRv k110_73 (s_0 S) f_11_68_11 (r_0_10 S) ?_
    refine p_iconst (v := nI 1) k110_76 (by decide) ?_
    refine p_iload_n k110_77 rfl ?_
    refine p_iastN k110_78 (s_39 S) (by omega) (by decide) ?_
    rw [upc_uu, upc_eq]
    refine p_aload_n k110_79 rfl ?_
    refine p_getRv k110_80 (s_0 S) f_11_68_11 (r_0_10 S) ?_
    refine p_iconst (v := nI 2) k110_83 (by decide) ?_
    refine p_aload k110_84 rfl ?_
    refine p_getIv k110_86 hqs f_11_154_4 (show _ = nI 4 from (congrFun (M39 I _ hq153) 0).trans e0) ?_
    refine p_iastN k110_89 (s_39 S) (by omega) (by decide) ?_
    rw [upc_uu, upc_eq]
    refine p_aload_n k110_90 rfl ?_
    refine p_getRv k110_91 (s_0 S) f_11_68_11 (r_0_10 S) ?_
    refine p_iconst (v := nI 3) k110_94 (by decide) ?_
    refine p_aload k110_95 rfl ?_
    refine p_getIv k110_97 hqs f_11_163_4 (show _ = R0 106 a from (congrFun (M39 I _ hq153) 4).trans e4) ?_
    refine p_iastN k110_100 (s_39 S) (by omega) (by decide) ?_
    rw [upc_uu, upc_eq]
    refine p_aload_n k110_101 rfl ?_
    refine p_getRv k110_102 (s_0 S) f_11_68_11 (r_0_10 S) ?_
    refine p_iconst (v := nI 4) k110_105 (by decide) ?_
    refine p_iload k110_106 rfl ?_
    refine p_bipush (v := nI 10) k110_108 (by decide) ?_
    refine p_irem k110_110 (by decide) ?_
    refine p_iastN k110_111 (s_39 S) (by omega) (by decide) ?_
    rw [upc_uu, upc_eq]
    refine p_aload_n k110_112 rfl ?_
    refine p_getRv k110_113 (s_0 S) f_11_68_11 (r_0_10 S) ?_
    refine p_iconst (v := nI 5) k110_116 (by decide) ?_
    refine p_iload k110_117 rfl ?_
    refine p_bipush (v := nI 7) k110_119 (by decide) ?_
    refine p_irem k110_121 (by decide) ?_
    refine p_iastN k110_122 (s_39 S) (by omega) (by decide) ?_
    rw [upc_uu, upc_eq]
    generalize hG9 : upc (upc (upc (upc (upc (upc g 0 (nI a)) 1 (nI hh)) 2 (nI 4)) 3 (R0 106 a)) 4 _) 5 _ = G9
    have hFAC : FAC (upc I 39 G9) (facM R a hh) := by
      intro j hj
      show G9 j = _
      rw [← hG9]
      rcases (show j = 0 ∨ j = 1 ∨ j = 2 ∨ j = 3 ∨ j = 4 ∨ j = 5 by omega) with rfl | rfl | rfl | rfl | rfl | rfl
      · rfl
      · rfl
      · show nI 4 = R 102 a; rw [hR 102 (by decide) (by decide) (by decide), hkR]
      · show R0 106 a = R 106 a; rw [hR 106 (by decide) (by decide) (by decide)]
      · show _ = remI (R 107 a) (nI 10); rw [hu]; rfl
      · show _ = remI (R 98 2) (nI 7); rw [hd]; rfl
    refine p_aload k110_123 rfl ?_
    refine p_getIv k110_125 hqs f_11_160_4 (show _ = nI x from (congrFun (M39 I _ hq153) 3).trans (e3.trans hx)) ?_
    refine p_aload_n k110_128 rfl ?_
    refine p_getRv k110_129 (s_0 S) f_11_14_11 (r_0_0 S) ?_
    refine p_getRv k110_132 (s_1 S) f_11_92_3 (r_1_1 S) ?_
    refine p_iload_n k110_135 rfl ?_
    refine p_ialdN k110_136 (s_2 S) (by omega) (by decide) (show _ = nI y from (congrFun C.a2 hh).trans hy) ?_
    refine p_isub k110_137 ?_
    refine p_abs k110_138 (by decide) (Nat.le_of_ble_eq_true rfl) ?_
    refine p_toI (z := (apartI R a hh)) hap.1 ?_
    refine p_istore (ls' := [(0, _), (1, _), (2, _), (3, _), (4, _), (5, _), (6, _), (7, _), (8, _)]) k110_141 rfl ?_
    refine p_aload k110_143 rfl ?_
    refine p_cV0i k110_145 hTS.1.1 c_11_197_8 (Nat.le_of_ble_eq_true rfl) (C_moth S (I := upc I 39 _) (by have z := hCU2.up (c := 39) (by omega) G9; rw [upc_uu] at z; exact z)) (fun x1 m1 hq => ?_)
    obtain ⟨rfl, rfl⟩ := hq
    refine p_iload k110_148 rfl ?_
    refine p_imul k110_150 ?_
    refine p_iconst (v := nI 4) k110_151 (by decide) ?_
    refine p_idiv k110_152 (by decide) ?_
    refine p_istore (ls' := [(0, _), (1, _), (2, _), (3, _), (4, _), (5, _), (6, _), (7, _), (8, _), (9, _)]) k110_153 rfl ?_
    refine p_aload_n k110_155 rfl ?_
    refine p_getRv k110_156 (s_0 S) f_11_14_11 (r_0_0 S) ?_
    refine p_getRv k110_159 (s_1 S) f_11_125_3 (r_1_8 S) ?_
    refine p_iload_n k110_162 rfl ?_
    refine p_iconst (v := nI 4) k110_163 (by decide) ?_
    refine p_imulN k110_164 ?_
    refine p_iload k110_165 rfl ?_
    refine p_iconst (v := nI 4) k110_167 (by decide) ?_
    refine p_iremN (by omega) (by omega) (by omega) k110_168 ?_
    refine p_iaddN k110_169 ?_
    refine p_ialdN k110_170 (s_8 S) (by omega) (by decide) (show _ = R0 108 (a * 4 + (dd + ah) % 4) from congrFun C.a8 _) ?_
    refine p_istore (ls' := [(0, _), (1, _), (2, _), (3, _), (4, _), (5, _), (6, _), (7, _), (8, _), (9, _), (10, _)]) k110_171 rfl ?_
    refine p_aload k110_173 rfl ?_
    refine p_aload_n k110_175 rfl ?_
    refine p_getRv k110_176 (s_0 S) f_11_14_11 (r_0_0 S) ?_
    refine p_getRv k110_179 (s_1 S) f_11_119_3 (r_1_6 S) ?_
    refine p_iload_n k110_182 rfl ?_
    refine p_ialdN k110_183 (s_6 S) (by omega) (by decide) (show _ = R0 105 a from congrFun C.a6 a) ?_
    refine p_aload k110_184 rfl ?_
    refine p_aload_n k110_186 rfl ?_
    refine p_getRv k110_187 (s_0 S) f_11_68_11 (r_0_10 S) ?_
    refine p_cV1i k110_190 hTS.1.1 c_11_339_8 rfl (Nat.le_of_ble_eq_true rfl) (C_fits S (I := upc I 39 _) (R := R) (b := b) (cb := cb) (ce := ce) (by have z := hCU2.up (c := 39) (by omega) G9; rw [upc_uu] at z; exact z) (a := a) (hh := hh) hFAC) (fun x1 m1 hq => ?_)
    obtain ⟨rfl, rfl⟩ := hq
    refine p_iadd k110_193 ?_
    refine p_iload k110_194 rfl ?_
    refine p_iload k110_196 rfl ?_
    refine p_iload k110_198 rfl ?_
    refine p_cV4i k110_200 hqs c_11_343_4 rfl rfl rfl rfl (Nat.le_of_ble_eq_true rfl) (C_deed18_4 S (I := upc I 39 G9) (v := R0 103 a) hqs (show _ = R0 103 a from (congrFun (M39 I _ hq153) 2).trans e2) _ _ _ _) (fun x1 m1 hq => ?_)
    obtain ⟨rfl, rfl⟩ := hq
    refine p_ireturn k110_203 rt_110 ?_
    exact ⟨hdE, _, rfl⟩
  · skip
    replace hqs : h[q]? = some (.inl 1) := hqs
    refine p_aload_n k110_0 rfl ?_
    refine p_getRv k110_1 (s_0 S) f_11_14_11 (r_0_0 S) ?_
    refine p_iload_n k110_4 rfl ?_
    refine p_cV1i k110_5 (s_1 S) c_11_151_3 rfl (Nat.le_of_ble_eq_true rfl) (C_isHat S hn2 hna6 (nI a)) (fun x1 m1 hq => ?_)
    obtain ⟨rfl, rfl⟩ := hq
    rw [hxa]
    refine p_if_eqB (tgt := 22) k110_8 (by decide) (fun c => False.elim (by cases c)) (fun _ => ?_)
    refine p_aload_n k110_11 rfl ?_
    refine p_getRv k110_12 (s_0 S) f_11_14_11 (r_0_0 S) ?_
    refine p_iload_n k110_15 rfl ?_
    refine p_cV1i k110_16 (s_1 S) c_11_173_3 rfl (Nat.le_of_ble_eq_true rfl) (C_isHead S hn1 hnh6 (nI hh)) (fun x1 m1 hq => ?_)
    obtain ⟨rfl, rfl⟩ := hq
    rw [hxh]
    refine p_if_neB (tgt := 24) k110_19 (by decide) (fun _ => ?_) (fun c => False.elim (by cases c))
    refine p_aload_n k110_24 rfl ?_
    refine p_getRv k110_25 (s_0 S) f_11_14_11 (r_0_0 S) ?_
    refine p_getRv k110_28 (s_1 S) f_11_111_3 (r_1_5 S) ?_
    refine p_iload_n k110_31 rfl ?_
    refine p_aaldNj k110_32 (s_5 S) xaty_2 (by omega) (by decide) (show K 5 a = some q from hKq) ?_
    refine p_astore (ls' := [(0, _), (1, _), (2, _), (3, _), (4, _)]) k110_33 rfl ?_
    refine p_aload_n k110_35 rfl ?_
    refine p_cV0r k110_36 (s_0 S) c_11_193_11 (Nat.le_of_ble_eq_true rfl) (C_holding S (C.up (by omega) g) M.th) (fun x1 m1 hq => ?_)
    obtain ⟨hCU, rfl⟩ := hq
    generalize x1 = b at hCU ⊢
    have hTS := hCU.1.1
    have hCU2 := hCU.tr hR
    refine p_astore (ls' := [(0, _), (1, _), (2, _), (3, _), (4, _), (5, _)]) k110_39 rfl ?_
    refine p_aload_n k110_41 rfl ?_
    refine p_getRv k110_42 (s_0 S) f_11_14_11 (r_0_0 S) ?_
    refine p_getRv k110_45 (s_1 S) f_11_122_3 (r_1_7 S) ?_
    refine p_iload_n k110_48 rfl ?_
    refine p_ialdN k110_49 (s_7 S) (by omega) (by decide) (show _ = nI u from (congrFun C.a7 a).trans hu0) ?_
    refine p_iload_n k110_50 rfl ?_
    refine p_iaddN k110_51 ?_
    refine p_istore (ls' := [(0, _), (1, _), (2, _), (3, _), (4, _), (5, _), (6, _)]) k110_52 rfl ?_
    refine p_aload_n k110_54 rfl ?_
    refine p_getRv k110_55 (s_0 S) f_11_14_11 (r_0_0 S) ?_
    refine p_getIv k110_58 (s_1 S) f_11_190_3 (show _ = nI dd from C.day.trans M.dd) ?_
    refine p_iload_n k110_61 rfl ?_
    refine p_iaddN k110_62 ?_
    refine p_istore (ls' := [(0, _), (1, _), (2, _), (3, _), (4, _), (5, _), (6, _), (7, _)]) k110_63 rfl ?_
    refine p_aload_n k110_65 rfl ?_
    refine p_getRv k110_66 (s_0 S) f_11_68_11 (r_0_10 S) ?_
    refine p_iconst (v := nI 0) k110_69 (by decide) ?_
    refine p_iload_n k110_70 rfl ?_
    refine p_iastN k110_71 (s_39 S) (by omega) (by decide) ?_
    rw [upc_uu, upc_eq]
    refine p_aload_n k110_72 rfl ?_
    refine p_getRv k110_73 (s_0 S) f_11_68_11 (r_0_10 S) ?_
    refine p_iconst (v := nI 1) k110_76 (by decide) ?_
    refine p_iload_n k110_77 rfl ?_
    refine p_iastN k110_78 (s_39 S) (by omega) (by decide) ?_
    rw [upc_uu, upc_eq]
    refine p_aload_n k110_79 rfl ?_
    refine p_getRv k110_80 (s_0 S) f_11_68_11 (r_0_10 S) ?_
    refine p_iconst (v := nI 2) k110_83 (by decide) ?_
    refine p_aload k110_84 rfl ?_
    refine p_getIv k110_86 hqs f_11_154_1 (show _ = nI 5 from (congrFun (M39 I _ hq153) 0).trans e0) ?_
    refine p_iastN k110_89 (s_39 S) (by omega) (by decide) ?_
    rw [upc_uu, upc_eq]
    refine p_aload_n k110_90 rfl ?_
    refine p_getRv k110_91 (s_0 S) f_11_68_11 (r_0_10 S) ?_
    refine p_iconst (v := nI 3) k110_94 (by decide) ?_
    refine p_aload k110_95 rfl ?_
    refine p_getIv k110_97 hqs f_11_163_1 (show _ = R0 106 a from (congrFun (M39 I _ hq153) 4).trans e4) ?_
    refine p_iastN k110_100 (s_39 S) (by omega) (by decide) ?_
    rw [upc_uu, upc_eq]
    refine p_aload_n k110_101 rfl ?_
    refine p_getRv k110_102 (s_0 S) f_11_68_11 (r_0_10 S) ?_
    refine p_iconst (v := nI 4) k110_105 (by decide) ?_
    refine p_iload k110_106 rfl ?_
    refine p_bipush (v := nI 10) k110_108 (by decide) ?_
    refine p_irem k110_110 (by decide) ?_
    refine p_iastN k110_111 (s_39 S) (by omega) (by decide) ?_
    rw [upc_uu, upc_eq]
    refine p_aload_n k110_112 rfl ?_
    refine p_getRv k110_113 (s_0 S) f_11_68_11 (r_0_10 S) ?_
    refine p_iconst (v := nI 5) k110_116 (by decide) ?_
    refine p_iload k110_117 rfl ?_
    refine p_bipush (v := nI 7) k110_119 (by decide) ?_
    refine p_irem k110_121 (by decide) ?_
    refine p_iastN k110_122 (s_39 S) (by omega) (by decide) ?_
    rw [upc_uu, upc_eq]
    generalize hG9 : upc (upc (upc (upc (upc (upc g 0 (nI a)) 1 (nI hh)) 2 (nI 5)) 3 (R0 106 a)) 4 _) 5 _ = G9
    have hFAC : FAC (upc I 39 G9) (facM R a hh) := by
      intro j hj
      show G9 j = _
      rw [← hG9]
      rcases (show j = 0 ∨ j = 1 ∨ j = 2 ∨ j = 3 ∨ j = 4 ∨ j = 5 by omega) with rfl | rfl | rfl | rfl | rfl | rfl
      · rfl
      · rfl
      · show nI 5 = R 102 a; rw [hR 102 (by decide) (by decide) (by decide), hkR]
      · show R0 106 a = R 106 a; rw [hR 106 (by decide) (by decide) (by decide)]
      · show _ = remI (R 107 a) (nI 10); rw [hu]; rfl
      · show _ = remI (R 98 2) (nI 7); rw [hd]; rfl
    refine p_aload k110_123 rfl ?_
    refine p_getIv k110_125 hqs f_11_160_1 (show _ = nI x from (congrFun (M39 I _ hq153) 3).trans (e3.trans hx)) ?_
    refine p_aload_n k110_128 rfl ?_
    refine p_getRv k110_129 (s_0 S) f_11_14_11 (r_0_0 S) ?_
    refine p_getRv k110_132 (s_1 S) f_11_92_3 (r_1_1 S) ?_
    refine p_iload_n k110_135 rfl ?_
    refine p_ialdN k110_136 (s_2 S) (by omega) (by decide) (show _ = nI y from (congrFun C.a2 hh).trans hy) ?_
    refine p_isub k110_137 ?_
    refine p_abs k110_138 (by decide) (Nat.le_of_ble_eq_true rfl) ?_
    refine p_toI (z := (apartI R a hh)) hap.1 ?_
    refine p_istore (ls' := [(0, _), (1, _), (2, _), (3, _), (4, _), (5, _), (6, _), (7, _), (8, _)]) k110_141 rfl ?_
    refine p_aload k110_143 rfl ?_
    refine p_cV0i k110_145 hTS.1.1 c_11_197_8 (Nat.le_of_ble_eq_true rfl) (C_moth S (I := upc I 39 _) (by have z := hCU2.up (c := 39) (by omega) G9; rw [upc_uu] at z; exact z)) (fun x1 m1 hq => ?_)
    obtain ⟨rfl, rfl⟩ := hq
    refine p_iload k110_148 rfl ?_
    refine p_imul k110_150 ?_
    refine p_iconst (v := nI 4) k110_151 (by decide) ?_
    refine p_idiv k110_152 (by decide) ?_
    refine p_istore (ls' := [(0, _), (1, _), (2, _), (3, _), (4, _), (5, _), (6, _), (7, _), (8, _), (9, _)]) k110_153 rfl ?_
    refine p_aload_n k110_155 rfl ?_
    refine p_getRv k110_156 (s_0 S) f_11_14_11 (r_0_0 S) ?_
    refine p_getRv k110_159 (s_1 S) f_11_125_3 (r_1_8 S) ?_
    refine p_iload_n k110_162 rfl ?_
    refine p_iconst (v := nI 4) k110_163 (by decide) ?_
    refine p_imulN k110_164 ?_
    refine p_iload k110_165 rfl ?_
    refine p_iconst (v := nI 4) k110_167 (by decide) ?_
    refine p_iremN (by omega) (by omega) (by omega) k110_168 ?_
    refine p_iaddN k110_169 ?_
    refine p_ialdN k110_170 (s_8 S) (by omega) (by decide) (show _ = R0 108 (a * 4 + (dd + ah) % 4) from congrFun C.a8 _) ?_
    refine p_istore (ls' := [(0, _), (1, _), (2, _), (3, _), (4, _), (5, _), (6, _), (7, _), (8, _), (9, _), (10, _)]) k110_171 rfl ?_
    refine p_aload k110_173 rfl ?_
    refine p_aload_n k110_175 rfl ?_
    refine p_getRv k110_176 (s_0 S) f_11_14_11 (r_0_0 S) ?_
    refine p_getRv k110_179 (s_1 S) f_11_119_3 (r_1_6 S) ?_
    refine p_iload_n k110_182 rfl ?_
    refine p_ialdN k110_183 (s_6 S) (by omega) (by decide) (show _ = R0 105 a from congrFun C.a6 a) ?_
    refine p_aload k110_184 rfl ?_
    refine p_aload_n k110_186 rfl ?_
    refine p_getRv k110_187 (s_0 S) f_11_68_11 (r_0_10 S) ?_
    refine p_cV1i k110_190 hTS.1.1 c_11_339_8 rfl (Nat.le_of_ble_eq_true rfl) (C_fits S (I := upc I 39 _) (R := R) (b := b) (cb := cb) (ce := ce) (by have z := hCU2.up (c := 39) (by omega) G9; rw [upc_uu] at z; exact z) (a := a) (hh := hh) hFAC) (fun x1 m1 hq => ?_)
    obtain ⟨rfl, rfl⟩ := hq
    refine p_iadd k110_193 ?_
    refine p_iload k110_194 rfl ?_
    refine p_iload k110_196 rfl ?_
    refine p_iload k110_198 rfl ?_
    refine p_cV4i k110_200 hqs c_11_343_1 rfl rfl rfl rfl (Nat.le_of_ble_eq_true rfl) (C_deed4_1 S (I := upc I 39 G9) (v := R0 103 a) hqs (show _ = R0 103 a from (congrFun (M39 I _ hq153) 2).trans e2) _ _ _ _) (fun x1 m1 hq => ?_)
    obtain ⟨rfl, rfl⟩ := hq
    refine p_ireturn k110_203 rt_110 ?_
    exact ⟨hdE, _, rfl⟩
  · skip
    replace hqs : h[q]? = some (.inl 7) := hqs
    refine p_aload_n k110_0 rfl ?_
    refine p_getRv k110_1 (s_0 S) f_11_14_11 (r_0_0 S) ?_
    refine p_iload_n k110_4 rfl ?_
    refine p_cV1i k110_5 (s_1 S) c_11_151_3 rfl (Nat.le_of_ble_eq_true rfl) (C_isHat S hn2 hna6 (nI a)) (fun x1 m1 hq => ?_)
    obtain ⟨rfl, rfl⟩ := hq
    rw [hxa]
    refine p_if_eqB (tgt := 22) k110_8 (by decide) (fun c => False.elim (by cases c)) (fun _ => ?_)
    refine p_aload_n k110_11 rfl ?_
    refine p_getRv k110_12 (s_0 S) f_11_14_11 (r_0_0 S) ?_
    refine p_iload_n k110_15 rfl ?_
    refine p_cV1i k110_16 (s_1 S) c_11_173_3 rfl (Nat.le_of_ble_eq_true rfl) (C_isHead S hn1 hnh6 (nI hh)) (fun x1 m1 hq => ?_)
    obtain ⟨rfl, rfl⟩ := hq
    rw [hxh]
    refine p_if_neB (tgt := 24) k110_19 (by decide) (fun _ => ?_) (fun c => False.elim (by cases c))
    refine p_aload_n k110_24 rfl ?_
    refine p_getRv k110_25 (s_0 S) f_11_14_11 (r_0_0 S) ?_
    refine p_getRv k110_28 (s_1 S) f_11_111_3 (r_1_5 S) ?_
    refine p_iload_n k110_31 rfl ?_
    refine p_aaldNj k110_32 (s_5 S) xaty_2 (by omega) (by decide) (show K 5 a = some q from hKq) ?_
    refine p_astore (ls' := [(0, _), (1, _), (2, _), (3, _), (4, _)]) k110_33 rfl ?_
    refine p_aload_n k110_35 rfl ?_
    refine p_cV0r k110_36 (s_0 S) c_11_193_11 (Nat.le_of_ble_eq_true rfl) (C_holding S (C.up (by omega) g) M.th) (fun x1 m1 hq => ?_)
    obtain ⟨hCU, rfl⟩ := hq
    generalize x1 = b at hCU ⊢
    have hTS := hCU.1.1
    have hCU2 := hCU.tr hR
    refine p_astore (ls' := [(0, _), (1, _), (2, _), (3, _), (4, _), (5, _)]) k110_39 rfl ?_
    refine p_aload_n k110_41 rfl ?_
    refine p_getRv k110_42 (s_0 S) f_11_14_11 (r_0_0 S) ?_
    refine p_getRv k110_45 (s_1 S) f_11_122_3 (r_1_7 S) ?_
    refine p_iload_n k110_48 rfl ?_
    refine p_ialdN k110_49 (s_7 S) (by omega) (by decide) (show _ = nI u from (congrFun C.a7 a).trans hu0) ?_
    refine p_iload_n k110_50 rfl ?_
    refine p_iaddN k110_51 ?_
    refine p_istore (ls' := [(0, _), (1, _), (2, _), (3, _), (4, _), (5, _), (6, _)]) k110_52 rfl ?_
    refine p_aload_n k110_54 rfl ?_
    refine p_getRv k110_55 (s_0 S) f_11_14_11 (r_0_0 S) ?_
    refine p_getIv k110_58 (s_1 S) f_11_190_3 (show _ = nI dd from C.day.trans M.dd) ?_
    refine p_iload_n k110_61 rfl ?_
    refine p_iaddN k110_62 ?_
    refine p_istore (ls' := [(0, _), (1, _), (2, _), (3, _), (4, _), (5, _), (6, _), (7, _)]) k110_63 rfl ?_
    refine p_aload_n k110_65 rfl ?_
    refine p_getRv k110_66 (s_0 S) f_11_68_11 (r_0_10 S) ?_
    refine p_iconst (v := nI 0) k110_69 (by decide) ?_
    refine p_iload_n k110_70 rfl ?_
    refine p_iastN k110_71 (s_39 S) (by omega) (by decide) ?_
    rw [upc_uu, upc_eq]
    refine p_aload_n k110_72 rfl ?_
    refine p_getRv k110_73 (s_0 S) f_11_68_11 (r_0_10 S) ?_
    refine p_iconst (v := nI 1) k110_76 (by decide) ?_
    refine p_iload_n k110_77 rfl ?_
    refine p_iastN k110_78 (s_39 S) (by omega) (by decide) ?_
    rw [upc_uu, upc_eq]
    refine p_aload_n k110_79 rfl ?_
    refine p_getRv k110_80 (s_0 S) f_11_68_11 (r_0_10 S) ?_
    refine p_iconst (v := nI 2) k110_83 (by decide) ?_
    refine p_aload k110_84 rfl ?_
    refine p_getIv k110_86 hqs f_11_154_7 (show _ = nI 6 from (congrFun (M39 I _ hq153) 0).trans e0) ?_
    refine p_iastN k110_89 (s_39 S) (by omega) (by decide) ?_
    rw [upc_uu, upc_eq]
    refine p_aload_n k110_90 rfl ?_
    refine p_getRv k110_91 (s_0 S) f_11_68_11 (r_0_10 S) ?_
    refine p_iconst (v := nI 3) k110_94 (by decide) ?_
    refine p_aload k110_95 rfl ?_
    refine p_getIv k110_97 hqs f_11_163_7 (show _ = R0 106 a from (congrFun (M39 I _ hq153) 4).trans e4) ?_
    refine p_iastN k110_100 (s_39 S) (by omega) (by decide) ?_
    rw [upc_uu, upc_eq]
    refine p_aload_n k110_101 rfl ?_
    refine p_getRv k110_102 (s_0 S) f_11_68_11 (r_0_10 S) ?_
    refine p_iconst (v := nI 4) k110_105 (by decide) ?_
    refine p_iload k110_106 rfl ?_
    refine p_bipush (v := nI 10) k110_108 (by decide) ?_
    refine p_irem k110_110 (by decide) ?_
    refine p_iastN k110_111 (s_39 S) (by omega) (by decide) ?_
    rw [upc_uu, upc_eq]
    refine p_aload_n k110_112 rfl ?_
    refine p_getRv k110_113 (s_0 S) f_11_68_11 (r_0_10 S) ?_
    refine p_iconst (v := nI 5) k110_116 (by decide) ?_
    refine p_iload k110_117 rfl ?_
    refine p_bipush (v := nI 7) k110_119 (by decide) ?_
    refine p_irem k110_121 (by decide) ?_
    refine p_iastN k110_122 (s_39 S) (by omega) (by decide) ?_
    rw [upc_uu, upc_eq]
    generalize hG9 : upc (upc (upc (upc (upc (upc g 0 (nI a)) 1 (nI hh)) 2 (nI 6)) 3 (R0 106 a)) 4 _) 5 _ = G9
    have hFAC : FAC (upc I 39 G9) (facM R a hh) := by
      intro j hj
      show G9 j = _
      rw [← hG9]
      rcases (show j = 0 ∨ j = 1 ∨ j = 2 ∨ j = 3 ∨ j = 4 ∨ j = 5 by omega) with rfl | rfl | rfl | rfl | rfl | rfl
      · rfl
      · rfl
      · show nI 6 = R 102 a; rw [hR 102 (by decide) (by decide) (by decide), hkR]
      · show R0 106 a = R 106 a; rw [hR 106 (by decide) (by decide) (by decide)]
      · show _ = remI (R 107 a) (nI 10); rw [hu]; rfl
      · show _ = remI (R 98 2) (nI 7); rw [hd]; rfl
    refine p_aload k110_123 rfl ?_
    refine p_getIv k110_125 hqs f_11_160_7 (show _ = nI x from (congrFun (M39 I _ hq153) 3).trans (e3.trans hx)) ?_
    refine p_aload_n k110_128 rfl ?_
    refine p_getRv k110_129 (s_0 S) f_11_14_11 (r_0_0 S) ?_
    refine p_getRv k110_132 (s_1 S) f_11_92_3 (r_1_1 S) ?_
    refine p_iload_n k110_135 rfl ?_
    refine p_ialdN k110_136 (s_2 S) (by omega) (by decide) (show _ = nI y from (congrFun C.a2 hh).trans hy) ?_
    refine p_isub k110_137 ?_
    refine p_abs k110_138 (by decide) (Nat.le_of_ble_eq_true rfl) ?_
    refine p_toI (z := (apartI R a hh)) hap.1 ?_
    refine p_istore (ls' := [(0, _), (1, _), (2, _), (3, _), (4, _), (5, _), (6, _), (7, _), (8, _)]) k110_141 rfl ?_
    refine p_aload k110_143 rfl ?_
    refine p_cV0i k110_145 hTS.1.1 c_11_197_8 (Nat.le_of_ble_eq_true rfl) (C_moth S (I := upc I 39 _) (by have z := hCU2.up (c := 39) (by omega) G9; rw [upc_uu] at z; exact z)) (fun x1 m1 hq => ?_)
    obtain ⟨rfl, rfl⟩ := hq
    refine p_iload k110_148 rfl ?_
    refine p_imul k110_150 ?_
    refine p_iconst (v := nI 4) k110_151 (by decide) ?_
    refine p_idiv k110_152 (by decide) ?_
    refine p_istore (ls' := [(0, _), (1, _), (2, _), (3, _), (4, _), (5, _), (6, _), (7, _), (8, _), (9, _)]) k110_153 rfl ?_
    refine p_aload_n k110_155 rfl ?_
    refine p_getRv k110_156 (s_0 S) f_11_14_11 (r_0_0 S) ?_
    refine p_getRv k110_159 (s_1 S) f_11_125_3 (r_1_8 S) ?_
    refine p_iload_n k110_162 rfl ?_
    refine p_iconst (v := nI 4) k110_163 (by decide) ?_
    refine p_imulN k110_164 ?_
    refine p_iload k110_165 rfl ?_
    refine p_iconst (v := nI 4) k110_167 (by decide) ?_
    refine p_iremN (by omega) (by omega) (by omega) k110_168 ?_
    refine p_iaddN k110_169 ?_
    refine p_ialdN k110_170 (s_8 S) (by omega) (by decide) (show _ = R0 108 (a * 4 + (dd + ah) % 4) from congrFun C.a8 _) ?_
    refine p_istore (ls' := [(0, _), (1, _), (2, _), (3, _), (4, _), (5, _), (6, _), (7, _), (8, _), (9, _), (10, _)]) k110_171 rfl ?_
    refine p_aload k110_173 rfl ?_
    refine p_aload_n k110_175 rfl ?_
    refine p_getRv k110_176 (s_0 S) f_11_14_11 (r_0_0 S) ?_
    refine p_getRv k110_179 (s_1 S) f_11_119_3 (r_1_6 S) ?_
    refine p_iload_n k110_182 rfl ?_
    refine p_ialdN k110_183 (s_6 S) (by omega) (by decide) (show _ = R0 105 a from congrFun C.a6 a) ?_
    refine p_aload k110_184 rfl ?_
    refine p_aload_n k110_186 rfl ?_
    refine p_getRv k110_187 (s_0 S) f_11_68_11 (r_0_10 S) ?_
    refine p_cV1i k110_190 hTS.1.1 c_11_339_8 rfl (Nat.le_of_ble_eq_true rfl) (C_fits S (I := upc I 39 _) (R := R) (b := b) (cb := cb) (ce := ce) (by have z := hCU2.up (c := 39) (by omega) G9; rw [upc_uu] at z; exact z) (a := a) (hh := hh) hFAC) (fun x1 m1 hq => ?_)
    obtain ⟨rfl, rfl⟩ := hq
    refine p_iadd k110_193 ?_
    refine p_iload k110_194 rfl ?_
    refine p_iload k110_196 rfl ?_
    refine p_iload k110_198 rfl ?_
    refine p_cV4i k110_200 hqs c_11_343_7 rfl rfl rfl rfl (Nat.le_of_ble_eq_true rfl) (C_deed29_7 S (I := upc I 39 G9) (v := R0 103 a) hqs (show _ = R0 103 a from (congrFun (M39 I _ hq153) 2).trans e2) _ _ _ _) (fun x1 m1 hq => ?_)
    obtain ⟨rfl, rfl⟩ := hq
    refine p_ireturn k110_203 rt_110 ?_
    exact ⟨hdE, _, rfl⟩

