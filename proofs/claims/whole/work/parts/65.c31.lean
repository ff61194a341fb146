/-! the class: hat -/
theorem p_aastk {d y pc cn : Nat} {ls : List (Nat × Value)} {rest : List Value} {I : Nat → Nat → Int32} {J : Nat → Nat → Int64} {K : Nat → Nat → Option Nat} {h : List xSh} {Φ : xPost} {a n k : Nat} {C : String} {j ci : Nat} (hd0 : xdec y pc = some (cn, .aastore, 1)) (hs : h[a]? = some (.inr (.object C, n))) (hk : k < n) (hn : n < 2 ^ 31) (hty : xaty (.object C)) (hj : h[j]? = some (.inl ci)) (hc : xasg ci C) (k0 : EvP d y (pc + 1) ls rest (I, J, upc K a (upc (K a) k (some j)), h) Φ) : EvP d y pc ls (.ref j :: .int (nI k) :: .ref a :: rest) (I, J, K, h) Φ := p_aast hd0 hs (vp_in_nI hk hn) hty hj hc (by rw [nI_clamp (Nat.lt_trans hk hn)]; exact k0)
theorem hatI_ne {I : Nat → Nat → Int32} {q c : Nat} {f : Nat → Int32} {kd nm v sz tr : Int32} (h : c ≠ q) : hatI (upc I q f) q kd nm v sz tr c = I c := by
  unfold hatI s1
  rw [upc_ne _ _ h, upc_ne _ _ h, upc_ne _ _ h, upc_ne _ _ h, upc_ne _ _ h, upc_ne _ _ h]
theorem hatK_ne {K : Nat → Nat → Option Nat} {q c : Nat} {f : Nat → Option Nat} (h : c ≠ q) : hatK (upc K q f) q c = K c := by
  unfold hatK
  rw [upc_ne _ _ h, upc_ne _ _ h]
theorem xasg2 {kd : Nat} (h : kd < 7) : xasg (([2, 6, 10, 0, 4, 1, 7] : List Nat).getD kd 2) RX2 := by
  rcases (show kd = 0 ∨ kd = 1 ∨ kd = 2 ∨ kd = 3 ∨ kd = 4 ∨ kd = 5 ∨ kd = 6 by omega) with rfl | rfl | rfl | rfl | rfl | rfl | rfl
  · exact Or.inl ⟨by decide, rfl⟩
  · exact Or.inr ⟨rfl, by decide⟩
  · exact Or.inr ⟨rfl, by decide⟩
  · exact Or.inr ⟨rfl, by decide⟩
  · exact Or.inr ⟨rfl, by decide⟩
  · exact Or.inr ⟨rfl, by decide⟩
  · exact Or.inr ⟨rfl, by decide⟩
/-- what a new hat changes of the class's numbers and references -/
def hatCI (I1 : Nat → Nat → Int32) (na : Nat) (s : Int32) : Nat → Nat → Int32 := s1 (s1 (s1 (s1 (s1 (s1 (s1 I1 6 na s) 7 na (nI 0)) 8 (na * 4 + 0) (nI 0)) 8 (na * 4 + 1) (nI 0)) 8 (na * 4 + 2) (nI 0)) 8 (na * 4 + 3) (nI 0)) 1 4 (nI (na + 1))
def hatCK (K1 : Nat → Nat → Option Nat) (na q : Nat) : Nat → Nat → Option Nat := upc K1 5 (upc (K1 5) na (some q))
def hatRR (R : Nat → Nat → Int32) (na : Nat) (k n z s t : Int32) : Nat → Nat → Int32 := s1 (s1 (s1 (s1 (s1 (s1 (s1 (s1 (s1 (s1 (s1 R 102 na k) 103 na n) 104 na z) 105 na s) 106 na t) 107 na (nI 0)) 108 (4 * na) (nI 0)) 108 (4 * na + 1) (nI 0)) 108 (4 * na + 2) (nI 0)) 108 (4 * na + 3) (nI 0)) 98 1 (nI (na + 1))
set_option maxRecDepth 100000 in
set_option maxHeartbeats 4000000 in
theorem C_hat {d : Nat} {I : Nat → Nat → Int32} {J : Nat → Nat → Int64} {K : Nat → Nat → Option Nat} {h : List xSh} (S : St K h) {R0 : Nat → Nat → Int32} {nh na dd cb ce tw : Nat} (C : CR I K h R0 na tw) (M : MI R0 nh na dd cb ce) (Q : AR R0 nh na dd) (hz : h.length < 900000) (q1 q2 q3 q4 q5 : Int32) : EvP (d + 5) 56 0 [(0, .ref (0)), (1, .int (q1)), (2, .int (q2)), (3, .int (q3)), (4, .int (q4)), (5, .int (q5))] [] (I, J, K, h) (QI (fun x t => x = (hatM R0 na q1 q2 q3 q4 q5).1 ∧ (((hatM R0 na q1 q2 q3 q4 q5).2 = R0 ∧ t = (I, J, K, h)) ∨ ∃ kd : Nat, kd < 7 ∧ q1 = nI kd ∧ na < 6 ∧ (hatM R0 na q1 q2 q3 q4 q5).2 = hatRR R0 na q1 q2 q3 q4 q5 ∧ t = (hatCI (hatI (upc I h.length (fun _ => 0)) h.length (nI kd) (nI na) q2 q3 q5) na q4, upc J h.length (fun _ => 0), hatCK (hatK (upc K h.length (fun _ => none)) h.length) na h.length, h ++ [.inl (([2, 6, 10, 0, 4, 1, 7] : List Nat).getD kd 2)])))) := by
  have hnh6 := M.nh6
  have hna6 := M.na6
  refine p_iload_n k56_0 rfl ?_
  refine p_iconst (v := nI 0) k56_1 (by decide) ?_
  refine p_bipush (v := nI 6) k56_2 (by decide) ?_
  refine p_cS3i k56_4 c_11_101 rfl rfl rfl (Nat.le_of_ble_eq_true rfl) (C_within S (q1) (nI (0)) (nI (6))) (fun x1 m1 hq => ?_)
  obtain ⟨rfl, rfl⟩ := hq
  refine p_if_eqB (tgt := 18) k56_7 (by decide) (fun cq7 => ?_) (fun cq7 => ?_)
  · skip
    refine p_iconst (v := (-1)) k56_18 (by decide) ?_
    refine p_ireturn k56_19 rt_56 ?_
    exact ⟨by unfold hatM; rw [if_pos (by first | exact Or.inl cq7 | exact Or.inr cq15)], Or.inl ⟨by unfold hatM; rw [if_pos (by first | exact Or.inl cq7 | exact Or.inr cq15)], rfl⟩⟩
  · skip
    refine p_iload k56_10 rfl ?_
    refine p_cS1i k56_12 c_11_105 rfl (Nat.le_of_ble_eq_true rfl) (C_isTrade S (q5)) (fun x1 m1 hq => ?_)
    obtain ⟨rfl, rfl⟩ := hq
    refine p_if_neB (tgt := 20) k56_15 (by decide) (fun cq15 => ?_) (fun cq15 => ?_)
    · skip
      refine p_iload_n k56_20 rfl ?_
      refine p_cS1i k56_21 c_11_85 rfl (Nat.le_of_ble_eq_true rfl) (C_isDigit S (q2)) (fun x1 m1 hq => ?_)
      obtain ⟨rfl, rfl⟩ := hq
      refine p_if_eqB (tgt := 45) k56_24 (by decide) (fun cq24 => ?_) (fun cq24 => ?_)
      · skip
        refine p_bipush (v := (-2)) k56_45 (by decide) ?_
        refine p_ireturn k56_47 rt_56 ?_
        have hA : ¬ (inB q1 (nI 0) (nI 6) = false ∨ ixB q5 5 = false) := fun z => z.elim (fun z => by rw [cq7] at z; cases z) (fun z => by rw [cq15] at z; cases z)
        have hB : inB q2 (nI 0) (nI 9) = false ∨ inB q3 (nI 0) (nI 9) = false ∨ inB q4 (nI 0) (nI 50) = false := by first | exact Or.inl cq24 | exact Or.inr (Or.inl cq31) | exact Or.inr (Or.inr cq42)
        exact ⟨by unfold hatM; rw [if_neg hA, if_pos hB], Or.inl ⟨by unfold hatM; rw [if_neg hA, if_pos hB], rfl⟩⟩
      · skip
        refine p_iload_n k56_27 rfl ?_
        refine p_cS1i k56_28 c_11_85 rfl (Nat.le_of_ble_eq_true rfl) (C_isDigit S (q3)) (fun x1 m1 hq => ?_)
        obtain ⟨rfl, rfl⟩ := hq
        refine p_if_eqB (tgt := 45) k56_31 (by decide) (fun cq31 => ?_) (fun cq31 => ?_)
        · skip
          refine p_bipush (v := (-2)) k56_45 (by decide) ?_
          refine p_ireturn k56_47 rt_56 ?_
          have hA : ¬ (inB q1 (nI 0) (nI 6) = false ∨ ixB q5 5 = false) := fun z => z.elim (fun z => by rw [cq7] at z; cases z) (fun z => by rw [cq15] at z; cases z)
          have hB : inB q2 (nI 0) (nI 9) = false ∨ inB q3 (nI 0) (nI 9) = false ∨ inB q4 (nI 0) (nI 50) = false := by first | exact Or.inl cq24 | exact Or.inr (Or.inl cq31) | exact Or.inr (Or.inr cq42)
          exact ⟨by unfold hatM; rw [if_neg hA, if_pos hB], Or.inl ⟨by unfold hatM; rw [if_neg hA, if_pos hB], rfl⟩⟩
        · skip
          refine p_iload k56_34 rfl ?_
          refine p_iconst (v := nI 0) k56_36 (by decide) ?_
          refine p_bipush (v := nI 50) k56_37 (by decide) ?_
          refine p_cS3i k56_39 c_11_101 rfl rfl rfl (Nat.le_of_ble_eq_true rfl) (C_within S (q4) (nI (0)) (nI (50))) (fun x1 m1 hq => ?_)
          obtain ⟨rfl, rfl⟩ := hq
          refine p_if_neB (tgt := 48) k56_42 (by decide) (fun cq42 => ?_) (fun cq42 => ?_)
          · skip
            refine p_aload_n k56_48 rfl ?_
            refine p_getRv k56_49 (s_0 S) f_11_14_11 (r_0_0 S) ?_
            refine p_getIv k56_52 (s_1 S) f_11_108_3 (C.hats.trans M.na) ?_
            refine p_bipush (v := nI 6) k56_55 (by decide) ?_
            refine p_icmp_ltN (tgt := 63) k56_57 (by decide) (by omega) (by omega) (fun cq57 => ?_) (fun cq57 => ?_)
            · skip
              obtain ⟨kd, hkd, rfl⟩ := inB_of0 (by decide) cq7
              refine p_aload_n k56_63 rfl ?_
              refine p_getRv k56_64 (s_0 S) f_11_14_11 (r_0_0 S) ?_
              refine p_getIv k56_67 (s_1 S) f_11_108_3 (C.hats.trans M.na) ?_
              refine p_istore (ls' := [(0, _), (1, _), (2, _), (3, _), (4, _), (5, _), (6, _)]) k56_70 rfl ?_
              refine p_aload_n k56_72 rfl ?_
              refine p_getRv k56_73 (s_0 S) f_11_14_11 (r_0_0 S) ?_
              refine p_getRv k56_76 (s_1 S) f_11_111_3 (r_1_5 S) ?_
              refine p_iload k56_79 rfl ?_
              refine p_aload_n k56_81 rfl ?_
              refine p_iload_n k56_82 rfl ?_
              refine p_iload k56_83 rfl ?_
              refine p_iload_n k56_85 rfl ?_
              refine p_iload_n k56_86 rfl ?_
              refine p_iload k56_87 rfl ?_
              refine p_cV5r k56_89 (s_0 S) c_11_115_11 rfl rfl rfl rfl rfl (Nat.le_of_ble_eq_true rfl) (C_newHat S hz (kd := kd) (by omega) (nI na) q2 q3 q5) (fun x1 m1 hq => ?_)
              obtain ⟨rfl, rfl⟩ := hq
              have hlen := S.len
              replace S := (S.new (fun _ => none) (.inl (([2, 6, 10, 0, 4, 1, 7] : List Nat).getD kd 2))).hi (q := h.length) (Or.inl hlen) (upc (upc K h.length (fun _ => none) h.length) 5 (some 36))
              have hsq := new_sh h (.inl (([2, 6, 10, 0, 4, 1, 7] : List Nat).getD kd 2))
              obtain ⟨I1, hI1⟩ : ∃ X, X = hatI (upc I h.length (fun _ => 0)) h.length (nI kd) (nI na) q2 q3 q5 := ⟨_, rfl⟩
              obtain ⟨K1, hK1⟩ : ∃ X, X = hatK (upc K h.length (fun _ => none)) h.length := ⟨_, rfl⟩
              replace S : St K1 (h ++ [.inl (([2, 6, 10, 0, 4, 1, 7] : List Nat).getD kd 2)]) := by rw [hK1]; exact S
              have e14 : I1 1 4 = nI na := by rw [hI1, hatI_ne (show 1 ≠ h.length by omega)]; exact C.hats.trans M.na
              rw [← hI1, ← hK1]
              refine p_aastk k56_92 (s_5 S) (by omega) (by decide) xaty_2 hsq (xasg2 (by omega)) ?_
              replace S := S.hi (Or.inr (Or.inl rfl)) (upc (K1 5) na (some h.length))
              refine p_aload_n k56_93 rfl ?_
              refine p_getRv k56_94 (s_0 S) f_11_14_11 (r_0_0 S) ?_
              refine p_getRv k56_97 (s_1 S) f_11_119_3 (r_1_6 S) ?_
              refine p_iload k56_100 rfl ?_
              refine p_iload k56_102 rfl ?_
              refine p_iastN k56_104 (s_6 S) (by omega) (by decide) ?_
              refine p_aload_n k56_105 rfl ?_
              refine p_getRv k56_106 (s_0 S) f_11_14_11 (r_0_0 S) ?_
              refine p_getRv k56_109 (s_1 S) f_11_122_3 (r_1_7 S) ?_
              refine p_iload k56_112 rfl ?_
              refine p_iconst (v := nI 0) k56_114 (by decide) ?_
              refine p_iastN k56_115 (s_7 S) (by omega) (by decide) ?_
              refine p_iconst (v := nI 0) k56_116 (by decide) ?_
              refine p_istore (ls' := [(0, _), (1, _), (2, _), (3, _), (4, _), (5, _), (6, _), (7, _)]) k56_117 rfl ?_
              refine p_iload k56_119 rfl ?_
              refine p_iconst (v := nI 4) k56_121 (by decide) ?_
              refine p_icmp_geN (tgt := 147) k56_122 (by decide) (by omega) (by omega) (fun c => False.elim (by omega)) (fun _ => ?_)
              refine p_aload_n k56_125 rfl ?_
              refine p_getRv k56_126 (s_0 S) f_11_14_11 (r_0_0 S) ?_
              refine p_getRv k56_129 (s_1 S) f_11_125_3 (r_1_8 S) ?_
              refine p_iload k56_132 rfl ?_
              refine p_iconst (v := nI 4) k56_134 (by decide) ?_
              refine p_imulN k56_135 ?_
              refine p_iload k56_136 rfl ?_
              refine p_iaddN k56_138 ?_
              refine p_iconst (v := nI 0) k56_139 (by decide) ?_
              refine p_iastN k56_140 (s_8 S) (by omega) (by decide) ?_
              refine p_iincN (ls1 := [(0, _), (1, _), (2, _), (3, _), (4, _), (5, _), (6, _), (7, _)]) k56_141 rfl rfl ?_
              refine p_goto (tgt := 119) k56_144 (by decide) ?_
              refine p_iload k56_119 rfl ?_
              refine p_iconst (v := nI 4) k56_121 (by decide) ?_
              refine p_icmp_geN (tgt := 147) k56_122 (by decide) (by omega) (by omega) (fun c => False.elim (by omega)) (fun _ => ?_)
              refine p_aload_n k56_125 rfl ?_
              refine p_getRv k56_126 (s_0 S) f_11_14_11 (r_0_0 S) ?_
              refine p_getRv k56_129 (s_1 S) f_11_125_3 (r_1_8 S) ?_
              refine p_iload k56_132 rfl ?_
              refine p_iconst (v := nI 4) k56_134 (by decide) ?_
              refine p_imulN k56_135 ?_
              refine p_iload k56_136 rfl ?_
              refine p_iaddN k56_138 ?_
              refine p_iconst (v := nI 0) k56_139 (by decide) ?_
              refine p_iastN k56_140 (s_8 S) (by omega) (by decide) ?_
              refine p_iincN (ls1 := [(0, _), (1, _), (2, _), (3, _), (4, _), (5, _), (6, _), (7, _)]) k56_141 rfl rfl ?_
              refine p_goto (tgt := 119) k56_144 (by decide) ?_
              refine p_iload k56_119 rfl ?_
              refine p_iconst (v := nI 4) k56_121 (by decide) ?_
              refine p_icmp_geN (tgt := 147) k56_122 (by decide) (by omega) (by omega) (fun c => False.elim (by omega)) (fun _ => ?_)
              refine p_aload_n k56_125 rfl ?_
              refine p_getRv k56_126 (s_0 S) f_11_14_11 (r_0_0 S) ?_
              refine p_getRv k56_129 (s_1 S) f_11_125_3 (r_1_8 S) ?_
              refine p_iload k56_132 rfl ?_
              refine p_iconst (v := nI 4) k56_134 (by decide) ?_
              refine p_imulN k56_135 ?_
              refine p_iload k56_136 rfl ?_
              refine p_iaddN k56_138 ?_
              refine p_iconst (v := nI 0) k56_139 (by decide) ?_
              refine p_iastN k56_140 (s_8 S) (by omega) (by decide) ?_
              refine p_iincN (ls1 := [(0, _), (1, _), (2, _), (3, _), (4, _), (5, _), (6, _), (7, _)]) k56_141 rfl rfl ?_
              refine p_goto (tgt := 119) k56_144 (by decide) ?_
              refine p_iload k56_119 rfl ?_
              refine p_iconst (v := nI 4) k56_121 (by decide) ?_
              refine p_icmp_geN (tgt := 147) k56_122 (by decide) (by omega) (by omega) (fun c => False.elim (by omega)) (fun _ => ?_)
              refine p_aload_n k56_125 rfl ?_
              refine p_getRv k56_126 (s_0 S) f_11_14_11 (r_0_0 S) ?_
              refine p_getRv k56_129 (s_1 S) f_11_125_3 (r_1_8 S) ?_
              refine p_iload k56_132 rfl ?_
              refine p_iconst (v := nI 4) k56_134 (by decide) ?_
              refine p_imulN k56_135 ?_
              refine p_iload k56_136 rfl ?_
              refine p_iaddN k56_138 ?_
              refine p_iconst (v := nI 0) k56_139 (by decide) ?_
              refine p_iastN k56_140 (s_8 S) (by omega) (by decide) ?_
              refine p_iincN (ls1 := [(0, _), (1, _), (2, _), (3, _), (4, _), (5, _), (6, _), (7, _)]) k56_141 rfl rfl ?_
              refine p_goto (tgt := 119) k56_144 (by decide) ?_
              refine p_iload k56_119 rfl ?_
              refine p_iconst (v := nI 4) k56_121 (by decide) ?_
              refine p_icmp_geN (tgt := 147) k56_122 (by decide) (by omega) (by omega) (fun _ => ?_) (fun c => False.elim (by omega))
              refine p_aload_n k56_147 rfl ?_
              refine p_getRv k56_148 (s_0 S) f_11_14_11 (r_0_0 S) ?_
              refine p_dup k56_151 rfl ?_
              refine p_getIv k56_152 (s_1 S) f_11_108_3 (show _ = nI na from e14) ?_
              refine p_iconst (v := nI 1) k56_155 (by decide) ?_
              refine p_iaddN k56_156 ?_
              refine p_putIv k56_157 (s_1 S) g_11_108_3 n_56_3_4 ?_
              refine p_iload k56_160 rfl ?_
              refine p_ireturn k56_162 rt_56 ?_
              have hA : ¬ (inB _ (nI 0) (nI 6) = false ∨ ixB q5 5 = false) := fun z => z.elim (fun z => by rw [cq7] at z; cases z) (fun z => by rw [cq15] at z; cases z)
              have hB : ¬ (inB q2 (nI 0) (nI 9) = false ∨ inB q3 (nI 0) (nI 9) = false ∨ inB q4 (nI 0) (nI 50) = false) := fun z => z.elim (fun z => by rw [cq24] at z; cases z) (fun z => z.elim (fun z => by rw [cq31] at z; cases z) (fun z => by rw [cq42] at z; cases z))
              have h6 : ¬ na = 6 := by omega
              refine ⟨by unfold hatM; rw [if_neg hA, if_neg hB, if_neg h6], Or.inr ⟨kd, by omega, rfl, by omega, by unfold hatM; rw [if_neg hA, if_neg hB, if_neg h6]; rfl, ?_⟩⟩
              subst hI1
              subst hK1
              rfl
            · skip
              refine p_bipush (v := (-4)) k56_60 (by decide) ?_
              refine p_ireturn k56_62 rt_56 ?_
              have hA : ¬ (inB _ (nI 0) (nI 6) = false ∨ ixB q5 5 = false) := fun z => z.elim (fun z => by rw [cq7] at z; cases z) (fun z => by rw [cq15] at z; cases z)
              have hB : ¬ (inB q2 (nI 0) (nI 9) = false ∨ inB q3 (nI 0) (nI 9) = false ∨ inB q4 (nI 0) (nI 50) = false) := fun z => z.elim (fun z => by rw [cq24] at z; cases z) (fun z => z.elim (fun z => by rw [cq31] at z; cases z) (fun z => by rw [cq42] at z; cases z))
              have h6 : na = 6 := by omega
              exact ⟨by unfold hatM; rw [if_neg hA, if_neg hB, if_pos h6], Or.inl ⟨by unfold hatM; rw [if_neg hA, if_neg hB, if_pos h6], rfl⟩⟩
          · skip
            refine p_bipush (v := (-2)) k56_45 (by decide) ?_
            refine p_ireturn k56_47 rt_56 ?_
            have hA : ¬ (inB q1 (nI 0) (nI 6) = false ∨ ixB q5 5 = false) := fun z => z.elim (fun z => by rw [cq7] at z; cases z) (fun z => by rw [cq15] at z; cases z)
            have hB : inB q2 (nI 0) (nI 9) = false ∨ inB q3 (nI 0) (nI 9) = false ∨ inB q4 (nI 0) (nI 50) = false := by first | exact Or.inl cq24 | exact Or.inr (Or.inl cq31) | exact Or.inr (Or.inr cq42)
            exact ⟨by unfold hatM; rw [if_neg hA, if_pos hB], Or.inl ⟨by unfold hatM; rw [if_neg hA, if_pos hB], rfl⟩⟩
    · skip
      refine p_iconst (v := (-1)) k56_18 (by decide) ?_
      refine p_ireturn k56_19 rt_56 ?_
      exact ⟨by unfold hatM; rw [if_pos (by first | exact Or.inl cq7 | exact Or.inr cq15)], Or.inl ⟨by unfold hatM; rw [if_pos (by first | exact Or.inl cq7 | exact Or.inr cq15)], rfl⟩⟩

