/-! the reference: mostOf, can, isClash, isRing, back -/
/-- the most by one hat more, for each set of heads -/
def fTp (w : Nat → Int32) (D : Nat → Nat → Int32) (a s k : Nat) (x : Int32) : Int32 := if s.testBit k = true ∧ ¬ w (s ^^^ 2 ^ k) < 0 then mxI x (w (s ^^^ 2 ^ k) + D a k) else x
def topS (w : Nat → Int32) (D : Nat → Nat → Int32) (a nh : Nat) : Nat → Int32 := fun s => if s < 2 ^ nh then fld (fTp w D a s) nh 0 (w s) else w s
def fMo (I : Nat → Nat → Int32) (D : Nat → Nat → Int32) (nh q : Nat) (a : Nat) (w : Nat → Int32) : Nat → Int32 := if I 106 a = nI q then topS w D a nh else w
def top0 (g : Nat → Int32) : Nat → Int32 := fun s => if s < 64 then (if s = 0 then nI 0 else -1) else g s
def moW (I : Nat → Nat → Int32) (D : Nat → Nat → Int32) (nh na q : Nat) (g : Nat → Int32) : Nat → Int32 := fld (fMo I D nh q) na 0 (top0 g)
def fMx (w : Nat → Int32) (k : Nat) (x : Int32) : Int32 := mxI x (w k)
def moM (I : Nat → Nat → Int32) (D : Nat → Nat → Int32) (nh na q : Nat) (g : Nat → Int32) : Int32 := fld (fMx (moW I D nh na q g)) 64 0 (nI 0)
/-- below s as w, at s x, above as w2 -/
def tD (w w2 : Nat → Int32) (s : Nat) (x : Int32) : Nat → Int32 := fun z => if z < s then w z else if z = s then x else w2 z
theorem tD_st {w w2 : Nat → Int32} {s : Nat} {x y : Int32} : upc (tD w w2 s x) s y = tD w w2 s y := by
  funext z
  by_cases h : z = s
  · subst h; rw [upc_eq]; unfold tD; rw [if_neg (Nat.lt_irrefl _), if_pos rfl]
  · rw [upc_ne _ _ h]; unfold tD; rw [if_neg h, if_neg h]
theorem tD_0 {w w2 : Nat → Int32} {s : Nat} : wayD w w2 (s + 1) = tD w w2 s (w s) := by
  funext z
  unfold wayD tD
  by_cases h : z < s
  · rw [if_pos h, if_pos (by omega)]
  · rw [if_neg h]
    by_cases h2 : z = s
    · subst h2; rw [if_pos rfl, if_pos (by omega)]
    · rw [if_neg h2, if_neg (by omega)]
theorem tD_1 {w w2 : Nat → Int32} {s : Nat} {x : Int32} (h : w2 s = x) : tD w w2 s x = wayD w w2 s := by
  funext z
  unfold wayD tD
  by_cases h1 : z < s
  · rw [if_pos h1, if_pos h1]
  · rw [if_neg h1, if_neg h1]
    by_cases h2 : z = s
    · subst h2; rw [if_pos rfl, h]
    · rw [if_neg h2]
theorem topS_all {w : Nat → Int32} {D : Nat → Nat → Int32} {a nh : Nat} : wayD w (topS w D a nh) (2 ^ nh) = w := by
  funext z
  unfold wayD
  by_cases h : z < 2 ^ nh
  · rw [if_pos h]
  · rw [if_neg h]; unfold topS; rw [if_neg h]
theorem pw6 {nh : Nat} (h : nh ≤ 6) : 1 ≤ 2 ^ nh ∧ 2 ^ nh ≤ 64 := ⟨Nat.one_le_two_pow, Nat.pow_le_pow_right (by decide) h⟩
set_option maxRecDepth 100000 in
set_option maxHeartbeats 4000000 in
theorem M_mostOf {d : Nat} {I : Nat → Nat → Int32} {J : Nat → Nat → Int64} {K : Nat → Nat → Option Nat} {h : List xSh} (S : St K h) {nh na dd cb ce : Nat} (M : MI I nh na dd cb ce) {B : Nat → Nat → Int32} (w0 : Nat → Int32) (hBh : B 98 0 = nI nh) (hBa : B 98 1 = nI na) (hB106 : B 106 = I 106) (hB125 : ∀ a k, a < na → k < nh → B 125 (6 * a + k) = deedM I cb ce a k) {q : Nat} (hq5 : q < 5) : EvP (d + 1) 190 0 [(0, .ref (98)), (1, .int (nI (q)))] [] (upc B 127 w0, J, K, h) (QI (fun x t => x = moM I (deedM I cb ce) nh na q w0 ∧ ∃ w, t = (upc B 127 w, J, K, h))) := by
  have hnh6 := M.nh6
  have hna6 := M.na6
  refine p_iconst (v := nI 0) k190_0 (by decide) ?_
  refine p_istore_n (ls' := [(0, _), (1, _), (2, _)]) k190_1 rfl ?_
  have L1 : ∀ (j : Nat) (k : Nat) (u : Nat → Int32), k + j = 64 → (∀ s, s < k → u s = top0 w0 s) → (∀ s, 64 ≤ s → u s = w0 s) → EvP (d + 1) 190 2 [(0, .ref (98)), (1, .int (nI (q))), (2, .int (nI (k)))] [] (upc B 127 (u), J, K, h) (QI (fun x t => x = moM I (deedM I cb ce) nh na q w0 ∧ ∃ w, t = (upc B 127 w, J, K, h))) := by
    intro j
    induction j with
    | zero =>
      intro k u hk
      intro hu hv
      have hu2 : u = top0 w0 := by
            funext s
            by_cases e : s < 64
            · exact hu s (by omega)
            · rw [hv s (by omega)]; unfold top0; rw [if_neg e]
      subst hu2
      refine p_iload_n k190_2 rfl ?_
      refine p_bipush (v := nI 64) k190_3 (by decide) ?_
      refine p_icmp_geN (tgt := 29) k190_5 (by decide) (by omega) (by omega) (fun _ => ?_) (fun c => False.elim (by omega))
      refine p_iconst (v := nI 0) k190_29 (by decide) ?_
      refine p_istore_n (ls' := [(0, _), (1, _), (2, _)]) k190_30 rfl ?_
      have L2 : ∀ (j : Nat) (a : Nat) (w : Nat → Int32), a + j = na → fld (fMo I (deedM I cb ce) nh q) j a w = (moW I (deedM I cb ce) nh na q w0) → EvP (d + 1) 190 31 [(0, .ref (98)), (1, .int (nI (q))), (2, .int (nI (a)))] [] (upc B 127 (w), J, K, h) (QI (fun x t => x = moM I (deedM I cb ce) nh na q w0 ∧ ∃ w, t = (upc B 127 w, J, K, h))) := by
        intro j
        induction j with
        | zero =>
          intro a w hk
          intro hw
          have hw2 : w = (moW I (deedM I cb ce) nh na q w0) := hw
          subst hw2
          refine p_iload_n k190_31 rfl ?_
          refine p_aload_n k190_32 rfl ?_
          refine p_getIv k190_33 (s_98 S) f_12_13_12 hBa ?_
          refine p_icmp_geN (tgt := 170) k190_36 (by decide) (by omega) (by omega) (fun _ => ?_) (fun c => False.elim (by omega))
          refine p_iconst (v := nI 0) k190_170 (by decide) ?_
          refine p_istore_n (ls' := [(0, _), (1, _), (2, _)]) k190_171 rfl ?_
          refine p_iconst (v := nI 0) k190_172 (by decide) ?_
          refine p_istore_n (ls' := [(0, _), (1, _), (2, _), (3, _)]) k190_173 rfl ?_
          have L6 : ∀ (j : Nat) (k : Nat) (x : Int32), k + j = 64 → fld (fMx (moW I (deedM I cb ce) nh na q w0)) j k x = moM I (deedM I cb ce) nh na q w0 → EvP (d + 1) 190 174 [(0, .ref (98)), (1, .int (nI (q))), (2, .int (x)), (3, .int (nI (k)))] [] (upc B 127 ((moW I (deedM I cb ce) nh na q w0)), J, K, h) (QI (fun x t => x = moM I (deedM I cb ce) nh na q w0 ∧ ∃ w, t = (upc B 127 w, J, K, h))) := by
            intro j
            induction j with
            | zero =>
              intro k x hk
              intro hx
              refine p_iload_n k190_174 rfl ?_
              refine p_bipush (v := nI 64) k190_175 (by decide) ?_
              refine p_icmp_geN (tgt := 198) k190_177 (by decide) (by omega) (by omega) (fun _ => ?_) (fun c => False.elim (by omega))
              refine p_iload_n k190_198 rfl ?_
              refine p_ireturn k190_199 rt_190 ?_
              exact ⟨hx, _, rfl⟩
            | succ j ih =>
              intro k x hk
              intro hx
              refine p_iload_n k190_174 rfl ?_
              refine p_bipush (v := nI 64) k190_175 (by decide) ?_
              refine p_icmp_geN (tgt := 198) k190_177 (by decide) (by omega) (by omega) (fun c => False.elim (by omega)) (fun _ => ?_)
              refine p_aload_n k190_180 rfl ?_
              refine p_iload_n k190_181 rfl ?_
              refine p_aload_n k190_182 rfl ?_
              refine p_getRv k190_183 (s_98 S) f_12_138_12 (r_98_42 S) ?_
              refine p_iload_n k190_186 rfl ?_
              refine p_ialdN k190_187 (s_127 S) (by omega) (by decide) (show _ = (moW I (deedM I cb ce) nh na q w0) k from rfl) ?_
              refine p_cV2i k190_188 (s_98 S) c_12_332_12 rfl rfl (Nat.le_of_ble_eq_true rfl) (M_most S _ _) (fun x1 m1 hq => ?_)
              obtain ⟨rfl, rfl⟩ := hq
              refine p_istore_n (ls' := [(0, _), (1, _), (2, _), (3, _)]) k190_191 rfl ?_
              refine p_iincN (ls1 := [(0, _), (1, _), (2, _), (3, _)]) k190_192 rfl rfl ?_
              refine p_goto (tgt := 174) k190_195 (by decide) ?_
              exact ih (k + 1) _ (by omega) hx
          exact L6 64 0 (nI 0) (by omega) rfl
        | succ j ih =>
          intro a w hk
          intro hw
          have ih0 := ih
          obtain ⟨j0, hj0⟩ : ∃ j0, j0 = j := ⟨j, rfl⟩
          rw [← hj0] at ih0 hw
          refine p_iload_n k190_31 rfl ?_
          refine p_aload_n k190_32 rfl ?_
          refine p_getIv k190_33 (s_98 S) f_12_13_12 hBa ?_
          refine p_icmp_geN (tgt := 170) k190_36 (by decide) (by omega) (by omega) (fun c => False.elim (by omega)) (fun _ => ?_)
          refine p_aload_n k190_39 rfl ?_
          refine p_getRv k190_40 (s_98 S) f_12_41_12 (r_98_10 S) ?_
          refine p_iload_n k190_43 rfl ?_
          refine p_ialdN k190_44 (s_106 S) (by omega) (by decide) (show upc B 127 w 106 a = _ from congrFun hB106 a) ?_
          refine p_iload_n k190_45 rfl ?_
          refine p_icmp_eq (tgt := 52) k190_46 (by decide) (fun cq46 => ?_) (fun cq46 => ?_)
          · skip
            refine p_iconst (v := nI 1) k190_52 (by decide) ?_
            refine p_aload_n k190_53 rfl ?_
            refine p_getIv k190_54 (s_98 S) f_12_7_12 hBh ?_
            refine p_ishl7 (by omega) k190_57 ?_
            refine p_iconst (v := nI 1) k190_58 (by decide) ?_
            refine p_isubN (pw6 M.nh6).1 k190_59 ?_
            refine p_istore_n (ls' := [(0, _), (1, _), (2, _), (3, _)]) k190_60 rfl ?_
            have hp6 := pw6 M.nh6
            have L4 : ∀ (s : Nat), s < 2 ^ nh → EvP (d + 1) 190 61 [(0, .ref (98)), (1, .int (nI (q))), (2, .int (nI (a))), (3, .int (nI (s)))] [] (upc B 127 (wayD w (topS w (deedM I cb ce) a nh) (s + 1)), J, K, h) (QI (fun x t => x = moM I (deedM I cb ce) nh na q w0 ∧ ∃ w, t = (upc B 127 w, J, K, h))) := by
              intro s
              induction s with
              | zero =>
                intro hs64
                refine p_iload_n k190_61 rfl ?_
                refine p_if_ltN (tgt := 164) k190_62 (by decide) (by omega) ?_
                refine p_iconst (v := nI 0) k190_65 (by decide) ?_
                refine p_istore (ls' := [(0, _), (1, _), (2, _), (3, _), (4, _)]) k190_66 rfl ?_
                have L5 : ∀ (j : Nat) (m : Nat) (x : Int32), m + j = nh → fld (fTp w (deedM I cb ce) a 0) j m x = fld (fTp w (deedM I cb ce) a 0) nh 0 (w 0) → EvP (d + 1) 190 68 [(0, .ref (98)), (1, .int (nI (q))), (2, .int (nI (a))), (3, .int (nI (0))), (4, .int (nI (m)))] [] (upc B 127 (tD w (topS w (deedM I cb ce) a nh) 0 x), J, K, h) (QI (fun x t => x = moM I (deedM I cb ce) nh na q w0 ∧ ∃ w, t = (upc B 127 w, J, K, h))) := by
                  intro j
                  induction j with
                  | zero =>
                    intro m x hk
                    intro hx
                    replace hx : x = _ := hx
                    refine p_iload k190_68 rfl ?_
                    refine p_aload_n k190_70 rfl ?_
                    refine p_getIv k190_71 (s_98 S) f_12_7_12 hBh ?_
                    refine p_icmp_geN (tgt := 158) k190_74 (by decide) (by omega) (by omega) (fun _ => ?_) (fun c => False.elim (by omega))
                    rw [tD_1 (w := w) (w2 := (topS w (deedM I cb ce) a nh)) (s := 0) (by unfold topS; rw [if_pos hs64]; exact hx.symm)]
                    rw [show wayD w (topS w (deedM I cb ce) a nh) 0 = (topS w (deedM I cb ce) a nh) from by funext z; exact if_neg (Nat.not_lt_zero _)]
                    refine p_iinc (ls' := [(0, _), (1, _), (2, _), (3, _), (4, _)]) k190_158 rfl rfl rfl ?_
                    refine p_goto (tgt := 61) k190_161 (by decide) ?_
                    refine p_iload_n k190_61 rfl ?_
                    refine p_if_lt (tgt := 164) k190_62 (by decide) (fun _ => ?_) (fun c => False.elim (by exact absurd (by decide) c))
                    refine p_iincN (ls1 := [(0, _), (1, _), (2, _), (3, _), (4, _)]) k190_164 rfl rfl ?_
                    refine p_goto (tgt := 31) k190_167 (by decide) ?_
                    refine p_drop [0, 1, 2] rfl ?_
                    exact ih0 (a + 1) _ (by omega) (by rw [← hw]; exact congrArg (fld (fMo I (deedM I cb ce) nh q) j0 (a + 1)) (by unfold fMo; rw [if_pos cq46]))
                  | succ j ih =>
                    intro m x hk
                    intro hx
                    refine p_iload k190_68 rfl ?_
                    refine p_aload_n k190_70 rfl ?_
                    refine p_getIv k190_71 (s_98 S) f_12_7_12 hBh ?_
                    refine p_icmp_geN (tgt := 158) k190_74 (by decide) (by omega) (by omega) (fun c => False.elim (by omega)) (fun _ => ?_)
                    refine p_aload_n k190_77 rfl ?_
                    refine p_iload_n k190_78 rfl ?_
                    refine p_iload k190_79 rfl ?_
                    refine p_cV2i k190_81 (s_98 S) c_12_368_12 rfl rfl (Nat.le_of_ble_eq_true rfl) (M_has S (s := 0) (k := m) (by omega) (by omega)) (fun x1 m1 hq => ?_)
                    obtain ⟨rfl, rfl⟩ := hq
                    refine p_if_eqB (tgt := 152) k190_84 (by decide) (fun cq84 => ?_) (fun cq84 => ?_)
                    · skip
                      refine p_iincN (ls1 := [(0, _), (1, _), (2, _), (3, _), (4, _)]) k190_152 rfl rfl ?_
                      refine p_goto (tgt := 68) k190_155 (by decide) ?_
                      exact ih (m + 1) _ (by omega) (by rw [← hx]; show fld _ j (m + 1) _ = fld _ j (m + 1) _; congr 1; unfold fTp; first | rw [if_pos (And.intro cq84 (i_ge0 cq100))] | rw [if_neg (show ¬ (Nat.testBit 0 m = true ∧ ¬ w (0 ^^^ 2 ^ m) < 0) from fun z => by rw [cq84] at z; exact absurd z.1 (by decide))] | rw [if_neg (show ¬ (Nat.testBit 0 m = true ∧ ¬ w (0 ^^^ 2 ^ m) < 0) from fun z => z.2 (i_lt0 cq100))])
                    · skip
                      refine p_aload_n k190_87 rfl ?_
                      refine p_getRv k190_88 (s_98 S) f_12_138_12 (r_98_42 S) ?_
                      refine p_iload_n k190_91 rfl ?_
                      refine p_iconst (v := nI 1) k190_92 (by decide) ?_
                      refine p_iload k190_93 rfl ?_
                      refine p_ishl1 (by omega) k190_95 ?_
                      refine p_iconst (v := (-1)) k190_96 (by decide) ?_
                      refine p_ixor k190_97 ?_
                      refine p_iand k190_98 ?_
                      have hxl := xor_lt6 (s := 0) (k := m) (by omega) (by omega) cq84
                      refine p_toI (z := (nI (0 ^^^ 2 ^ m))) (andn6 (by omega) (by omega) cq84) ?_
                      refine p_ialdN k190_99 (s_127 S) (by omega) (by decide) (show tD w (topS w (deedM I cb ce) a nh) 0 x (0 ^^^ 2 ^ m) = _ from if_pos (by omega)) ?_
                      refine p_if_ge (tgt := 106) k190_100 (by decide) (fun cq100 => ?_) (fun cq100 => ?_)
                      · skip
                        refine p_aload_n k190_106 rfl ?_
                        refine p_getRv k190_107 (s_98 S) f_12_138_12 (r_98_42 S) ?_
                        refine p_iload_n k190_110 rfl ?_
                        refine p_iconst (v := nI 1) k190_111 (by decide) ?_
                        refine p_iload k190_112 rfl ?_
                        refine p_ishl1 (by omega) k190_114 ?_
                        refine p_iconst (v := (-1)) k190_115 (by decide) ?_
                        refine p_ixor k190_116 ?_
                        refine p_iand k190_117 ?_
                        refine p_toI (z := (nI (0 ^^^ 2 ^ m))) (andn6 (by omega) (by omega) cq84) ?_
                        refine p_ialdN k190_118 (s_127 S) (by omega) (by decide) (show tD w (topS w (deedM I cb ce) a nh) 0 x (0 ^^^ 2 ^ m) = _ from if_pos (by omega)) ?_
                        refine p_aload_n k190_119 rfl ?_
                        refine p_getRv k190_120 (s_98 S) f_12_129_12 (r_98_39 S) ?_
                        refine p_bipush (v := nI 6) k190_123 (by decide) ?_
                        refine p_iload_n k190_125 rfl ?_
                        refine p_imulN k190_126 ?_
                        refine p_iload k190_127 rfl ?_
                        refine p_iaddN k190_129 ?_
                        refine p_ialdN k190_130 (s_125 S) (by omega) (by decide) (hB125 a m (by omega) (by omega)) ?_
                        refine p_iadd k190_131 ?_
                        refine p_istore (ls' := [(0, _), (1, _), (2, _), (3, _), (4, _), (5, _)]) k190_132 rfl ?_
                        refine p_aload_n k190_134 rfl ?_
                        refine p_getRv k190_135 (s_98 S) f_12_138_12 (r_98_42 S) ?_
                        refine p_iload_n k190_138 rfl ?_
                        refine p_aload_n k190_139 rfl ?_
                        refine p_aload_n k190_140 rfl ?_
                        refine p_getRv k190_141 (s_98 S) f_12_138_12 (r_98_42 S) ?_
                        refine p_iload_n k190_144 rfl ?_
                        refine p_ialdN k190_145 (s_127 S) (by omega) (by decide) (show tD w (topS w (deedM I cb ce) a nh) 0 x 0 = x from (if_neg (Nat.lt_irrefl _)).trans (if_pos rfl)) ?_
                        refine p_iload k190_146 rfl ?_
                        refine p_cV2i k190_148 (s_98 S) c_12_332_12 rfl rfl (Nat.le_of_ble_eq_true rfl) (M_most S _ _) (fun x1 m1 hq => ?_)
                        obtain ⟨rfl, rfl⟩ := hq
                        refine p_iastN k190_151 (s_127 S) (by omega) (by decide) ?_
                        rw [upc_uu, show upc B 127 (tD w (topS w (deedM I cb ce) a nh) 0 x) 127 = tD w (topS w (deedM I cb ce) a nh) 0 x from rfl, tD_st]
                        refine p_iincN (ls1 := [(0, _), (1, _), (2, _), (3, _), (4, _), (5, _)]) k190_152 rfl rfl ?_
                        refine p_goto (tgt := 68) k190_155 (by decide) ?_
                        refine p_drop [0, 1, 2, 3, 4] rfl ?_
                        exact ih (m + 1) _ (by omega) (by rw [← hx]; show fld _ j (m + 1) _ = fld _ j (m + 1) _; congr 1; unfold fTp; first | rw [if_pos (And.intro cq84 (i_ge0 cq100))] | rw [if_neg (show ¬ (Nat.testBit 0 m = true ∧ ¬ w (0 ^^^ 2 ^ m) < 0) from fun z => by rw [cq84] at z; exact absurd z.1 (by decide))] | rw [if_neg (show ¬ (Nat.testBit 0 m = true ∧ ¬ w (0 ^^^ 2 ^ m) < 0) from fun z => z.2 (i_lt0 cq100))])
                      · skip
                        refine p_goto (tgt := 152) k190_103 (by decide) ?_
                        refine p_iincN (ls1 := [(0, _), (1, _), (2, _), (3, _), (4, _)]) k190_152 rfl rfl ?_
                        refine p_goto (tgt := 68) k190_155 (by decide) ?_
                        exact ih (m + 1) _ (by omega) (by rw [← hx]; show fld _ j (m + 1) _ = fld _ j (m + 1) _; congr 1; unfold fTp; first | rw [if_pos (And.intro cq84 (i_ge0 cq100))] | rw [if_neg (show ¬ (Nat.testBit 0 m = true ∧ ¬ w (0 ^^^ 2 ^ m) < 0) from fun z => by rw [cq84] at z; exact absurd z.1 (by decide))] | rw [if_neg (show ¬ (Nat.testBit 0 m = true ∧ ¬ w (0 ^^^ 2 ^ m) < 0) from fun z => z.2 (i_lt0 cq100))])
                rw [tD_0]
                exact L5 nh 0 _ (by omega) rfl
              | succ s ihs0 =>
                intro hs64
                refine p_iload_n k190_61 rfl ?_
                refine p_if_ltN (tgt := 164) k190_62 (by decide) (by omega) ?_
                refine p_iconst (v := nI 0) k190_65 (by decide) ?_
                refine p_istore (ls' := [(0, _), (1, _), (2, _), (3, _), (4, _)]) k190_66 rfl ?_
                have L5 : ∀ (j : Nat) (m : Nat) (x : Int32), m + j = nh → fld (fTp w (deedM I cb ce) a (s + 1)) j m x = fld (fTp w (deedM I cb ce) a (s + 1)) nh 0 (w (s + 1)) → EvP (d + 1) 190 68 [(0, .ref (98)), (1, .int (nI (q))), (2, .int (nI (a))), (3, .int (nI (s + 1))), (4, .int (nI (m)))] [] (upc B 127 (tD w (topS w (deedM I cb ce) a nh) (s + 1) x), J, K, h) (QI (fun x t => x = moM I (deedM I cb ce) nh na q w0 ∧ ∃ w, t = (upc B 127 w, J, K, h))) := by
                  intro j
                  induction j with
                  | zero =>
                    intro m x hk
                    intro hx
                    replace hx : x = _ := hx
                    refine p_iload k190_68 rfl ?_
                    refine p_aload_n k190_70 rfl ?_
                    refine p_getIv k190_71 (s_98 S) f_12_7_12 hBh ?_
                    refine p_icmp_geN (tgt := 158) k190_74 (by decide) (by omega) (by omega) (fun _ => ?_) (fun c => False.elim (by omega))
                    rw [tD_1 (w := w) (w2 := (topS w (deedM I cb ce) a nh)) (s := (s + 1)) (by unfold topS; rw [if_pos hs64]; exact hx.symm)]
                    refine p_iincD (ls1 := [(0, _), (1, _), (2, _), (3, _), (4, _)]) k190_158 rfl rfl ?_
                    refine p_goto (tgt := 61) k190_161 (by decide) ?_
                    refine p_drop [0, 1, 2, 3] rfl ?_
                    exact ihs0 (by omega)
                  | succ j ih =>
                    intro m x hk
                    intro hx
                    refine p_iload k190_68 rfl ?_
                    refine p_aload_n k190_70 rfl ?_
                    refine p_getIv k190_71 (s_98 S) f_12_7_12 hBh ?_
                    refine p_icmp_geN (tgt := 158) k190_74 (by decide) (by omega) (by omega) (fun c => False.elim (by omega)) (fun _ => ?_)
                    refine p_aload_n k190_77 rfl ?_
                    refine p_iload_n k190_78 rfl ?_
                    refine p_iload k190_79 rfl ?_
                    refine p_cV2i k190_81 (s_98 S) c_12_368_12 rfl rfl (Nat.le_of_ble_eq_true rfl) (M_has S (s := s + 1) (k := m) (by omega) (by omega)) (fun x1 m1 hq => ?_)
                    obtain ⟨rfl, rfl⟩ := hq
                    refine p_if_eqB (tgt := 152) k190_84 (by decide) (fun cq84 => ?_) (fun cq84 => ?_)
                    · skip
                      refine p_iincN (ls1 := [(0, _), (1, _), (2, _), (3, _), (4, _)]) k190_152 rfl rfl ?_
                      refine p_goto (tgt := 68) k190_155 (by decide) ?_
                      exact ih (m + 1) _ (by omega) (by rw [← hx]; show fld _ j (m + 1) _ = fld _ j (m + 1) _; congr 1; unfold fTp; first | rw [if_pos (And.intro cq84 (i_ge0 cq100))] | rw [if_neg (show ¬ (Nat.testBit (s + 1) m = true ∧ ¬ w ((s + 1) ^^^ 2 ^ m) < 0) from fun z => by rw [cq84] at z; exact absurd z.1 (by decide))] | rw [if_neg (show ¬ (Nat.testBit (s + 1) m = true ∧ ¬ w ((s + 1) ^^^ 2 ^ m) < 0) from fun z => z.2 (i_lt0 cq100))])
                    · skip
                      refine p_aload_n k190_87 rfl ?_
                      refine p_getRv k190_88 (s_98 S) f_12_138_12 (r_98_42 S) ?_
                      refine p_iload_n k190_91 rfl ?_
                      refine p_iconst (v := nI 1) k190_92 (by decide) ?_
                      refine p_iload k190_93 rfl ?_
                      refine p_ishl1 (by omega) k190_95 ?_
                      refine p_iconst (v := (-1)) k190_96 (by decide) ?_
                      refine p_ixor k190_97 ?_
                      refine p_iand k190_98 ?_
                      have hxl := xor_lt6 (s := s + 1) (k := m) (by omega) (by omega) cq84
                      refine p_toI (z := (nI ((s + 1) ^^^ 2 ^ m))) (andn6 (by omega) (by omega) cq84) ?_
                      refine p_ialdN k190_99 (s_127 S) (by omega) (by decide) (show tD w (topS w (deedM I cb ce) a nh) (s + 1) x ((s + 1) ^^^ 2 ^ m) = _ from if_pos (by omega)) ?_
                      refine p_if_ge (tgt := 106) k190_100 (by decide) (fun cq100 => ?_) (fun cq100 => ?_)
                      · skip
                        refine p_aload_n k190_106 rfl ?_
                        refine p_getRv k190_107 (s_98 S) f_12_138_12 (r_98_42 S) ?_
                        refine p_iload_n k190_110 rfl ?_
                        refine p_iconst (v := nI 1) k190_111 (by decide) ?_
                        refine p_iload k190_112 rfl ?_
                        refine p_ishl1 (by omega) k190_114 ?_
                        refine p_iconst (v := (-1)) k190_115 (by decide) ?_
                        refine p_ixor k190_116 ?_
                        refine p_iand k190_117 ?_
                        refine p_toI (z := (nI ((s + 1) ^^^ 2 ^ m))) (andn6 (by omega) (by omega) cq84) ?_
                        refine p_ialdN k190_118 (s_127 S) (by omega) (by decide) (show tD w (topS w (deedM I cb ce) a nh) (s + 1) x ((s + 1) ^^^ 2 ^ m) = _ from if_pos (by omega)) ?_
                        refine p_aload_n k190_119 rfl ?_
                        refine p_getRv k190_120 (s_98 S) f_12_129_12 (r_98_39 S) ?_
                        refine p_bipush (v := nI 6) k190_123 (by decide) ?_
                        refine p_iload_n k190_125 rfl ?_
                        refine p_imulN k190_126 ?_
                        refine p_iload k190_127 rfl ?_
                        refine p_iaddN k190_129 ?_
                        refine p_ialdN k190_130 (s_125 S) (by omega) (by decide) (hB125 a m (by omega) (by omega)) ?_
                        refine p_iadd k190_131 ?_
                        refine p_istore (ls' := [(0, _), (1, _), (2, _), (3, _), (4, _), (5, _)]) k190_132 rfl ?_
                        refine p_aload_n k190_134 rfl ?_
                        refine p_getRv k190_135 (s_98 S) f_12_138_12 (r_98_42 S) ?_
                        refine p_iload_n k190_138 rfl ?_
                        refine p_aload_n k190_139 rfl ?_
                        refine p_aload_n k190_140 rfl ?_
                        refine p_getRv k190_141 (s_98 S) f_12_138_12 (r_98_42 S) ?_
                        refine p_iload_n k190_144 rfl ?_
                        refine p_ialdN k190_145 (s_127 S) (by omega) (by decide) (show tD w (topS w (deedM I cb ce) a nh) (s + 1) x (s + 1) = x from (if_neg (Nat.lt_irrefl _)).trans (if_pos rfl)) ?_
                        refine p_iload k190_146 rfl ?_
                        refine p_cV2i k190_148 (s_98 S) c_12_332_12 rfl rfl (Nat.le_of_ble_eq_true rfl) (M_most S _ _) (fun x1 m1 hq => ?_)
                        obtain ⟨rfl, rfl⟩ := hq
                        refine p_iastN k190_151 (s_127 S) (by omega) (by decide) ?_
                        rw [upc_uu, show upc B 127 (tD w (topS w (deedM I cb ce) a nh) (s + 1) x) 127 = tD w (topS w (deedM I cb ce) a nh) (s + 1) x from rfl, tD_st]
                        refine p_iincN (ls1 := [(0, _), (1, _), (2, _), (3, _), (4, _), (5, _)]) k190_152 rfl rfl ?_
                        refine p_goto (tgt := 68) k190_155 (by decide) ?_
                        refine p_drop [0, 1, 2, 3, 4] rfl ?_
                        exact ih (m + 1) _ (by omega) (by rw [← hx]; show fld _ j (m + 1) _ = fld _ j (m + 1) _; congr 1; unfold fTp; first | rw [if_pos (And.intro cq84 (i_ge0 cq100))] | rw [if_neg (show ¬ (Nat.testBit (s + 1) m = true ∧ ¬ w ((s + 1) ^^^ 2 ^ m) < 0) from fun z => by rw [cq84] at z; exact absurd z.1 (by decide))] | rw [if_neg (show ¬ (Nat.testBit (s + 1) m = true ∧ ¬ w ((s + 1) ^^^ 2 ^ m) < 0) from fun z => z.2 (i_lt0 cq100))])
                      · skip
                        refine p_goto (tgt := 152) k190_103 (by decide) ?_
                        refine p_iincN (ls1 := [(0, _), (1, _), (2, _), (3, _), (4, _)]) k190_152 rfl rfl ?_
                        refine p_goto (tgt := 68) k190_155 (by decide) ?_
                        exact ih (m + 1) _ (by omega) (by rw [← hx]; show fld _ j (m + 1) _ = fld _ j (m + 1) _; congr 1; unfold fTp; first | rw [if_pos (And.intro cq84 (i_ge0 cq100))] | rw [if_neg (show ¬ (Nat.testBit (s + 1) m = true ∧ ¬ w ((s + 1) ^^^ 2 ^ m) < 0) from fun z => by rw [cq84] at z; exact absurd z.1 (by decide))] | rw [if_neg (show ¬ (Nat.testBit (s + 1) m = true ∧ ¬ w ((s + 1) ^^^ 2 ^ m) < 0) from fun z => z.2 (i_lt0 cq100))])
                rw [tD_0]
                exact L5 nh 0 _ (by omega) rfl
            have h63 := L4 (2 ^ nh - 1) (by omega)
            rw [show (2 ^ nh - 1) + 1 = 2 ^ nh by omega, topS_all] at h63
            exact h63
          · skip
            refine p_goto (tgt := 164) k190_49 (by decide) ?_
            refine p_iincN (ls1 := [(0, _), (1, _), (2, _)]) k190_164 rfl rfl ?_
            refine p_goto (tgt := 31) k190_167 (by decide) ?_
            exact ih0 (a + 1) _ (by omega) (by rw [← hw]; exact congrArg (fld (fMo I (deedM I cb ce) nh q) j0 (a + 1)) (by unfold fMo; rw [if_neg cq46]))
      exact L2 na 0 _ (by omega) rfl
    | succ j ih =>
      intro k u hk
      intro hu hv
      refine p_iload_n k190_2 rfl ?_
      refine p_bipush (v := nI 64) k190_3 (by decide) ?_
      refine p_icmp_geN (tgt := 29) k190_5 (by decide) (by omega) (by omega) (fun c => False.elim (by omega)) (fun _ => ?_)
      refine p_aload_n k190_8 rfl ?_
      refine p_getRv k190_9 (s_98 S) f_12_138_12 (r_98_42 S) ?_
      refine p_iload_n k190_12 rfl ?_
      refine p_iload_n k190_13 rfl ?_
      refine p_if_neN (tgt := 21) k190_14 (by decide) (by omega) (fun cq14 => ?_) (fun cq14 => ?_)
      · skip
        refine p_iconst (v := (-1)) k190_21 (by decide) ?_
        refine p_iastN k190_22 (s_127 S) (by omega) (by decide) ?_
        refine p_iincN (ls1 := [(0, _), (1, _), (2, _)]) k190_23 rfl rfl ?_
        refine p_goto (tgt := 2) k190_26 (by decide) ?_
        rw [upc_uu, upc_eq]
        refine ih (k + 1) _ (by omega) (fun s hs => ?_) (fun s hs => ?_)
        · by_cases e : s = k
          · subst e; rw [upc_eq]; unfold top0; rw [if_pos (by omega)]; first | rw [if_pos cq14] | rw [if_neg cq14]
          · rw [upc_ne _ _ e]; exact hu s (by omega)
        · rw [upc_ne _ _ (by omega)]; exact hv s hs
      · skip
        refine p_iconst (v := nI 0) k190_17 (by decide) ?_
        refine p_goto (tgt := 22) k190_18 (by decide) ?_
        refine p_iastN k190_22 (s_127 S) (by omega) (by decide) ?_
        refine p_iincN (ls1 := [(0, _), (1, _), (2, _)]) k190_23 rfl rfl ?_
        refine p_goto (tgt := 2) k190_26 (by decide) ?_
        rw [upc_uu, upc_eq]
        refine ih (k + 1) _ (by omega) (fun s hs => ?_) (fun s hs => ?_)
        · by_cases e : s = k
          · subst e; rw [upc_eq]; unfold top0; rw [if_pos (by omega)]; first | rw [if_pos cq14] | rw [if_neg cq14]
          · rw [upc_ne _ _ e]; exact hu s (by omega)
        · rw [upc_ne _ _ (by omega)]; exact hv s hs
  exact L1 64 0 w0 (by omega) (fun s hs => absurd hs (Nat.not_lt_zero _)) (fun s _ => rfl)

theorem topS_hi {w w2 : Nat → Int32} {D : Nat → Nat → Int32} {a nh : Nat} (h6 : nh ≤ 6) (h : ∀ s, s < 64 → w s = w2 s) : ∀ s, s < 64 → topS w D a nh s = topS w2 D a nh s := by
  intro s hs
  unfold topS
  by_cases e : s < 2 ^ nh
  · rw [if_pos e, if_pos e, h s hs]
    refine fld_congr (fun k h1 h2 x => ?_)
    unfold fTp
    by_cases hb : s.testBit k = true
    · have := xor_lt6 hs (show k < 6 by omega) hb
      rw [h _ (show s ^^^ 2 ^ k < 64 by omega)]
    · rw [if_neg (fun z => hb z.1), if_neg (fun z => hb z.1)]
  · rw [if_neg e, if_neg e, h s hs]
/-- the answer does not depend on what the row held -/
theorem moM_g {I : Nat → Nat → Int32} {D : Nat → Nat → Int32} {nh na q : Nat} (h6 : nh ≤ 6) (g g2 : Nat → Int32) : moM I D nh na q g = moM I D nh na q g2 := by
  have L : ∀ (j k : Nat) (w w2 : Nat → Int32), (∀ s, s < 64 → w s = w2 s) → ∀ s, s < 64 → fld (fMo I D nh q) j k w s = fld (fMo I D nh q) j k w2 s := by
    intro j
    induction j with
    | zero => intro k w w2 h s hs; exact h s hs
    | succ j ih =>
      intro k w w2 h s hs
      refine ih (k + 1) _ _ (fun z hz => ?_) s hs
      unfold fMo
      by_cases e : I 106 k = nI q
      · rw [if_pos e, if_pos e]; exact topS_hi h6 h z hz
      · rw [if_neg e, if_neg e]; exact h z hz
  unfold moM
  refine fld_congr (fun k h1 h2 x => ?_)
  unfold fMx
  rw [show moW I D nh na q g k = moW I D nh na q g2 k from L na 0 _ _ (fun s hs => by unfold top0; rw [if_pos hs, if_pos hs]) k (by omega)]
def fCa (I : Nat → Nat → Int32) (cb ce nh na : Nat) (k s : Nat) : Nat := s ||| (if moM I (deedM I cb ce) nh na k (fun _ => 0) < workF I cb ce (nI k) then 0 else 2 ^ k)
def caM (I : Nat → Nat → Int32) (cb ce nh na : Nat) : Nat := fld (fCa I cb ce nh na) 5 0 0
set_option maxRecDepth 100000 in
set_option maxHeartbeats 4000000 in
theorem M_can {d : Nat} {I : Nat → Nat → Int32} {J : Nat → Nat → Int64} {K : Nat → Nat → Option Nat} {h : List xSh} (S : St K h) {nh na dd cb ce : Nat} (M : MI I nh na dd cb ce) (g : Nat → Int32) : EvP (d + 5) 191 0 [(0, .ref (98))] [] (upc I 120 g, J, K, h) (QI (fun x t => x = nI (caM I cb ce nh na) ∧ ∃ I', t = (I', J, K, h) ∧ AG I I')) := by
  have hnh : upc I 120 g 98 0 = nI nh := M.nh
  have hnh6 := M.nh6
  have hna : upc I 120 g 98 1 = nI na := M.na
  have hna6 := M.na6
  refine p_aload_n k191_0 rfl ?_
  refine p_cV0v k191_1 (s_98 S) c_12_371_12 (Nat.le_of_ble_eq_true rfl) (M_layDeeds S M g) (fun m1 hq => ?_)
  obtain ⟨g, rfl⟩ := hq
  obtain ⟨B, hB⟩ : ∃ B, B = upc (upc I 125 (layU I nh na cb ce)) 120 g := ⟨_, rfl⟩
  rw [← hB]
  have hBh : B 98 0 = nI nh := by rw [hB]; exact M.nh
  have hBa : B 98 1 = nI na := by rw [hB]; exact M.na
  have hB106 : B 106 = I 106 := by rw [hB]; rfl
  have hB125 : ∀ a k, a < na → k < nh → B 125 (6 * a + k) = deedM I cb ce a k := fun a k h1 h2 => by rw [hB]; exact lay_at M.nh6 h1 h2
  have hBT : ∀ {w}, TH (upc B 127 w) cb ce := by intro w; rw [hB]; exact M.th
  have hBW : ∀ w t, workF (upc B 127 w) cb ce t = workF I cb ce t := by intro w t; rw [hB]; rfl
  have hAG : ∀ (w : Nat → Int32), AG I (upc B 127 w) := by
    intro w c k z
    have n : ∀ y, xsc y k = true → c ≠ y := fun y hy e => by subst e; rw [hy] at z; cases z
    rw [upc_ne _ _ (n 127 rfl), hB, upc_ne _ _ (n 120 rfl), upc_ne _ _ (n 125 rfl)]
  refine p_iconst (v := nI 0) k191_4 (by decide) ?_
  refine p_istore_n (ls' := [(0, _), (1, _)]) k191_5 rfl ?_
  refine p_iconst (v := nI 0) k191_6 (by decide) ?_
  refine p_istore_n (ls' := [(0, _), (1, _), (2, _)]) k191_7 rfl ?_
  have L : ∀ (j : Nat) (k s : Nat) (w : Nat → Int32), k + j = 5 → fld (fCa I cb ce nh na) j k s = caM I cb ce nh na → EvP (d + 5) 191 8 [(0, .ref (98)), (1, .int (nI (s))), (2, .int (nI (k)))] [] (upc B 127 w, J, K, h) (QI (fun x t => x = nI (caM I cb ce nh na) ∧ ∃ I', t = (I', J, K, h) ∧ AG I I')) := by
    intro j
    induction j with
    | zero =>
      intro k s w hk
      intro hs
      refine p_iload_n k191_8 rfl ?_
      refine p_iconst (v := nI 5) k191_9 (by decide) ?_
      refine p_icmp_geN (tgt := 42) k191_10 (by decide) (by omega) (by omega) (fun _ => ?_) (fun c => False.elim (by omega))
      refine p_iload_n k191_42 rfl ?_
      refine p_ireturn k191_43 rt_191 ?_
      exact ⟨by rw [← hs]; rfl, _, rfl, hAG w⟩
    | succ j ih =>
      intro k s w hk
      intro hs
      refine p_iload_n k191_8 rfl ?_
      refine p_iconst (v := nI 5) k191_9 (by decide) ?_
      refine p_icmp_geN (tgt := 42) k191_10 (by decide) (by omega) (by omega) (fun c => False.elim (by omega)) (fun _ => ?_)
      refine p_iload_n k191_13 rfl ?_
      refine p_aload_n k191_14 rfl ?_
      refine p_iload_n k191_15 rfl ?_
      refine p_cV1i k191_16 (s_98 S) c_12_383_12 rfl (Nat.le_of_ble_eq_true rfl) (M_mostOf S M w hBh hBa hB106 hB125 (q := k) (by omega)) (fun x1 m1 hq => ?_)
      obtain ⟨he, w2, rfl⟩ := hq
      rw [he, moM_g M.nh6 w (fun _ => 0)]
      clear he
      generalize w2 = w
      refine p_aload_n k191_19 rfl ?_
      refine p_iload_n k191_20 rfl ?_
      refine p_cV1i k191_21 (s_98 S) c_12_344_12 rfl (Nat.le_of_ble_eq_true rfl) (M_work S (I := upc B 127 w) hBT (nI k)) (fun x1 m1 hq => ?_)
      obtain ⟨rfl, rfl⟩ := hq
      rw [hBW w (nI k)]
      refine p_icmp_lt (tgt := 33) k191_24 (by decide) (fun cq24 => ?_) (fun cq24 => ?_)
      · skip
        refine p_iconst (v := nI 0) k191_33 (by decide) ?_
        refine p_iorN k191_34 ?_
        refine p_istore_n (ls' := [(0, _), (1, _), (2, _)]) k191_35 rfl ?_
        refine p_iincN (ls1 := [(0, _), (1, _), (2, _)]) k191_36 rfl rfl ?_
        refine p_goto (tgt := 8) k191_39 (by decide) ?_
        exact ih (k + 1) _ w (by omega) (by rw [← hs]; exact congrArg (fld (fCa I cb ce nh na) j (k + 1)) (by unfold fCa; first | rw [if_pos cq24] | rw [if_neg cq24]))
      · skip
        refine p_iconst (v := nI 1) k191_27 (by decide) ?_
        refine p_iload_n k191_28 rfl ?_
        refine p_ishl1 (by omega) k191_29 ?_
        refine p_goto (tgt := 34) k191_30 (by decide) ?_
        refine p_iorN k191_34 ?_
        refine p_istore_n (ls' := [(0, _), (1, _), (2, _)]) k191_35 rfl ?_
        refine p_iincN (ls1 := [(0, _), (1, _), (2, _)]) k191_36 rfl rfl ?_
        refine p_goto (tgt := 8) k191_39 (by decide) ?_
        exact ih (k + 1) _ w (by omega) (by rw [← hs]; exact congrArg (fld (fCa I cb ce nh na) j (k + 1)) (by unfold fCa; first | rw [if_pos cq24] | rw [if_neg cq24]))
  refine p_self 127 ?_
  exact L 5 0 0 _ (by omega) rfl

/-- whether head k owns what head o owns too, and that is on some head -/
def claP (I : Nat → Nat → Int32) (nh k o : Nat) : Bool := decide (¬ I 100 k < 0 ∧ I 100 k = I 100 o ∧ (fnd (isI (I 101) (I 100 k)) nh 0).isSome = true)
def claM (I : Nat → Nat → Int32) (nh : Nat) : Bool := (fnd (fun k => (fnd (claP I nh k) (nh - (k + 1)) (k + 1)).isSome) nh 0).isSome
theorem optI_neg {o : Option Nat} (h : ∀ k, o = some k → k < 2 ^ 31) : (optI (-5) o < 0) ↔ o.isSome = false := by
  cases o with
  | none => exact ⟨fun _ => rfl, fun _ => by decide⟩
  | some k =>
    refine ⟨fun z => ?_, fun z => by cases z⟩
    have hk := h k rfl
    rw [i_lt] at z
    rw [show optI (-5) (some k) = nI k from rfl, nI_t hk] at z
    exact absurd z (by show ¬ (k : Int) < 0; omega)
set_option maxRecDepth 100000 in
set_option maxHeartbeats 4000000 in
theorem M_isClash {d : Nat} {I : Nat → Nat → Int32} {J : Nat → Nat → Int64} {K : Nat → Nat → Option Nat} {h : List xSh} (S : St K h) {nh na dd cb ce : Nat} (M : MI I nh na dd cb ce)  : EvP (d + 1) 192 0 [(0, .ref (98))] [] (I, J, K, h) (QI (fun x t => x = bI (claM I nh) ∧ t = (I, J, K, h))) := by
  have hnh := M.nh
  have hnh6 := M.nh6
  have hna := M.na
  have hna6 := M.na6
  refine p_iconst (v := nI 0) k192_0 (by decide) ?_
  refine p_istore_n (ls' := [(0, _), (1, _)]) k192_1 rfl ?_
  have L : ∀ (j : Nat) (k : Nat), k + j = nh → claM I nh = (fnd (fun k => (fnd (claP I nh k) (nh - (k + 1)) (k + 1)).isSome) j k).isSome → EvP (d + 1) 192 2 [(0, .ref (98)), (1, .int (nI (k)))] [] (I, J, K, h) (QI (fun x t => x = bI (claM I nh) ∧ t = (I, J, K, h))) := by
    intro j
    induction j with
    | zero =>
      intro k hk
      intro hs
      refine p_iload_n k192_2 rfl ?_
      refine p_aload_n k192_3 rfl ?_
      refine p_getIv k192_4 (s_98 S) f_12_7_12 M.nh ?_
      refine p_icmp_geN (tgt := 73) k192_7 (by decide) (by omega) (by omega) (fun _ => ?_) (fun c => False.elim (by omega))
      refine p_iconst (v := bI false) k192_73 (by decide) ?_
      refine p_returnB k192_74 rt_192 ?_
      exact ⟨by rw [hs]; rfl, rfl⟩
    | succ j ih =>
      intro k hk
      intro hs
      have ih0 := ih
      obtain ⟨j0, hj0⟩ : ∃ j0, j0 = j := ⟨j, rfl⟩
      rw [← hj0] at ih0 hs
      refine p_iload_n k192_2 rfl ?_
      refine p_aload_n k192_3 rfl ?_
      refine p_getIv k192_4 (s_98 S) f_12_7_12 M.nh ?_
      refine p_icmp_geN (tgt := 73) k192_7 (by decide) (by omega) (by omega) (fun c => False.elim (by omega)) (fun _ => ?_)
      refine p_iload_n k192_10 rfl ?_
      refine p_iconst (v := nI 1) k192_11 (by decide) ?_
      refine p_iaddN k192_12 ?_
      refine p_istore_n (ls' := [(0, _), (1, _), (2, _)]) k192_13 rfl ?_
      have L2 : ∀ (j : Nat) (m : Nat), m + j = nh → k < m → claM I nh = (if (fnd (claP I nh k) j m).isSome = true then true else (fnd (fun k => (fnd (claP I nh k) (nh - (k + 1)) (k + 1)).isSome) j0 (k + 1)).isSome) → EvP (d + 1) 192 14 [(0, .ref (98)), (1, .int (nI (k))), (2, .int (nI (m)))] [] (I, J, K, h) (QI (fun x t => x = bI (claM I nh) ∧ t = (I, J, K, h))) := by
        intro j
        induction j with
        | zero =>
          intro m hk
          intro hkm hm
          refine p_iload_n k192_14 rfl ?_
          refine p_aload_n k192_15 rfl ?_
          refine p_getIv k192_16 (s_98 S) f_12_7_12 M.nh ?_
          refine p_icmp_geN (tgt := 67) k192_19 (by decide) (by omega) (by omega) (fun _ => ?_) (fun c => False.elim (by omega))
          refine p_iincN (ls1 := [(0, _), (1, _), (2, _)]) k192_67 rfl rfl ?_
          refine p_goto (tgt := 2) k192_70 (by decide) ?_
          refine p_drop [0, 1] rfl ?_
          exact ih0 (k + 1) (by omega) hm
        | succ j ih =>
          intro m hk
          intro hkm hm
          refine p_iload_n k192_14 rfl ?_
          refine p_aload_n k192_15 rfl ?_
          refine p_getIv k192_16 (s_98 S) f_12_7_12 M.nh ?_
          refine p_icmp_geN (tgt := 67) k192_19 (by decide) (by omega) (by omega) (fun c => False.elim (by omega)) (fun _ => ?_)
          refine p_aload_n k192_22 rfl ?_
          refine p_getRv k192_23 (s_98 S) f_12_23_12 (r_98_4 S) ?_
          refine p_iload_n k192_26 rfl ?_
          refine p_ialdN k192_27 (s_100 S) (by omega) (by decide) rfl ?_
          refine p_if_lt (tgt := 61) k192_28 (by decide) (fun cq28 => ?_) (fun cq28 => ?_)
          · skip
            refine p_iincN (ls1 := [(0, _), (1, _), (2, _)]) k192_61 rfl rfl ?_
            refine p_goto (tgt := 14) k192_64 (by decide) ?_
            have hP : ¬ (claP I nh k) m = true := by unfold claP; rw [decide_eq_true_iff]; intro z; first | exact z.1 cq28 | exact cq43 z.2.1 | (have z2 := z.2.2; rw [hon cq56] at z2; cases z2)
            exact ih (m + 1) (by omega) (by omega) (by rw [hm]; exact congrArg (fun o : Option Nat => (if o.isSome = true then true else (fnd (fun k => (fnd (claP I nh k) (nh - (k + 1)) (k + 1)).isSome) j0 (k + 1)).isSome)) (if_neg hP))
          · skip
            refine p_aload_n k192_31 rfl ?_
            refine p_getRv k192_32 (s_98 S) f_12_23_12 (r_98_4 S) ?_
            refine p_iload_n k192_35 rfl ?_
            refine p_ialdN k192_36 (s_100 S) (by omega) (by decide) rfl ?_
            refine p_aload_n k192_37 rfl ?_
            refine p_getRv k192_38 (s_98 S) f_12_23_12 (r_98_4 S) ?_
            refine p_iload_n k192_41 rfl ?_
            refine p_ialdN k192_42 (s_100 S) (by omega) (by decide) rfl ?_
            refine p_icmp_ne (tgt := 61) k192_43 (by decide) (fun cq43 => ?_) (fun cq43 => ?_)
            · skip
              refine p_iincN (ls1 := [(0, _), (1, _), (2, _)]) k192_61 rfl rfl ?_
              refine p_goto (tgt := 14) k192_64 (by decide) ?_
              have hP : ¬ (claP I nh k) m = true := by unfold claP; rw [decide_eq_true_iff]; intro z; first | exact z.1 cq28 | exact cq43 z.2.1 | (have z2 := z.2.2; rw [hon cq56] at z2; cases z2)
              exact ih (m + 1) (by omega) (by omega) (by rw [hm]; exact congrArg (fun o : Option Nat => (if o.isSome = true then true else (fnd (fun k => (fnd (claP I nh k) (nh - (k + 1)) (k + 1)).isSome) j0 (k + 1)).isSome)) (if_neg hP))
            · skip
              refine p_aload_n k192_46 rfl ?_
              refine p_aload_n k192_47 rfl ?_
              refine p_getRv k192_48 (s_98 S) f_12_23_12 (r_98_4 S) ?_
              refine p_iload_n k192_51 rfl ?_
              refine p_ialdN k192_52 (s_100 S) (by omega) (by decide) rfl ?_
              refine p_cV1i k192_53 (s_98 S) c_12_262_12 rfl (Nat.le_of_ble_eq_true rfl) (M_headOf S hnh hnh6 _) (fun x1 m1 hq => ?_)
              obtain ⟨rfl, rfl⟩ := hq
              have hon : optI (-5) (fnd (isI (I 101) (I 100 k)) nh 0) < 0 → (fnd (isI (I 101) (I 100 k)) nh 0).isSome = false := (optI_neg (fun k hk => by have := (fnd_some hk).2.1; omega)).mp
              have hon2 : ¬ optI (-5) (fnd (isI (I 101) (I 100 k)) nh 0) < 0 → (fnd (isI (I 101) (I 100 k)) nh 0).isSome = true := fun z => by cases e : (fnd (isI (I 101) (I 100 k)) nh 0).isSome with | true => rfl | false => exact absurd ((optI_neg (fun k hk => by have := (fnd_some hk).2.1; omega)).mpr e) z
              refine p_if_lt (tgt := 61) k192_56 (by decide) (fun cq56 => ?_) (fun cq56 => ?_)
              · skip
                refine p_iincN (ls1 := [(0, _), (1, _), (2, _)]) k192_61 rfl rfl ?_
                refine p_goto (tgt := 14) k192_64 (by decide) ?_
                have hP : ¬ (claP I nh k) m = true := by unfold claP; rw [decide_eq_true_iff]; intro z; first | exact z.1 cq28 | exact cq43 z.2.1 | (have z2 := z.2.2; rw [hon cq56] at z2; cases z2)
                exact ih (m + 1) (by omega) (by omega) (by rw [hm]; exact congrArg (fun o : Option Nat => (if o.isSome = true then true else (fnd (fun k => (fnd (claP I nh k) (nh - (k + 1)) (k + 1)).isSome) j0 (k + 1)).isSome)) (if_neg hP))
              · skip
                refine p_iconst (v := bI true) k192_59 (by decide) ?_
                refine p_returnB k192_60 rt_192 ?_
                have hP : (claP I nh k) m = true := by unfold claP; rw [decide_eq_true_iff]; exact ⟨cq28, cq43, hon2 cq56⟩
                exact ⟨by rw [hm]; exact congrArg bI (show true = (if (fnd (claP I nh k) (j + 1) m).isSome = true then true else (fnd (fun k => (fnd (claP I nh k) (nh - (k + 1)) (k + 1)).isSome) j0 (k + 1)).isSome) from by rw [show fnd (claP I nh k) (j + 1) m = some m from if_pos hP]; rfl), rfl⟩
      exact L2 (nh - (k + 1)) (k + 1) (by omega) (by omega) (by rw [hs]; show (if (fnd (claP I nh k) (nh - (k + 1)) (k + 1)).isSome = true then some k else fnd (fun k => (fnd (claP I nh k) (nh - (k + 1)) (k + 1)).isSome) j0 (k + 1)).isSome = _; split <;> rfl)
  exact L nh 0 (by omega) rfl

/-- from head x on to where its hat is to go, while that is above k: whether it comes back to k -/
def rngF (due : Nat → Int32) (k : Nat) : Nat → Int32 → Option Bool
  | 0, _ => none
  | f + 1, x => if x ≤ nI k then some (decide (x = nI k)) else rngF due k f (due x.toNatClampNeg)
def rngM (I : Nat → Nat → Int32) (nh k : Nat) : Option Bool := rngF (dueM I nh) k 8 (dueM I nh k)
theorem due_lt {I : Nat → Nat → Int32} {nh q : Nat} : dueM I nh q = -1 ∨ ∃ o, o < nh ∧ dueM I nh q = nI o := by
  unfold dueM
  split
  · exact Or.inl rfl
  · cases e : fnd (dueP I q) nh 0 with
    | none => exact Or.inl rfl
    | some o => exact Or.inr ⟨o, by have := (fnd_some e).2.1; omega, rfl⟩
theorem rng_gt {x : Int32} {k nh : Nat} (hk : k < 6) (h6 : nh ≤ 6) (hx : x = -1 ∨ ∃ o, o < nh ∧ x = nI o) (h : ¬ x ≤ nI k) : ∃ o, o < nh ∧ x = nI o := by
  rcases hx with rfl | h2
  · exact absurd (by rw [i_le, nI_t (by omega)]; show (-1 : Int) ≤ k; omega) h
  · exact h2
set_option maxRecDepth 100000 in
set_option maxHeartbeats 4000000 in
theorem M_isRing {d : Nat} {I : Nat → Nat → Int32} {J : Nat → Nat → Int64} {K : Nat → Nat → Option Nat} {h : List xSh} (S : St K h) {nh na dd cb ce : Nat} (M : MI I nh na dd cb ce) {k : Nat} (hk6 : k < nh) {b : Bool} (hr0 : rngM I nh k = some b) : EvP (d + 1) 194 0 [(0, .ref (98)), (1, .int (nI (k)))] [] (I, J, K, h) (QI (fun x t => x = bI (if dueM I nh k = nI k then false else b) ∧ t = (I, J, K, h))) := by
  have hnh := M.nh
  have hnh6 := M.nh6
  have hna := M.na
  have hna6 := M.na6
  refine p_aload_n k194_0 rfl ?_
  refine p_iload_n k194_1 rfl ?_
  refine p_cV1i k194_2 (s_98 S) c_12_386_12 rfl (Nat.le_of_ble_eq_true rfl) (M_dueFor S M (q := k) (by omega)) (fun x1 m1 hq => ?_)
  obtain ⟨rfl, rfl⟩ := hq
  refine p_istore_n (ls' := [(0, _), (1, _), (2, _)]) k194_5 rfl ?_
  refine p_iload_n k194_6 rfl ?_
  refine p_iload_n k194_7 rfl ?_
  refine p_icmp_ne (tgt := 13) k194_8 (by decide) (fun cq8 => ?_) (fun cq8 => ?_)
  · skip
    have L : ∀ (j : Nat) (x : Int32), (x = -1 ∨ ∃ o, o < nh ∧ x = nI o) → rngF (dueM I nh) k j x = some b → EvP (d + 1) 194 13 [(0, .ref (98)), (1, .int (nI (k))), (2, .int (x))] [] (I, J, K, h) (QI (fun x t => x = bI (if dueM I nh k = nI k then false else b) ∧ t = (I, J, K, h))) := by
      intro j
      induction j with
      | zero =>
        intro x hk
        intro hr
        cases hr
      | succ j ih =>
        intro x hk
        intro hr
        refine p_iload_n k194_13 rfl ?_
        refine p_iload_n k194_14 rfl ?_
        refine p_icmp_le (tgt := 27) k194_15 (by decide) (fun cq15 => ?_) (fun cq15 => ?_)
        · skip
          refine p_iload_n k194_27 rfl ?_
          refine p_iload_n k194_28 rfl ?_
          refine p_icmp_ne (tgt := 36) k194_29 (by decide) (fun cq29 => ?_) (fun cq29 => ?_)
          · skip
            refine p_iconst (v := bI false) k194_36 (by decide) ?_
            refine p_returnB k194_37 rt_194 ?_
            exact ⟨by rw [if_neg cq8]; congr 1; have h9 : some (decide (x = nI k)) = some b := (if_pos cq15).symm.trans hr; rw [← Option.some.inj h9]; first | rw [decide_eq_true cq29] | rw [decide_eq_false cq29], rfl⟩
          · skip
            refine p_iconst (v := bI true) k194_32 (by decide) ?_
            refine p_goto (tgt := 37) k194_33 (by decide) ?_
            refine p_returnB k194_37 rt_194 ?_
            exact ⟨by rw [if_neg cq8]; congr 1; have h9 : some (decide (x = nI k)) = some b := (if_pos cq15).symm.trans hr; rw [← Option.some.inj h9]; first | rw [decide_eq_true cq29] | rw [decide_eq_false cq29], rfl⟩
        · skip
          obtain ⟨o, ho, hxo⟩ := rng_gt (by omega) hnh6 hk cq15
          replace hr : rngF (dueM I nh) k j (dueM I nh x.toNatClampNeg) = some b := (if_neg cq15).symm.trans hr
          rw [hxo, nI_clamp (by omega)] at hr
          refine p_aload_n k194_18 rfl ?_
          refine p_iload_n k194_19 rfl ?_
          refine p_cV1i k194_20 (s_98 S) c_12_386_12 rfl (Nat.le_of_ble_eq_true rfl) ((by rw [hxo]; exact M_dueFor S M (q := o) (by omega))) (fun x1 m1 hq => ?_)
          obtain ⟨rfl, rfl⟩ := hq
          refine p_istore_n (ls' := [(0, _), (1, _), (2, _)]) k194_23 rfl ?_
          refine p_goto (tgt := 13) k194_24 (by decide) ?_
          exact ih _ due_lt hr
    exact L 8 _ due_lt hr0
  · skip
    refine p_iconst (v := bI false) k194_11 (by decide) ?_
    refine p_returnB k194_12 rt_194 ?_
    exact ⟨by rw [if_pos cq8], rfl⟩

def ringB (I : Nat → Nat → Int32) (nh k : Nat) : Bool := if dueM I nh k = nI k then false else (match rngM I nh k with
  | some b => b
  | none => false)
def fBa (I : Nat → Nat → Int32) (nh : Nat) (k : Nat) (x : Int32) : Int32 := x + (if dueM I nh k < 0 ∨ dueM I nh k = nI k then nI 0 else nI 1) - (if ringB I nh k = true then nI 1 else nI 0)
def backM (I : Nat → Nat → Int32) (nh : Nat) : Int32 := if claM I nh = true then -5 else fld (fBa I nh) nh 0 (nI 0)
set_option maxRecDepth 100000 in
set_option maxHeartbeats 4000000 in
theorem M_back {d : Nat} {I : Nat → Nat → Int32} {J : Nat → Nat → Int64} {K : Nat → Nat → Option Nat} {h : List xSh} (S : St K h) {nh na dd cb ce : Nat} (M : MI I nh na dd cb ce) (hR : claM I nh = false → ∀ k, k < nh → ∃ b, rngM I nh k = some b) : EvP (d + 2) 195 0 [(0, .ref (98))] [] (I, J, K, h) (QI (fun x t => x = backM I nh ∧ t = (I, J, K, h))) := by
  have hnh := M.nh
  have hnh6 := M.nh6
  have hna := M.na
  have hna6 := M.na6
  refine p_aload_n k195_0 rfl ?_
  refine p_cV0i k195_1 (s_98 S) c_12_389_12 (Nat.le_of_ble_eq_true rfl) (M_isClash S M) (fun x1 m1 hq => ?_)
  obtain ⟨rfl, rfl⟩ := hq
  refine p_if_eqB (tgt := 10) k195_4 (by decide) (fun cq4 => ?_) (fun cq4 => ?_)
  · skip
    refine p_iconst (v := nI 0) k195_10 (by decide) ?_
    refine p_istore_n (ls' := [(0, _), (1, _)]) k195_11 rfl ?_
    refine p_iconst (v := nI 0) k195_12 (by decide) ?_
    refine p_istore_n (ls' := [(0, _), (1, _), (2, _)]) k195_13 rfl ?_
    have L : ∀ (j : Nat) (k : Nat) (x : Int32), k + j = nh → fld (fBa I nh) j k x = fld (fBa I nh) nh 0 (nI 0) → EvP (d + 2) 195 14 [(0, .ref (98)), (1, .int (x)), (2, .int (nI (k)))] [] (I, J, K, h) (QI (fun x t => x = backM I nh ∧ t = (I, J, K, h))) := by
      intro j
      induction j with
      | zero =>
        intro k x hk
        intro hx
        refine p_iload_n k195_14 rfl ?_
        refine p_aload_n k195_15 rfl ?_
        refine p_getIv k195_16 (s_98 S) f_12_7_12 M.nh ?_
        refine p_icmp_geN (tgt := 69) k195_19 (by decide) (by omega) (by omega) (fun _ => ?_) (fun c => False.elim (by omega))
        refine p_iload_n k195_69 rfl ?_
        refine p_ireturn k195_70 rt_195 ?_
        exact ⟨by unfold backM; rw [if_neg (by rw [cq4]; decide)]; exact hx, rfl⟩
      | succ j ih =>
        intro k x hk
        intro hx
        refine p_iload_n k195_14 rfl ?_
        refine p_aload_n k195_15 rfl ?_
        refine p_getIv k195_16 (s_98 S) f_12_7_12 M.nh ?_
        refine p_icmp_geN (tgt := 69) k195_19 (by decide) (by omega) (by omega) (fun c => False.elim (by omega)) (fun _ => ?_)
        refine p_iload_n k195_22 rfl ?_
        refine p_aload_n k195_23 rfl ?_
        refine p_iload_n k195_24 rfl ?_
        refine p_cV1i k195_25 (s_98 S) c_12_386_12 rfl (Nat.le_of_ble_eq_true rfl) (M_dueFor S M (q := k) (by omega)) (fun x1 m1 hq => ?_)
        obtain ⟨rfl, rfl⟩ := hq
        refine p_if_lt (tgt := 44) k195_28 (by decide) (fun cq28 => ?_) (fun cq28 => ?_)
        · skip
          refine p_iconst (v := nI 0) k195_44 (by decide) ?_
          refine p_iadd k195_45 ?_
          refine p_istore_n (ls' := [(0, _), (1, _), (2, _)]) k195_46 rfl ?_
          refine p_iload_n k195_47 rfl ?_
          refine p_aload_n k195_48 rfl ?_
          obtain ⟨b, hb⟩ := hR cq4 k (by omega)
          refine p_iload_n k195_49 rfl ?_
          refine p_cV1i k195_50 (s_98 S) c_12_392_12 rfl (Nat.le_of_ble_eq_true rfl) (M_isRing S M (k := k) (by omega) hb) (fun x1 m1 hq => ?_)
          obtain ⟨rfl, rfl⟩ := hq
          rw [show (if dueM I nh k = nI k then false else b) = ringB I nh k from by unfold ringB; rw [hb]]
          refine p_if_eqB (tgt := 60) k195_53 (by decide) (fun cq53 => ?_) (fun cq53 => ?_)
          · skip
            refine p_iconst (v := nI 0) k195_60 (by decide) ?_
            refine p_isub k195_61 ?_
            refine p_istore_n (ls' := [(0, _), (1, _), (2, _)]) k195_62 rfl ?_
            refine p_iincN (ls1 := [(0, _), (1, _), (2, _)]) k195_63 rfl rfl ?_
            refine p_goto (tgt := 14) k195_66 (by decide) ?_
            exact ih (k + 1) _ (by omega) (by rw [← hx]; show fld _ j (k + 1) _ = fld _ j (k + 1) _; congr 1; unfold fBa; (first | rw [if_pos (Or.inl cq28)] | rw [if_pos (Or.inr cq37)] | rw [if_neg (fun z => z.elim cq28 cq37)]); first | rw [if_pos cq53] | rw [if_neg (by rw [cq53]; decide)])
          · skip
            refine p_iconst (v := nI 1) k195_56 (by decide) ?_
            refine p_goto (tgt := 61) k195_57 (by decide) ?_
            refine p_isub k195_61 ?_
            refine p_istore_n (ls' := [(0, _), (1, _), (2, _)]) k195_62 rfl ?_
            refine p_iincN (ls1 := [(0, _), (1, _), (2, _)]) k195_63 rfl rfl ?_
            refine p_goto (tgt := 14) k195_66 (by decide) ?_
            exact ih (k + 1) _ (by omega) (by rw [← hx]; show fld _ j (k + 1) _ = fld _ j (k + 1) _; congr 1; unfold fBa; (first | rw [if_pos (Or.inl cq28)] | rw [if_pos (Or.inr cq37)] | rw [if_neg (fun z => z.elim cq28 cq37)]); first | rw [if_pos cq53] | rw [if_neg (by rw [cq53]; decide)])
        · skip
          refine p_aload_n k195_31 rfl ?_
          refine p_iload_n k195_32 rfl ?_
          refine p_cV1i k195_33 (s_98 S) c_12_386_12 rfl (Nat.le_of_ble_eq_true rfl) (M_dueFor S M (q := k) (by omega)) (fun x1 m1 hq => ?_)
          obtain ⟨rfl, rfl⟩ := hq
          refine p_iload_n k195_36 rfl ?_
          refine p_icmp_eq (tgt := 44) k195_37 (by decide) (fun cq37 => ?_) (fun cq37 => ?_)
          · skip
            refine p_iconst (v := nI 0) k195_44 (by decide) ?_
            refine p_iadd k195_45 ?_
            refine p_istore_n (ls' := [(0, _), (1, _), (2, _)]) k195_46 rfl ?_
            refine p_iload_n k195_47 rfl ?_
            refine p_aload_n k195_48 rfl ?_
            obtain ⟨b, hb⟩ := hR cq4 k (by omega)
            refine p_iload_n k195_49 rfl ?_
            refine p_cV1i k195_50 (s_98 S) c_12_392_12 rfl (Nat.le_of_ble_eq_true rfl) (M_isRing S M (k := k) (by omega) hb) (fun x1 m1 hq => ?_)
            obtain ⟨rfl, rfl⟩ := hq
            rw [show (if dueM I nh k = nI k then false else b) = ringB I nh k from by unfold ringB; rw [hb]]
            refine p_if_eqB (tgt := 60) k195_53 (by decide) (fun cq53 => ?_) (fun cq53 => ?_)
            · skip
              refine p_iconst (v := nI 0) k195_60 (by decide) ?_
              refine p_isub k195_61 ?_
              refine p_istore_n (ls' := [(0, _), (1, _), (2, _)]) k195_62 rfl ?_
              refine p_iincN (ls1 := [(0, _), (1, _), (2, _)]) k195_63 rfl rfl ?_
              refine p_goto (tgt := 14) k195_66 (by decide) ?_
              exact ih (k + 1) _ (by omega) (by rw [← hx]; show fld _ j (k + 1) _ = fld _ j (k + 1) _; congr 1; unfold fBa; (first | rw [if_pos (Or.inl cq28)] | rw [if_pos (Or.inr cq37)] | rw [if_neg (fun z => z.elim cq28 cq37)]); first | rw [if_pos cq53] | rw [if_neg (by rw [cq53]; decide)])
            · skip
              refine p_iconst (v := nI 1) k195_56 (by decide) ?_
              refine p_goto (tgt := 61) k195_57 (by decide) ?_
              refine p_isub k195_61 ?_
              refine p_istore_n (ls' := [(0, _), (1, _), (2, _)]) k195_62 rfl ?_
              refine p_iincN (ls1 := [(0, _), (1, _), (2, _)]) k195_63 rfl rfl ?_
              refine p_goto (tgt := 14) k195_66 (by decide) ?_
              exact ih (k + 1) _ (by omega) (by rw [← hx]; show fld _ j (k + 1) _ = fld _ j (k + 1) _; congr 1; unfold fBa; (first | rw [if_pos (Or.inl cq28)] | rw [if_pos (Or.inr cq37)] | rw [if_neg (fun z => z.elim cq28 cq37)]); first | rw [if_pos cq53] | rw [if_neg (by rw [cq53]; decide)])
          · skip
            refine p_iconst (v := nI 1) k195_40 (by decide) ?_
            refine p_goto (tgt := 45) k195_41 (by decide) ?_
            refine p_iadd k195_45 ?_
            refine p_istore_n (ls' := [(0, _), (1, _), (2, _)]) k195_46 rfl ?_
            refine p_iload_n k195_47 rfl ?_
            refine p_aload_n k195_48 rfl ?_
            obtain ⟨b, hb⟩ := hR cq4 k (by omega)
            refine p_iload_n k195_49 rfl ?_
            refine p_cV1i k195_50 (s_98 S) c_12_392_12 rfl (Nat.le_of_ble_eq_true rfl) (M_isRing S M (k := k) (by omega) hb) (fun x1 m1 hq => ?_)
            obtain ⟨rfl, rfl⟩ := hq
            rw [show (if dueM I nh k = nI k then false else b) = ringB I nh k from by unfold ringB; rw [hb]]
            refine p_if_eqB (tgt := 60) k195_53 (by decide) (fun cq53 => ?_) (fun cq53 => ?_)
            · skip
              refine p_iconst (v := nI 0) k195_60 (by decide) ?_
              refine p_isub k195_61 ?_
              refine p_istore_n (ls' := [(0, _), (1, _), (2, _)]) k195_62 rfl ?_
              refine p_iincN (ls1 := [(0, _), (1, _), (2, _)]) k195_63 rfl rfl ?_
              refine p_goto (tgt := 14) k195_66 (by decide) ?_
              exact ih (k + 1) _ (by omega) (by rw [← hx]; show fld _ j (k + 1) _ = fld _ j (k + 1) _; congr 1; unfold fBa; (first | rw [if_pos (Or.inl cq28)] | rw [if_pos (Or.inr cq37)] | rw [if_neg (fun z => z.elim cq28 cq37)]); first | rw [if_pos cq53] | rw [if_neg (by rw [cq53]; decide)])
            · skip
              refine p_iconst (v := nI 1) k195_56 (by decide) ?_
              refine p_goto (tgt := 61) k195_57 (by decide) ?_
              refine p_isub k195_61 ?_
              refine p_istore_n (ls' := [(0, _), (1, _), (2, _)]) k195_62 rfl ?_
              refine p_iincN (ls1 := [(0, _), (1, _), (2, _)]) k195_63 rfl rfl ?_
              refine p_goto (tgt := 14) k195_66 (by decide) ?_
              exact ih (k + 1) _ (by omega) (by rw [← hx]; show fld _ j (k + 1) _ = fld _ j (k + 1) _; congr 1; unfold fBa; (first | rw [if_pos (Or.inl cq28)] | rw [if_pos (Or.inr cq37)] | rw [if_neg (fun z => z.elim cq28 cq37)]); first | rw [if_pos cq53] | rw [if_neg (by rw [cq53]; decide)])
    exact L nh 0 _ (by omega) rfl
  · skip
    refine p_bipush (v := (-5)) k195_7 (by decide) ?_
    refine p_ireturn k195_9 rt_195 ?_
    exact ⟨by unfold backM; rw [if_pos cq4], rfl⟩

