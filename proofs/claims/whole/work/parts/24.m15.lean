/-! the reference: image, undo, odds, mean, who -/
/-- cells become others' places, as far as ln says -/
def cpM (sD ln : Nat → Nat) (I : Nat → Nat → Int32) : Nat → Nat → Int32 := fun c m => if m < ln c then I (sD c) m else I c m
theorem cp_0 (sD : Nat → Nat) (I : Nat → Nat → Int32) : cpM sD (fun _ => 0) I = I := by
  funext c m
  exact if_neg (Nat.not_lt_zero _)
theorem cp_src {sD ln : Nat → Nat} {I : Nat → Nat → Int32} {c m : Nat} (h : sD c = c) : cpM sD ln I c m = I c m := by
  unfold cpM
  rw [h, ite_self]
theorem cp_st {sD ln : Nat → Nat} {I : Nat → Nat → Int32} {cq0 k : Nat} {v : Int32} (hk : ln cq0 = k) (hv : I (sD cq0) k = v) : upc (cpM sD ln I) cq0 (upc (cpM sD ln I cq0) k v) = cpM sD (upc ln cq0 (k + 1)) I := by
  funext c m
  by_cases h : c = cq0
  · subst h
    rw [upc_eq]
    by_cases h2 : m = k
    · subst h2
      rw [upc_eq]
      unfold cpM
      rw [upc_eq, if_pos (Nat.lt_succ_self _), hv]
    · rw [upc_ne _ _ h2]
      unfold cpM
      rw [upc_eq, hk]
      by_cases h3 : m < k
      · rw [if_pos h3, if_pos (by omega)]
      · rw [if_neg h3, if_neg (by omega)]
  · rw [upc_ne _ _ h]
    unfold cpM
    rw [upc_ne _ _ h]
def sDi (c : Nat) : Nat := match c with
  | 133 => 99
  | 134 => 100
  | 135 => 101
  | 136 => 102
  | 137 => 103
  | 138 => 104
  | 139 => 105
  | 140 => 106
  | 141 => 107
  | 142 => 108
  | 143 => 109
  | 144 => 128
  | 145 => 129
  | 146 => 131
  | 147 => 132
  | _ => c
def sDu (c : Nat) : Nat := match c with
  | 99 => 133
  | 100 => 134
  | 101 => 135
  | 102 => 136
  | 103 => 137
  | 104 => 138
  | 105 => 139
  | 106 => 140
  | 107 => 141
  | 108 => 142
  | 109 => 143
  | 128 => 144
  | 129 => 145
  | 131 => 146
  | 132 => 147
  | _ => c
def li0 (k : Nat) : Nat → Nat := upc (upc (upc (upc (upc (upc (upc (upc (upc (upc (upc (fun _ => 0) 133 (k)) 134 (k)) 135 (k)) 136 (k)) 137 (k)) 138 (k)) 139 (k)) 140 (k)) 141 (k)) 144 (k)) 145 (k)
theorem li0_st (k : Nat) : upc (upc (upc (upc (upc (upc (upc (upc (upc (upc (upc (li0 k) 133 (k + 1)) 134 (k + 1)) 135 (k + 1)) 136 (k + 1)) 137 (k + 1)) 138 (k + 1)) 139 (k + 1)) 140 (k + 1)) 141 (k + 1)) 144 (k + 1)) 145 (k + 1) = li0 (k + 1) := by
  funext c
  by_cases h145 : c = 145
  · subst h145; rfl
  by_cases h144 : c = 144
  · subst h144; rfl
  by_cases h141 : c = 141
  · subst h141; rfl
  by_cases h140 : c = 140
  · subst h140; rfl
  by_cases h139 : c = 139
  · subst h139; rfl
  by_cases h138 : c = 138
  · subst h138; rfl
  by_cases h137 : c = 137
  · subst h137; rfl
  by_cases h136 : c = 136
  · subst h136; rfl
  by_cases h135 : c = 135
  · subst h135; rfl
  by_cases h134 : c = 134
  · subst h134; rfl
  by_cases h133 : c = 133
  · subst h133; rfl
  simp only [upc, li0, h133, h134, h135, h136, h137, h138, h139, h140, h141, h144, h145, if_false]
theorem li0_0 : li0 0 = fun _ => 0 := by
  funext c
  by_cases h145 : c = 145
  · subst h145; rfl
  by_cases h144 : c = 144
  · subst h144; rfl
  by_cases h141 : c = 141
  · subst h141; rfl
  by_cases h140 : c = 140
  · subst h140; rfl
  by_cases h139 : c = 139
  · subst h139; rfl
  by_cases h138 : c = 138
  · subst h138; rfl
  by_cases h137 : c = 137
  · subst h137; rfl
  by_cases h136 : c = 136
  · subst h136; rfl
  by_cases h135 : c = 135
  · subst h135; rfl
  by_cases h134 : c = 134
  · subst h134; rfl
  by_cases h133 : c = 133
  · subst h133; rfl
  simp only [upc, li0, h133, h134, h135, h136, h137, h138, h139, h140, h141, h144, h145, if_false]
def li1 (k : Nat) : Nat → Nat := upc (li0 6) 142 (k)
theorem li1_st (k : Nat) : upc (li1 k) 142 (k + 1) = li1 (k + 1) := by
  funext c
  by_cases h142 : c = 142
  · subst h142; rfl
  simp only [upc, li1, h142, if_false]
theorem li1_0 : li1 0 = li0 6 := by
  funext c
  by_cases h : c = 142
  · subst h; rfl
  · exact upc_ne _ _ h
def li2 (k : Nat) : Nat → Nat := upc (li1 24) 143 (k)
theorem li2_st (k : Nat) : upc (li2 k) 143 (k + 1) = li2 (k + 1) := by
  funext c
  by_cases h143 : c = 143
  · subst h143; rfl
  simp only [upc, li2, h143, if_false]
theorem li2_0 : li2 0 = li1 24 := by
  funext c
  by_cases h : c = 143
  · subst h; rfl
  · exact upc_ne _ _ h
def li3 (k : Nat) : Nat → Nat := upc (upc (li2 5) 146 (k)) 147 (k)
theorem li3_st (k : Nat) : upc (upc (li3 k) 146 (k + 1)) 147 (k + 1) = li3 (k + 1) := by
  funext c
  by_cases h147 : c = 147
  · subst h147; rfl
  by_cases h146 : c = 146
  · subst h146; rfl
  simp only [upc, li3, h146, h147, if_false]
theorem li3_0 : li3 0 = li2 5 := by
  funext c
  by_cases h147 : c = 147
  · subst h147; rfl
  by_cases h146 : c = 146
  · subst h146; rfl
  simp only [upc, li3, h146, h147, if_false]
def lu0 (k : Nat) : Nat → Nat := upc (upc (upc (upc (upc (upc (upc (upc (upc (upc (upc (fun _ => 0) 99 (k)) 100 (k)) 101 (k)) 102 (k)) 103 (k)) 104 (k)) 105 (k)) 106 (k)) 107 (k)) 128 (k)) 129 (k)
theorem lu0_st (k : Nat) : upc (upc (upc (upc (upc (upc (upc (upc (upc (upc (upc (lu0 k) 99 (k + 1)) 100 (k + 1)) 101 (k + 1)) 102 (k + 1)) 103 (k + 1)) 104 (k + 1)) 105 (k + 1)) 106 (k + 1)) 107 (k + 1)) 128 (k + 1)) 129 (k + 1) = lu0 (k + 1) := by
  funext c
  by_cases h129 : c = 129
  · subst h129; rfl
  by_cases h128 : c = 128
  · subst h128; rfl
  by_cases h107 : c = 107
  · subst h107; rfl
  by_cases h106 : c = 106
  · subst h106; rfl
  by_cases h105 : c = 105
  · subst h105; rfl
  by_cases h104 : c = 104
  · subst h104; rfl
  by_cases h103 : c = 103
  · subst h103; rfl
  by_cases h102 : c = 102
  · subst h102; rfl
  by_cases h101 : c = 101
  · subst h101; rfl
  by_cases h100 : c = 100
  · subst h100; rfl
  by_cases h99 : c = 99
  · subst h99; rfl
  simp only [upc, lu0, h99, h100, h101, h102, h103, h104, h105, h106, h107, h128, h129, if_false]
theorem lu0_0 : lu0 0 = fun _ => 0 := by
  funext c
  by_cases h129 : c = 129
  · subst h129; rfl
  by_cases h128 : c = 128
  · subst h128; rfl
  by_cases h107 : c = 107
  · subst h107; rfl
  by_cases h106 : c = 106
  · subst h106; rfl
  by_cases h105 : c = 105
  · subst h105; rfl
  by_cases h104 : c = 104
  · subst h104; rfl
  by_cases h103 : c = 103
  · subst h103; rfl
  by_cases h102 : c = 102
  · subst h102; rfl
  by_cases h101 : c = 101
  · subst h101; rfl
  by_cases h100 : c = 100
  · subst h100; rfl
  by_cases h99 : c = 99
  · subst h99; rfl
  simp only [upc, lu0, h99, h100, h101, h102, h103, h104, h105, h106, h107, h128, h129, if_false]
def lu1 (k : Nat) : Nat → Nat := upc (lu0 6) 108 (k)
theorem lu1_st (k : Nat) : upc (lu1 k) 108 (k + 1) = lu1 (k + 1) := by
  funext c
  by_cases h108 : c = 108
  · subst h108; rfl
  simp only [upc, lu1, h108, if_false]
theorem lu1_0 : lu1 0 = lu0 6 := by
  funext c
  by_cases h : c = 108
  · subst h; rfl
  · exact upc_ne _ _ h
def lu2 (k : Nat) : Nat → Nat := upc (lu1 24) 109 (k)
theorem lu2_st (k : Nat) : upc (lu2 k) 109 (k + 1) = lu2 (k + 1) := by
  funext c
  by_cases h109 : c = 109
  · subst h109; rfl
  simp only [upc, lu2, h109, if_false]
theorem lu2_0 : lu2 0 = lu1 24 := by
  funext c
  by_cases h : c = 109
  · subst h; rfl
  · exact upc_ne _ _ h
def lu3 (k : Nat) : Nat → Nat := upc (upc (lu2 5) 131 (k)) 132 (k)
theorem lu3_st (k : Nat) : upc (upc (lu3 k) 131 (k + 1)) 132 (k + 1) = lu3 (k + 1) := by
  funext c
  by_cases h132 : c = 132
  · subst h132; rfl
  by_cases h131 : c = 131
  · subst h131; rfl
  simp only [upc, lu3, h131, h132, if_false]
theorem lu3_0 : lu3 0 = lu2 5 := by
  funext c
  by_cases h132 : c = 132
  · subst h132; rfl
  by_cases h131 : c = 131
  · subst h131; rfl
  simp only [upc, lu3, h131, h132, if_false]
def imgB (I : Nat → Nat → Int32) : Nat → Nat → Int32 := s1 (s1 (s1 (s1 (s1 (s1 (s1 I 98 50 (bI true)) 98 51 (I 98 15)) 98 52 (I 98 0)) 98 53 (I 98 1)) 98 54 (I 98 2)) 98 55 (I 98 43)) 98 56 (I 98 47)
def undB (I : Nat → Nat → Int32) : Nat → Nat → Int32 := s1 (s1 (s1 (s1 (s1 (s1 (I) 98 15 (I 98 51)) 98 0 (I 98 52)) 98 1 (I 98 53)) 98 2 (I 98 54)) 98 43 (I 98 55)) 98 47 (I 98 56)
def imgI (I : Nat → Nat → Int32) : Nat → Nat → Int32 := cpM sDi (li3 8) (imgB I)
def undI (I : Nat → Nat → Int32) : Nat → Nat → Int32 := cpM sDu (lu3 8) (undB I)
def undM (I : Nat → Nat → Int32) : Int32 × (Nat → Nat → Int32) := if I 98 50 = 0 then (-3, I) else (I 98 53, undI I)
set_option maxRecDepth 100000 in
set_option maxHeartbeats 4000000 in
theorem M_image {d : Nat} {I : Nat → Nat → Int32} {J : Nat → Nat → Int64} {K : Nat → Nat → Option Nat} {h : List xSh} (S : St K h)  : EvP d 213 0 [(0, .ref (98))] [] (I, J, K, h) (QI (fun x t => x = I 98 1 ∧ t = (imgI I, J, K, h))) := by
  refine p_aload_n k213_0 rfl ?_
  refine p_iconst (v := bI true) k213_1 (by decide) ?_
  refine p_putZv k213_2 (s_98 S) g_12_162_12 n_213_12_50 (bI_01 _) ?_
  refine p_aload_n k213_5 rfl ?_
  refine p_aload_n k213_6 rfl ?_
  refine p_getIv k213_7 (s_98 S) f_12_56_12 rfl ?_
  refine p_putIv k213_10 (s_98 S) g_12_166_12 n_213_12_51 ?_
  refine p_aload_n k213_13 rfl ?_
  refine p_aload_n k213_14 rfl ?_
  refine p_getIv k213_15 (s_98 S) f_12_7_12 rfl ?_
  refine p_putIv k213_18 (s_98 S) g_12_169_12 n_213_12_52 ?_
  refine p_aload_n k213_21 rfl ?_
  refine p_aload_n k213_22 rfl ?_
  refine p_getIv k213_23 (s_98 S) f_12_13_12 rfl ?_
  refine p_putIv k213_26 (s_98 S) g_12_172_12 n_213_12_53 ?_
  refine p_aload_n k213_29 rfl ?_
  refine p_aload_n k213_30 rfl ?_
  refine p_getIv k213_31 (s_98 S) f_12_16_12 rfl ?_
  refine p_putIv k213_34 (s_98 S) g_12_175_12 n_213_12_54 ?_
  refine p_aload_n k213_37 rfl ?_
  refine p_aload_n k213_38 rfl ?_
  refine p_getIv k213_39 (s_98 S) f_12_141_12 rfl ?_
  refine p_putIv k213_42 (s_98 S) g_12_178_12 n_213_12_55 ?_
  refine p_aload_n k213_45 rfl ?_
  refine p_aload_n k213_46 rfl ?_
  refine p_getIv k213_47 (s_98 S) f_12_153_12 rfl ?_
  refine p_putIv k213_50 (s_98 S) g_12_181_12 n_213_12_56 ?_
  refine p_iconst (v := nI 0) k213_53 (by decide) ?_
  refine p_istore_n (ls' := [(0, _), (1, _)]) k213_54 rfl ?_
  have L0 : ∀ (j : Nat) (k : Nat), k + j = 6 → EvP d 213 55 [(0, .ref (98)), (1, .int (nI (k)))] [] (cpM sDi (li0 k) (imgB I), J, K, h) (QI (fun x t => x = I 98 1 ∧ t = (imgI I, J, K, h))) := by
    intro j
    induction j with
    | zero =>
      intro k hk
      obtain rfl : k = 6 := by omega
      refine p_iload_n k213_55 rfl ?_
      refine p_bipush (v := nI 6) k213_56 (by decide) ?_
      refine p_icmp_geN (tgt := 199) k213_58 (by decide) (by omega) (by omega) (fun _ => ?_) (fun c => False.elim (by omega))
      refine p_iconst (v := nI 0) k213_199 (by decide) ?_
      refine p_istore_n (ls' := [(0, _), (1, _)]) k213_200 rfl ?_
      have L1 : ∀ (j : Nat) (k : Nat), k + j = 24 → EvP d 213 201 [(0, .ref (98)), (1, .int (nI (k)))] [] (cpM sDi (li1 k) (imgB I), J, K, h) (QI (fun x t => x = I 98 1 ∧ t = (imgI I, J, K, h))) := by
        intro j
        induction j with
        | zero =>
          intro k hk
          obtain rfl : k = 24 := by omega
          refine p_iload_n k213_201 rfl ?_
          refine p_bipush (v := nI 24) k213_202 (by decide) ?_
          refine p_icmp_geN (tgt := 225) k213_204 (by decide) (by omega) (by omega) (fun _ => ?_) (fun c => False.elim (by omega))
          refine p_iconst (v := nI 0) k213_225 (by decide) ?_
          refine p_istore_n (ls' := [(0, _), (1, _)]) k213_226 rfl ?_
          have L2 : ∀ (j : Nat) (k : Nat), k + j = 5 → EvP d 213 227 [(0, .ref (98)), (1, .int (nI (k)))] [] (cpM sDi (li2 k) (imgB I), J, K, h) (QI (fun x t => x = I 98 1 ∧ t = (imgI I, J, K, h))) := by
            intro j
            induction j with
            | zero =>
              intro k hk
              obtain rfl : k = 5 := by omega
              refine p_iload_n k213_227 rfl ?_
              refine p_iconst (v := nI 5) k213_228 (by decide) ?_
              refine p_icmp_geN (tgt := 250) k213_229 (by decide) (by omega) (by omega) (fun _ => ?_) (fun c => False.elim (by omega))
              refine p_iconst (v := nI 0) k213_250 (by decide) ?_
              refine p_istore_n (ls' := [(0, _), (1, _)]) k213_251 rfl ?_
              have L3 : ∀ (j : Nat) (k : Nat), k + j = 8 → EvP d 213 252 [(0, .ref (98)), (1, .int (nI (k)))] [] (cpM sDi (li3 k) (imgB I), J, K, h) (QI (fun x t => x = I 98 1 ∧ t = (imgI I, J, K, h))) := by
                intro j
                induction j with
                | zero =>
                  intro k hk
                  obtain rfl : k = 8 := by omega
                  refine p_iload_n k213_252 rfl ?_
                  refine p_bipush (v := nI 8) k213_253 (by decide) ?_
                  refine p_icmp_geN (tgt := 288) k213_255 (by decide) (by omega) (by omega) (fun _ => ?_) (fun c => False.elim (by omega))
                  refine p_aload_n k213_288 rfl ?_
                  refine p_getIv k213_289 (s_98 S) f_12_13_12 rfl ?_
                  refine p_ireturn k213_292 rt_213 ?_
                  exact ⟨rfl, rfl⟩
                | succ j ih =>
                  intro k hk
                  refine p_iload_n k213_252 rfl ?_
                  refine p_bipush (v := nI 8) k213_253 (by decide) ?_
                  refine p_icmp_geN (tgt := 288) k213_255 (by decide) (by omega) (by omega) (fun c => False.elim (by omega)) (fun _ => ?_)
                  refine p_aload_n k213_258 rfl ?_
                  refine p_getRv k213_259 (s_98 S) f_12_223_12 (r_98_70 S) ?_
                  refine p_iload_n k213_262 rfl ?_
                  refine p_aload_n k213_263 rfl ?_
                  refine p_getRv k213_264 (s_98 S) f_12_156_12 (r_98_48 S) ?_
                  refine p_iload_n k213_267 rfl ?_
                  refine p_ialdN k213_268 (s_131 S) (by omega) (by decide) (cp_src (show sDi (sDi 146) = _ from rfl)) ?_
                  refine p_iastN k213_269 (s_146 S) (by omega) (by decide) ?_
                  rw [cp_st (sD := sDi) (ln := li3 k) (I := imgB I) (cq0 := 146) (k := k) (v := (imgB I) 131 k) (show (li3 k) 146 = k from rfl) (show (imgB I) (sDi 146) k = _ from rfl)]
                  refine p_aload_n k213_270 rfl ?_
                  refine p_getRv k213_271 (s_98 S) f_12_226_12 (r_98_71 S) ?_
                  refine p_iload_n k213_274 rfl ?_
                  refine p_aload_n k213_275 rfl ?_
                  refine p_getRv k213_276 (s_98 S) f_12_159_12 (r_98_49 S) ?_
                  refine p_iload_n k213_279 rfl ?_
                  refine p_ialdN k213_280 (s_132 S) (by omega) (by decide) (cp_src (show sDi (sDi 147) = _ from rfl)) ?_
                  refine p_iastN k213_281 (s_147 S) (by omega) (by decide) ?_
                  rw [cp_st (sD := sDi) (ln := upc (li3 k) 146 (k + 1)) (I := imgB I) (cq0 := 147) (k := k) (v := (imgB I) 132 k) (show (upc (li3 k) 146 (k + 1)) 147 = k from rfl) (show (imgB I) (sDi 147) k = _ from rfl)]
                  refine p_iincN (ls1 := [(0, _), (1, _)]) k213_282 rfl rfl ?_
                  refine p_goto (tgt := 252) k213_285 (by decide) ?_
                  rw [li3_st]
                  exact ih (k + 1) (by omega)
              rw [← li3_0]
              exact L3 8 0 (by omega)
            | succ j ih =>
              intro k hk
              refine p_iload_n k213_227 rfl ?_
              refine p_iconst (v := nI 5) k213_228 (by decide) ?_
              refine p_icmp_geN (tgt := 250) k213_229 (by decide) (by omega) (by omega) (fun c => False.elim (by omega)) (fun _ => ?_)
              refine p_aload_n k213_232 rfl ?_
              refine p_getRv k213_233 (s_98 S) f_12_214_12 (r_98_67 S) ?_
              refine p_iload_n k213_236 rfl ?_
              refine p_aload_n k213_237 rfl ?_
              refine p_getRv k213_238 (s_98 S) f_12_50_12 (r_98_13 S) ?_
              refine p_iload_n k213_241 rfl ?_
              refine p_ialdN k213_242 (s_109 S) (by omega) (by decide) (cp_src (show sDi (sDi 143) = _ from rfl)) ?_
              refine p_iastN k213_243 (s_143 S) (by omega) (by decide) ?_
              rw [cp_st (sD := sDi) (ln := li2 k) (I := imgB I) (cq0 := 143) (k := k) (v := (imgB I) 109 k) (show (li2 k) 143 = k from rfl) (show (imgB I) (sDi 143) k = _ from rfl)]
              refine p_iincN (ls1 := [(0, _), (1, _)]) k213_244 rfl rfl ?_
              refine p_goto (tgt := 227) k213_247 (by decide) ?_
              rw [li2_st]
              exact ih (k + 1) (by omega)
          rw [← li2_0]
          exact L2 5 0 (by omega)
        | succ j ih =>
          intro k hk
          refine p_iload_n k213_201 rfl ?_
          refine p_bipush (v := nI 24) k213_202 (by decide) ?_
          refine p_icmp_geN (tgt := 225) k213_204 (by decide) (by omega) (by omega) (fun c => False.elim (by omega)) (fun _ => ?_)
          refine p_aload_n k213_207 rfl ?_
          refine p_getRv k213_208 (s_98 S) f_12_211_12 (r_98_66 S) ?_
          refine p_iload_n k213_211 rfl ?_
          refine p_aload_n k213_212 rfl ?_
          refine p_getRv k213_213 (s_98 S) f_12_47_12 (r_98_12 S) ?_
          refine p_iload_n k213_216 rfl ?_
          refine p_ialdN k213_217 (s_108 S) (by omega) (by decide) (cp_src (show sDi (sDi 142) = _ from rfl)) ?_
          refine p_iastN k213_218 (s_142 S) (by omega) (by decide) ?_
          rw [cp_st (sD := sDi) (ln := li1 k) (I := imgB I) (cq0 := 142) (k := k) (v := (imgB I) 108 k) (show (li1 k) 142 = k from rfl) (show (imgB I) (sDi 142) k = _ from rfl)]
          refine p_iincN (ls1 := [(0, _), (1, _)]) k213_219 rfl rfl ?_
          refine p_goto (tgt := 201) k213_222 (by decide) ?_
          rw [li1_st]
          exact ih (k + 1) (by omega)
      rw [← li1_0]
      exact L1 24 0 (by omega)
    | succ j ih =>
      intro k hk
      refine p_iload_n k213_55 rfl ?_
      refine p_bipush (v := nI 6) k213_56 (by decide) ?_
      refine p_icmp_geN (tgt := 199) k213_58 (by decide) (by omega) (by omega) (fun c => False.elim (by omega)) (fun _ => ?_)
      refine p_aload_n k213_61 rfl ?_
      refine p_getRv k213_62 (s_98 S) f_12_184_12 (r_98_57 S) ?_
      refine p_iload_n k213_65 rfl ?_
      refine p_aload_n k213_66 rfl ?_
      refine p_getRv k213_67 (s_98 S) f_12_19_12 (r_98_3 S) ?_
      refine p_iload_n k213_70 rfl ?_
      refine p_ialdN k213_71 (s_99 S) (by omega) (by decide) (cp_src (show sDi (sDi 133) = _ from rfl)) ?_
      refine p_iastN k213_72 (s_133 S) (by omega) (by decide) ?_
      rw [cp_st (sD := sDi) (ln := li0 k) (I := imgB I) (cq0 := 133) (k := k) (v := (imgB I) 99 k) (show (li0 k) 133 = k from rfl) (show (imgB I) (sDi 133) k = _ from rfl)]
      refine p_aload_n k213_73 rfl ?_
      refine p_getRv k213_74 (s_98 S) f_12_187_12 (r_98_58 S) ?_
      refine p_iload_n k213_77 rfl ?_
      refine p_aload_n k213_78 rfl ?_
      refine p_getRv k213_79 (s_98 S) f_12_23_12 (r_98_4 S) ?_
      refine p_iload_n k213_82 rfl ?_
      refine p_ialdN k213_83 (s_100 S) (by omega) (by decide) (cp_src (show sDi (sDi 134) = _ from rfl)) ?_
      refine p_iastN k213_84 (s_134 S) (by omega) (by decide) ?_
      rw [cp_st (sD := sDi) (ln := upc (li0 k) 133 (k + 1)) (I := imgB I) (cq0 := 134) (k := k) (v := (imgB I) 100 k) (show (upc (li0 k) 133 (k + 1)) 134 = k from rfl) (show (imgB I) (sDi 134) k = _ from rfl)]
      refine p_aload_n k213_85 rfl ?_
      refine p_getRv k213_86 (s_98 S) f_12_190_12 (r_98_59 S) ?_
      refine p_iload_n k213_89 rfl ?_
      refine p_aload_n k213_90 rfl ?_
      refine p_getRv k213_91 (s_98 S) f_12_26_12 (r_98_5 S) ?_
      refine p_iload_n k213_94 rfl ?_
      refine p_ialdN k213_95 (s_101 S) (by omega) (by decide) (cp_src (show sDi (sDi 135) = _ from rfl)) ?_
      refine p_iastN k213_96 (s_135 S) (by omega) (by decide) ?_
      rw [cp_st (sD := sDi) (ln := upc (upc (li0 k) 133 (k + 1)) 134 (k + 1)) (I := imgB I) (cq0 := 135) (k := k) (v := (imgB I) 101 k) (show (upc (upc (li0 k) 133 (k + 1)) 134 (k + 1)) 135 = k from rfl) (show (imgB I) (sDi 135) k = _ from rfl)]
      refine p_aload_n k213_97 rfl ?_
      refine p_getRv k213_98 (s_98 S) f_12_193_12 (r_98_60 S) ?_
      refine p_iload_n k213_101 rfl ?_
      refine p_aload_n k213_102 rfl ?_
      refine p_getRv k213_103 (s_98 S) f_12_29_12 (r_98_6 S) ?_
      refine p_iload_n k213_106 rfl ?_
      refine p_ialdN k213_107 (s_102 S) (by omega) (by decide) (cp_src (show sDi (sDi 136) = _ from rfl)) ?_
      refine p_iastN k213_108 (s_136 S) (by omega) (by decide) ?_
      rw [cp_st (sD := sDi) (ln := upc (upc (upc (li0 k) 133 (k + 1)) 134 (k + 1)) 135 (k + 1)) (I := imgB I) (cq0 := 136) (k := k) (v := (imgB I) 102 k) (show (upc (upc (upc (li0 k) 133 (k + 1)) 134 (k + 1)) 135 (k + 1)) 136 = k from rfl) (show (imgB I) (sDi 136) k = _ from rfl)]
      refine p_aload_n k213_109 rfl ?_
      refine p_getRv k213_110 (s_98 S) f_12_196_12 (r_98_61 S) ?_
      refine p_iload_n k213_113 rfl ?_
      refine p_aload_n k213_114 rfl ?_
      refine p_getRv k213_115 (s_98 S) f_12_32_12 (r_98_7 S) ?_
      refine p_iload_n k213_118 rfl ?_
      refine p_ialdN k213_119 (s_103 S) (by omega) (by decide) (cp_src (show sDi (sDi 137) = _ from rfl)) ?_
      refine p_iastN k213_120 (s_137 S) (by omega) (by decide) ?_
      rw [cp_st (sD := sDi) (ln := upc (upc (upc (upc (li0 k) 133 (k + 1)) 134 (k + 1)) 135 (k + 1)) 136 (k + 1)) (I := imgB I) (cq0 := 137) (k := k) (v := (imgB I) 103 k) (show (upc (upc (upc (upc (li0 k) 133 (k + 1)) 134 (k + 1)) 135 (k + 1)) 136 (k + 1)) 137 = k from rfl) (show (imgB I) (sDi 137) k = _ from rfl)]
      refine p_aload_n k213_121 rfl ?_
      refine p_getRv k213_122 (s_98 S) f_12_199_12 (r_98_62 S) ?_
      refine p_iload_n k213_125 rfl ?_
      refine p_aload_n k213_126 rfl ?_
      refine p_getRv k213_127 (s_98 S) f_12_35_12 (r_98_8 S) ?_
      refine p_iload_n k213_130 rfl ?_
      refine p_ialdN k213_131 (s_104 S) (by omega) (by decide) (cp_src (show sDi (sDi 138) = _ from rfl)) ?_
      refine p_iastN k213_132 (s_138 S) (by omega) (by decide) ?_
      rw [cp_st (sD := sDi) (ln := upc (upc (upc (upc (upc (li0 k) 133 (k + 1)) 134 (k + 1)) 135 (k + 1)) 136 (k + 1)) 137 (k + 1)) (I := imgB I) (cq0 := 138) (k := k) (v := (imgB I) 104 k) (show (upc (upc (upc (upc (upc (li0 k) 133 (k + 1)) 134 (k + 1)) 135 (k + 1)) 136 (k + 1)) 137 (k + 1)) 138 = k from rfl) (show (imgB I) (sDi 138) k = _ from rfl)]
      refine p_aload_n k213_133 rfl ?_
      refine p_getRv k213_134 (s_98 S) f_12_202_12 (r_98_63 S) ?_
      refine p_iload_n k213_137 rfl ?_
      refine p_aload_n k213_138 rfl ?_
      refine p_getRv k213_139 (s_98 S) f_12_38_12 (r_98_9 S) ?_
      refine p_iload_n k213_142 rfl ?_
      refine p_ialdN k213_143 (s_105 S) (by omega) (by decide) (cp_src (show sDi (sDi 139) = _ from rfl)) ?_
      refine p_iastN k213_144 (s_139 S) (by omega) (by decide) ?_
      rw [cp_st (sD := sDi) (ln := upc (upc (upc (upc (upc (upc (li0 k) 133 (k + 1)) 134 (k + 1)) 135 (k + 1)) 136 (k + 1)) 137 (k + 1)) 138 (k + 1)) (I := imgB I) (cq0 := 139) (k := k) (v := (imgB I) 105 k) (show (upc (upc (upc (upc (upc (upc (li0 k) 133 (k + 1)) 134 (k + 1)) 135 (k + 1)) 136 (k + 1)) 137 (k + 1)) 138 (k + 1)) 139 = k from rfl) (show (imgB I) (sDi 139) k = _ from rfl)]
      refine p_aload_n k213_145 rfl ?_
      refine p_getRv k213_146 (s_98 S) f_12_205_12 (r_98_64 S) ?_
      refine p_iload_n k213_149 rfl ?_
      refine p_aload_n k213_150 rfl ?_
      refine p_getRv k213_151 (s_98 S) f_12_41_12 (r_98_10 S) ?_
      refine p_iload_n k213_154 rfl ?_
      refine p_ialdN k213_155 (s_106 S) (by omega) (by decide) (cp_src (show sDi (sDi 140) = _ from rfl)) ?_
      refine p_iastN k213_156 (s_140 S) (by omega) (by decide) ?_
      rw [cp_st (sD := sDi) (ln := upc (upc (upc (upc (upc (upc (upc (li0 k) 133 (k + 1)) 134 (k + 1)) 135 (k + 1)) 136 (k + 1)) 137 (k + 1)) 138 (k + 1)) 139 (k + 1)) (I := imgB I) (cq0 := 140) (k := k) (v := (imgB I) 106 k) (show (upc (upc (upc (upc (upc (upc (upc (li0 k) 133 (k + 1)) 134 (k + 1)) 135 (k + 1)) 136 (k + 1)) 137 (k + 1)) 138 (k + 1)) 139 (k + 1)) 140 = k from rfl) (show (imgB I) (sDi 140) k = _ from rfl)]
      refine p_aload_n k213_157 rfl ?_
      refine p_getRv k213_158 (s_98 S) f_12_208_12 (r_98_65 S) ?_
      refine p_iload_n k213_161 rfl ?_
      refine p_aload_n k213_162 rfl ?_
      refine p_getRv k213_163 (s_98 S) f_12_44_12 (r_98_11 S) ?_
      refine p_iload_n k213_166 rfl ?_
      refine p_ialdN k213_167 (s_107 S) (by omega) (by decide) (cp_src (show sDi (sDi 141) = _ from rfl)) ?_
      refine p_iastN k213_168 (s_141 S) (by omega) (by decide) ?_
      rw [cp_st (sD := sDi) (ln := upc (upc (upc (upc (upc (upc (upc (upc (li0 k) 133 (k + 1)) 134 (k + 1)) 135 (k + 1)) 136 (k + 1)) 137 (k + 1)) 138 (k + 1)) 139 (k + 1)) 140 (k + 1)) (I := imgB I) (cq0 := 141) (k := k) (v := (imgB I) 107 k) (show (upc (upc (upc (upc (upc (upc (upc (upc (li0 k) 133 (k + 1)) 134 (k + 1)) 135 (k + 1)) 136 (k + 1)) 137 (k + 1)) 138 (k + 1)) 139 (k + 1)) 140 (k + 1)) 141 = k from rfl) (show (imgB I) (sDi 141) k = _ from rfl)]
      refine p_aload_n k213_169 rfl ?_
      refine p_getRv k213_170 (s_98 S) f_12_217_12 (r_98_68 S) ?_
      refine p_iload_n k213_173 rfl ?_
      refine p_aload_n k213_174 rfl ?_
      refine p_getRv k213_175 (s_98 S) f_12_144_12 (r_98_44 S) ?_
      refine p_iload_n k213_178 rfl ?_
      refine p_ialdN k213_179 (s_128 S) (by omega) (by decide) (cp_src (show sDi (sDi 144) = _ from rfl)) ?_
      refine p_iastN k213_180 (s_144 S) (by omega) (by decide) ?_
      rw [cp_st (sD := sDi) (ln := upc (upc (upc (upc (upc (upc (upc (upc (upc (li0 k) 133 (k + 1)) 134 (k + 1)) 135 (k + 1)) 136 (k + 1)) 137 (k + 1)) 138 (k + 1)) 139 (k + 1)) 140 (k + 1)) 141 (k + 1)) (I := imgB I) (cq0 := 144) (k := k) (v := (imgB I) 128 k) (show (upc (upc (upc (upc (upc (upc (upc (upc (upc (li0 k) 133 (k + 1)) 134 (k + 1)) 135 (k + 1)) 136 (k + 1)) 137 (k + 1)) 138 (k + 1)) 139 (k + 1)) 140 (k + 1)) 141 (k + 1)) 144 = k from rfl) (show (imgB I) (sDi 144) k = _ from rfl)]
      refine p_aload_n k213_181 rfl ?_
      refine p_getRv k213_182 (s_98 S) f_12_220_12 (r_98_69 S) ?_
      refine p_iload_n k213_185 rfl ?_
      refine p_aload_n k213_186 rfl ?_
      refine p_getRv k213_187 (s_98 S) f_12_147_12 (r_98_45 S) ?_
      refine p_iload_n k213_190 rfl ?_
      refine p_ialdN k213_191 (s_129 S) (by omega) (by decide) (cp_src (show sDi (sDi 145) = _ from rfl)) ?_
      refine p_iastN k213_192 (s_145 S) (by omega) (by decide) ?_
      rw [cp_st (sD := sDi) (ln := upc (upc (upc (upc (upc (upc (upc (upc (upc (upc (li0 k) 133 (k + 1)) 134 (k + 1)) 135 (k + 1)) 136 (k + 1)) 137 (k + 1)) 138 (k + 1)) 139 (k + 1)) 140 (k + 1)) 141 (k + 1)) 144 (k + 1)) (I := imgB I) (cq0 := 145) (k := k) (v := (imgB I) 129 k) (show (upc (upc (upc (upc (upc (upc (upc (upc (upc (upc (li0 k) 133 (k + 1)) 134 (k + 1)) 135 (k + 1)) 136 (k + 1)) 137 (k + 1)) 138 (k + 1)) 139 (k + 1)) 140 (k + 1)) 141 (k + 1)) 144 (k + 1)) 145 = k from rfl) (show (imgB I) (sDi 145) k = _ from rfl)]
      refine p_iincN (ls1 := [(0, _), (1, _)]) k213_193 rfl rfl ?_
      refine p_goto (tgt := 55) k213_196 (by decide) ?_
      rw [li0_st]
      exact ih (k + 1) (by omega)
  refine (show _ = _ from congrArg (fun z => EvP _ _ _ _ _ (z, J, K, h) _) ((congrArg (fun q => cpM sDi q (imgB I)) li0_0).trans (cp_0 _ _))).mp ?_
  exact L0 6 0 (by omega)

set_option maxRecDepth 100000 in
set_option maxHeartbeats 4000000 in
theorem M_undo {d : Nat} {I : Nat → Nat → Int32} {J : Nat → Nat → Int64} {K : Nat → Nat → Option Nat} {h : List xSh} (S : St K h)  : EvP d 214 0 [(0, .ref (98))] [] (I, J, K, h) (QI (fun x t => x = (undM I).1 ∧ t = ((undM I).2, J, K, h))) := by
  refine p_aload_n k214_0 rfl ?_
  refine p_getIv k214_1 (s_98 S) f_12_162_12 rfl ?_
  refine p_if_ne (tgt := 10) k214_4 (by decide) (fun cq4 => ?_) (fun cq4 => ?_)
  · skip
    refine p_aload_n k214_10 rfl ?_
    refine p_aload_n k214_11 rfl ?_
    refine p_getIv k214_12 (s_98 S) f_12_166_12 rfl ?_
    refine p_putIv k214_15 (s_98 S) g_12_56_12 n_214_12_15 ?_
    refine p_aload_n k214_18 rfl ?_
    refine p_aload_n k214_19 rfl ?_
    refine p_getIv k214_20 (s_98 S) f_12_169_12 rfl ?_
    refine p_putIv k214_23 (s_98 S) g_12_7_12 n_214_12_0 ?_
    refine p_aload_n k214_26 rfl ?_
    refine p_aload_n k214_27 rfl ?_
    refine p_getIv k214_28 (s_98 S) f_12_172_12 rfl ?_
    refine p_putIv k214_31 (s_98 S) g_12_13_12 n_214_12_1 ?_
    refine p_aload_n k214_34 rfl ?_
    refine p_aload_n k214_35 rfl ?_
    refine p_getIv k214_36 (s_98 S) f_12_175_12 rfl ?_
    refine p_putIv k214_39 (s_98 S) g_12_16_12 n_214_12_2 ?_
    refine p_aload_n k214_42 rfl ?_
    refine p_aload_n k214_43 rfl ?_
    refine p_getIv k214_44 (s_98 S) f_12_178_12 rfl ?_
    refine p_putIv k214_47 (s_98 S) g_12_141_12 n_214_12_43 ?_
    refine p_aload_n k214_50 rfl ?_
    refine p_aload_n k214_51 rfl ?_
    refine p_getIv k214_52 (s_98 S) f_12_181_12 rfl ?_
    refine p_putIv k214_55 (s_98 S) g_12_153_12 n_214_12_47 ?_
    refine p_iconst (v := nI 0) k214_58 (by decide) ?_
    refine p_istore_n (ls' := [(0, _), (1, _)]) k214_59 rfl ?_
    have L0 : ∀ (j : Nat) (k : Nat), k + j = 6 → EvP d 214 60 [(0, .ref (98)), (1, .int (nI (k)))] [] (cpM sDu (lu0 k) (undB I), J, K, h) (QI (fun x t => x = (undM I).1 ∧ t = ((undM I).2, J, K, h))) := by
      intro j
      induction j with
      | zero =>
        intro k hk
        obtain rfl : k = 6 := by omega
        refine p_iload_n k214_60 rfl ?_
        refine p_bipush (v := nI 6) k214_61 (by decide) ?_
        refine p_icmp_geN (tgt := 204) k214_63 (by decide) (by omega) (by omega) (fun _ => ?_) (fun c => False.elim (by omega))
        refine p_iconst (v := nI 0) k214_204 (by decide) ?_
        refine p_istore_n (ls' := [(0, _), (1, _)]) k214_205 rfl ?_
        have L1 : ∀ (j : Nat) (k : Nat), k + j = 24 → EvP d 214 206 [(0, .ref (98)), (1, .int (nI (k)))] [] (cpM sDu (lu1 k) (undB I), J, K, h) (QI (fun x t => x = (undM I).1 ∧ t = ((undM I).2, J, K, h))) := by
          intro j
          induction j with
          | zero =>
            intro k hk
            obtain rfl : k = 24 := by omega
            refine p_iload_n k214_206 rfl ?_
            refine p_bipush (v := nI 24) k214_207 (by decide) ?_
            refine p_icmp_geN (tgt := 230) k214_209 (by decide) (by omega) (by omega) (fun _ => ?_) (fun c => False.elim (by omega))
            refine p_iconst (v := nI 0) k214_230 (by decide) ?_
            refine p_istore_n (ls' := [(0, _), (1, _)]) k214_231 rfl ?_
            have L2 : ∀ (j : Nat) (k : Nat), k + j = 5 → EvP d 214 232 [(0, .ref (98)), (1, .int (nI (k)))] [] (cpM sDu (lu2 k) (undB I), J, K, h) (QI (fun x t => x = (undM I).1 ∧ t = ((undM I).2, J, K, h))) := by
              intro j
              induction j with
              | zero =>
                intro k hk
                obtain rfl : k = 5 := by omega
                refine p_iload_n k214_232 rfl ?_
                refine p_iconst (v := nI 5) k214_233 (by decide) ?_
                refine p_icmp_geN (tgt := 255) k214_234 (by decide) (by omega) (by omega) (fun _ => ?_) (fun c => False.elim (by omega))
                refine p_iconst (v := nI 0) k214_255 (by decide) ?_
                refine p_istore_n (ls' := [(0, _), (1, _)]) k214_256 rfl ?_
                have L3 : ∀ (j : Nat) (k : Nat), k + j = 8 → EvP d 214 257 [(0, .ref (98)), (1, .int (nI (k)))] [] (cpM sDu (lu3 k) (undB I), J, K, h) (QI (fun x t => x = (undM I).1 ∧ t = ((undM I).2, J, K, h))) := by
                  intro j
                  induction j with
                  | zero =>
                    intro k hk
                    obtain rfl : k = 8 := by omega
                    refine p_iload_n k214_257 rfl ?_
                    refine p_bipush (v := nI 8) k214_258 (by decide) ?_
                    refine p_icmp_geN (tgt := 293) k214_260 (by decide) (by omega) (by omega) (fun _ => ?_) (fun c => False.elim (by omega))
                    refine p_aload_n k214_293 rfl ?_
                    refine p_getIv k214_294 (s_98 S) f_12_13_12 rfl ?_
                    refine p_ireturn k214_297 rt_214 ?_
                    exact ⟨by unfold undM; rw [if_neg cq4]; rfl, by unfold undM; rw [if_neg cq4]; rfl⟩
                  | succ j ih =>
                    intro k hk
                    refine p_iload_n k214_257 rfl ?_
                    refine p_bipush (v := nI 8) k214_258 (by decide) ?_
                    refine p_icmp_geN (tgt := 293) k214_260 (by decide) (by omega) (by omega) (fun c => False.elim (by omega)) (fun _ => ?_)
                    refine p_aload_n k214_263 rfl ?_
                    refine p_getRv k214_264 (s_98 S) f_12_156_12 (r_98_48 S) ?_
                    refine p_iload_n k214_267 rfl ?_
                    refine p_aload_n k214_268 rfl ?_
                    refine p_getRv k214_269 (s_98 S) f_12_223_12 (r_98_70 S) ?_
                    refine p_iload_n k214_272 rfl ?_
                    refine p_ialdN k214_273 (s_146 S) (by omega) (by decide) (cp_src (show sDu (sDu 131) = _ from rfl)) ?_
                    refine p_iastN k214_274 (s_131 S) (by omega) (by decide) ?_
                    rw [cp_st (sD := sDu) (ln := lu3 k) (I := undB I) (cq0 := 131) (k := k) (v := (undB I) 146 k) (show (lu3 k) 131 = k from rfl) (show (undB I) (sDu 131) k = _ from rfl)]
                    refine p_aload_n k214_275 rfl ?_
                    refine p_getRv k214_276 (s_98 S) f_12_159_12 (r_98_49 S) ?_
                    refine p_iload_n k214_279 rfl ?_
                    refine p_aload_n k214_280 rfl ?_
                    refine p_getRv k214_281 (s_98 S) f_12_226_12 (r_98_71 S) ?_
                    refine p_iload_n k214_284 rfl ?_
                    refine p_ialdN k214_285 (s_147 S) (by omega) (by decide) (cp_src (show sDu (sDu 132) = _ from rfl)) ?_
                    refine p_iastN k214_286 (s_132 S) (by omega) (by decide) ?_
                    rw [cp_st (sD := sDu) (ln := upc (lu3 k) 131 (k + 1)) (I := undB I) (cq0 := 132) (k := k) (v := (undB I) 147 k) (show (upc (lu3 k) 131 (k + 1)) 132 = k from rfl) (show (undB I) (sDu 132) k = _ from rfl)]
                    refine p_iincN (ls1 := [(0, _), (1, _)]) k214_287 rfl rfl ?_
                    refine p_goto (tgt := 257) k214_290 (by decide) ?_
                    rw [lu3_st]
                    exact ih (k + 1) (by omega)
                rw [← lu3_0]
                exact L3 8 0 (by omega)
              | succ j ih =>
                intro k hk
                refine p_iload_n k214_232 rfl ?_
                refine p_iconst (v := nI 5) k214_233 (by decide) ?_
                refine p_icmp_geN (tgt := 255) k214_234 (by decide) (by omega) (by omega) (fun c => False.elim (by omega)) (fun _ => ?_)
                refine p_aload_n k214_237 rfl ?_
                refine p_getRv k214_238 (s_98 S) f_12_50_12 (r_98_13 S) ?_
                refine p_iload_n k214_241 rfl ?_
                refine p_aload_n k214_242 rfl ?_
                refine p_getRv k214_243 (s_98 S) f_12_214_12 (r_98_67 S) ?_
                refine p_iload_n k214_246 rfl ?_
                refine p_ialdN k214_247 (s_143 S) (by omega) (by decide) (cp_src (show sDu (sDu 109) = _ from rfl)) ?_
                refine p_iastN k214_248 (s_109 S) (by omega) (by decide) ?_
                rw [cp_st (sD := sDu) (ln := lu2 k) (I := undB I) (cq0 := 109) (k := k) (v := (undB I) 143 k) (show (lu2 k) 109 = k from rfl) (show (undB I) (sDu 109) k = _ from rfl)]
                refine p_iincN (ls1 := [(0, _), (1, _)]) k214_249 rfl rfl ?_
                refine p_goto (tgt := 232) k214_252 (by decide) ?_
                rw [lu2_st]
                exact ih (k + 1) (by omega)
            rw [← lu2_0]
            exact L2 5 0 (by omega)
          | succ j ih =>
            intro k hk
            refine p_iload_n k214_206 rfl ?_
            refine p_bipush (v := nI 24) k214_207 (by decide) ?_
            refine p_icmp_geN (tgt := 230) k214_209 (by decide) (by omega) (by omega) (fun c => False.elim (by omega)) (fun _ => ?_)
            refine p_aload_n k214_212 rfl ?_
            refine p_getRv k214_213 (s_98 S) f_12_47_12 (r_98_12 S) ?_
            refine p_iload_n k214_216 rfl ?_
            refine p_aload_n k214_217 rfl ?_
            refine p_getRv k214_218 (s_98 S) f_12_211_12 (r_98_66 S) ?_
            refine p_iload_n k214_221 rfl ?_
            refine p_ialdN k214_222 (s_142 S) (by omega) (by decide) (cp_src (show sDu (sDu 108) = _ from rfl)) ?_
            refine p_iastN k214_223 (s_108 S) (by omega) (by decide) ?_
            rw [cp_st (sD := sDu) (ln := lu1 k) (I := undB I) (cq0 := 108) (k := k) (v := (undB I) 142 k) (show (lu1 k) 108 = k from rfl) (show (undB I) (sDu 108) k = _ from rfl)]
            refine p_iincN (ls1 := [(0, _), (1, _)]) k214_224 rfl rfl ?_
            refine p_goto (tgt := 206) k214_227 (by decide) ?_
            rw [lu1_st]
            exact ih (k + 1) (by omega)
        rw [← lu1_0]
        exact L1 24 0 (by omega)
      | succ j ih =>
        intro k hk
        refine p_iload_n k214_60 rfl ?_
        refine p_bipush (v := nI 6) k214_61 (by decide) ?_
        refine p_icmp_geN (tgt := 204) k214_63 (by decide) (by omega) (by omega) (fun c => False.elim (by omega)) (fun _ => ?_)
        refine p_aload_n k214_66 rfl ?_
        refine p_getRv k214_67 (s_98 S) f_12_19_12 (r_98_3 S) ?_
        refine p_iload_n k214_70 rfl ?_
        refine p_aload_n k214_71 rfl ?_
        refine p_getRv k214_72 (s_98 S) f_12_184_12 (r_98_57 S) ?_
        refine p_iload_n k214_75 rfl ?_
        refine p_ialdN k214_76 (s_133 S) (by omega) (by decide) (cp_src (show sDu (sDu 99) = _ from rfl)) ?_
        refine p_iastN k214_77 (s_99 S) (by omega) (by decide) ?_
        rw [cp_st (sD := sDu) (ln := lu0 k) (I := undB I) (cq0 := 99) (k := k) (v := (undB I) 133 k) (show (lu0 k) 99 = k from rfl) (show (undB I) (sDu 99) k = _ from rfl)]
        refine p_aload_n k214_78 rfl ?_
        refine p_getRv k214_79 (s_98 S) f_12_23_12 (r_98_4 S) ?_
        refine p_iload_n k214_82 rfl ?_
        refine p_aload_n k214_83 rfl ?_
        refine p_getRv k214_84 (s_98 S) f_12_187_12 (r_98_58 S) ?_
        refine p_iload_n k214_87 rfl ?_
        refine p_ialdN k214_88 (s_134 S) (by omega) (by decide) (cp_src (show sDu (sDu 100) = _ from rfl)) ?_
        refine p_iastN k214_89 (s_100 S) (by omega) (by decide) ?_
        rw [cp_st (sD := sDu) (ln := upc (lu0 k) 99 (k + 1)) (I := undB I) (cq0 := 100) (k := k) (v := (undB I) 134 k) (show (upc (lu0 k) 99 (k + 1)) 100 = k from rfl) (show (undB I) (sDu 100) k = _ from rfl)]
        refine p_aload_n k214_90 rfl ?_
        refine p_getRv k214_91 (s_98 S) f_12_26_12 (r_98_5 S) ?_
        refine p_iload_n k214_94 rfl ?_
        refine p_aload_n k214_95 rfl ?_
        refine p_getRv k214_96 (s_98 S) f_12_190_12 (r_98_59 S) ?_
        refine p_iload_n k214_99 rfl ?_
        refine p_ialdN k214_100 (s_135 S) (by omega) (by decide) (cp_src (show sDu (sDu 101) = _ from rfl)) ?_
        refine p_iastN k214_101 (s_101 S) (by omega) (by decide) ?_
        rw [cp_st (sD := sDu) (ln := upc (upc (lu0 k) 99 (k + 1)) 100 (k + 1)) (I := undB I) (cq0 := 101) (k := k) (v := (undB I) 135 k) (show (upc (upc (lu0 k) 99 (k + 1)) 100 (k + 1)) 101 = k from rfl) (show (undB I) (sDu 101) k = _ from rfl)]
        refine p_aload_n k214_102 rfl ?_
        refine p_getRv k214_103 (s_98 S) f_12_29_12 (r_98_6 S) ?_
        refine p_iload_n k214_106 rfl ?_
        refine p_aload_n k214_107 rfl ?_
        refine p_getRv k214_108 (s_98 S) f_12_193_12 (r_98_60 S) ?_
        refine p_iload_n k214_111 rfl ?_
        refine p_ialdN k214_112 (s_136 S) (by omega) (by decide) (cp_src (show sDu (sDu 102) = _ from rfl)) ?_
        refine p_iastN k214_113 (s_102 S) (by omega) (by decide) ?_
        rw [cp_st (sD := sDu) (ln := upc (upc (upc (lu0 k) 99 (k + 1)) 100 (k + 1)) 101 (k + 1)) (I := undB I) (cq0 := 102) (k := k) (v := (undB I) 136 k) (show (upc (upc (upc (lu0 k) 99 (k + 1)) 100 (k + 1)) 101 (k + 1)) 102 = k from rfl) (show (undB I) (sDu 102) k = _ from rfl)]
        refine p_aload_n k214_114 rfl ?_
        refine p_getRv k214_115 (s_98 S) f_12_32_12 (r_98_7 S) ?_
        refine p_iload_n k214_118 rfl ?_
        refine p_aload_n k214_119 rfl ?_
        refine p_getRv k214_120 (s_98 S) f_12_196_12 (r_98_61 S) ?_
        refine p_iload_n k214_123 rfl ?_
        refine p_ialdN k214_124 (s_137 S) (by omega) (by decide) (cp_src (show sDu (sDu 103) = _ from rfl)) ?_
        refine p_iastN k214_125 (s_103 S) (by omega) (by decide) ?_
        rw [cp_st (sD := sDu) (ln := upc (upc (upc (upc (lu0 k) 99 (k + 1)) 100 (k + 1)) 101 (k + 1)) 102 (k + 1)) (I := undB I) (cq0 := 103) (k := k) (v := (undB I) 137 k) (show (upc (upc (upc (upc (lu0 k) 99 (k + 1)) 100 (k + 1)) 101 (k + 1)) 102 (k + 1)) 103 = k from rfl) (show (undB I) (sDu 103) k = _ from rfl)]
        refine p_aload_n k214_126 rfl ?_
        refine p_getRv k214_127 (s_98 S) f_12_35_12 (r_98_8 S) ?_
        refine p_iload_n k214_130 rfl ?_
        refine p_aload_n k214_131 rfl ?_
        refine p_getRv k214_132 (s_98 S) f_12_199_12 (r_98_62 S) ?_
        refine p_iload_n k214_135 rfl ?_
        refine p_ialdN k214_136 (s_138 S) (by omega) (by decide) (cp_src (show sDu (sDu 104) = _ from rfl)) ?_
        refine p_iastN k214_137 (s_104 S) (by omega) (by decide) ?_
        rw [cp_st (sD := sDu) (ln := upc (upc (upc (upc (upc (lu0 k) 99 (k + 1)) 100 (k + 1)) 101 (k + 1)) 102 (k + 1)) 103 (k + 1)) (I := undB I) (cq0 := 104) (k := k) (v := (undB I) 138 k) (show (upc (upc (upc (upc (upc (lu0 k) 99 (k + 1)) 100 (k + 1)) 101 (k + 1)) 102 (k + 1)) 103 (k + 1)) 104 = k from rfl) (show (undB I) (sDu 104) k = _ from rfl)]
        refine p_aload_n k214_138 rfl ?_
        refine p_getRv k214_139 (s_98 S) f_12_38_12 (r_98_9 S) ?_
        refine p_iload_n k214_142 rfl ?_
        refine p_aload_n k214_143 rfl ?_
        refine p_getRv k214_144 (s_98 S) f_12_202_12 (r_98_63 S) ?_
        refine p_iload_n k214_147 rfl ?_
        refine p_ialdN k214_148 (s_139 S) (by omega) (by decide) (cp_src (show sDu (sDu 105) = _ from rfl)) ?_
        refine p_iastN k214_149 (s_105 S) (by omega) (by decide) ?_
        rw [cp_st (sD := sDu) (ln := upc (upc (upc (upc (upc (upc (lu0 k) 99 (k + 1)) 100 (k + 1)) 101 (k + 1)) 102 (k + 1)) 103 (k + 1)) 104 (k + 1)) (I := undB I) (cq0 := 105) (k := k) (v := (undB I) 139 k) (show (upc (upc (upc (upc (upc (upc (lu0 k) 99 (k + 1)) 100 (k + 1)) 101 (k + 1)) 102 (k + 1)) 103 (k + 1)) 104 (k + 1)) 105 = k from rfl) (show (undB I) (sDu 105) k = _ from rfl)]
        refine p_aload_n k214_150 rfl ?_
        refine p_getRv k214_151 (s_98 S) f_12_41_12 (r_98_10 S) ?_
        refine p_iload_n k214_154 rfl ?_
        refine p_aload_n k214_155 rfl ?_
        refine p_getRv k214_156 (s_98 S) f_12_205_12 (r_98_64 S) ?_
        refine p_iload_n k214_159 rfl ?_
        refine p_ialdN k214_160 (s_140 S) (by omega) (by decide) (cp_src (show sDu (sDu 106) = _ from rfl)) ?_
        refine p_iastN k214_161 (s_106 S) (by omega) (by decide) ?_
        rw [cp_st (sD := sDu) (ln := upc (upc (upc (upc (upc (upc (upc (lu0 k) 99 (k + 1)) 100 (k + 1)) 101 (k + 1)) 102 (k + 1)) 103 (k + 1)) 104 (k + 1)) 105 (k + 1)) (I := undB I) (cq0 := 106) (k := k) (v := (undB I) 140 k) (show (upc (upc (upc (upc (upc (upc (upc (lu0 k) 99 (k + 1)) 100 (k + 1)) 101 (k + 1)) 102 (k + 1)) 103 (k + 1)) 104 (k + 1)) 105 (k + 1)) 106 = k from rfl) (show (undB I) (sDu 106) k = _ from rfl)]
        refine p_aload_n k214_162 rfl ?_
        refine p_getRv k214_163 (s_98 S) f_12_44_12 (r_98_11 S) ?_
        refine p_iload_n k214_166 rfl ?_
        refine p_aload_n k214_167 rfl ?_
        refine p_getRv k214_168 (s_98 S) f_12_208_12 (r_98_65 S) ?_
        refine p_iload_n k214_171 rfl ?_
        refine p_ialdN k214_172 (s_141 S) (by omega) (by decide) (cp_src (show sDu (sDu 107) = _ from rfl)) ?_
        refine p_iastN k214_173 (s_107 S) (by omega) (by decide) ?_
        rw [cp_st (sD := sDu) (ln := upc (upc (upc (upc (upc (upc (upc (upc (lu0 k) 99 (k + 1)) 100 (k + 1)) 101 (k + 1)) 102 (k + 1)) 103 (k + 1)) 104 (k + 1)) 105 (k + 1)) 106 (k + 1)) (I := undB I) (cq0 := 107) (k := k) (v := (undB I) 141 k) (show (upc (upc (upc (upc (upc (upc (upc (upc (lu0 k) 99 (k + 1)) 100 (k + 1)) 101 (k + 1)) 102 (k + 1)) 103 (k + 1)) 104 (k + 1)) 105 (k + 1)) 106 (k + 1)) 107 = k from rfl) (show (undB I) (sDu 107) k = _ from rfl)]
        refine p_aload_n k214_174 rfl ?_
        refine p_getRv k214_175 (s_98 S) f_12_144_12 (r_98_44 S) ?_
        refine p_iload_n k214_178 rfl ?_
        refine p_aload_n k214_179 rfl ?_
        refine p_getRv k214_180 (s_98 S) f_12_217_12 (r_98_68 S) ?_
        refine p_iload_n k214_183 rfl ?_
        refine p_ialdN k214_184 (s_144 S) (by omega) (by decide) (cp_src (show sDu (sDu 128) = _ from rfl)) ?_
        refine p_iastN k214_185 (s_128 S) (by omega) (by decide) ?_
        rw [cp_st (sD := sDu) (ln := upc (upc (upc (upc (upc (upc (upc (upc (upc (lu0 k) 99 (k + 1)) 100 (k + 1)) 101 (k + 1)) 102 (k + 1)) 103 (k + 1)) 104 (k + 1)) 105 (k + 1)) 106 (k + 1)) 107 (k + 1)) (I := undB I) (cq0 := 128) (k := k) (v := (undB I) 144 k) (show (upc (upc (upc (upc (upc (upc (upc (upc (upc (lu0 k) 99 (k + 1)) 100 (k + 1)) 101 (k + 1)) 102 (k + 1)) 103 (k + 1)) 104 (k + 1)) 105 (k + 1)) 106 (k + 1)) 107 (k + 1)) 128 = k from rfl) (show (undB I) (sDu 128) k = _ from rfl)]
        refine p_aload_n k214_186 rfl ?_
        refine p_getRv k214_187 (s_98 S) f_12_147_12 (r_98_45 S) ?_
        refine p_iload_n k214_190 rfl ?_
        refine p_aload_n k214_191 rfl ?_
        refine p_getRv k214_192 (s_98 S) f_12_220_12 (r_98_69 S) ?_
        refine p_iload_n k214_195 rfl ?_
        refine p_ialdN k214_196 (s_145 S) (by omega) (by decide) (cp_src (show sDu (sDu 129) = _ from rfl)) ?_
        refine p_iastN k214_197 (s_129 S) (by omega) (by decide) ?_
        rw [cp_st (sD := sDu) (ln := upc (upc (upc (upc (upc (upc (upc (upc (upc (upc (lu0 k) 99 (k + 1)) 100 (k + 1)) 101 (k + 1)) 102 (k + 1)) 103 (k + 1)) 104 (k + 1)) 105 (k + 1)) 106 (k + 1)) 107 (k + 1)) 128 (k + 1)) (I := undB I) (cq0 := 129) (k := k) (v := (undB I) 145 k) (show (upc (upc (upc (upc (upc (upc (upc (upc (upc (upc (lu0 k) 99 (k + 1)) 100 (k + 1)) 101 (k + 1)) 102 (k + 1)) 103 (k + 1)) 104 (k + 1)) 105 (k + 1)) 106 (k + 1)) 107 (k + 1)) 128 (k + 1)) 129 = k from rfl) (show (undB I) (sDu 129) k = _ from rfl)]
        refine p_iincN (ls1 := [(0, _), (1, _)]) k214_198 rfl rfl ?_
        refine p_goto (tgt := 60) k214_201 (by decide) ?_
        rw [lu0_st]
        exact ih (k + 1) (by omega)
    refine (show _ = _ from congrArg (fun z => EvP _ _ _ _ _ (z, J, K, h) _) ((congrArg (fun q => cpM sDu q (undB I)) lu0_0).trans (cp_0 _ _))).mp ?_
    exact L0 6 0 (by omega)
  · skip
    refine p_bipush (v := (-3)) k214_7 (by decide) ?_
    refine p_ireturn k214_9 rt_214 ?_
    exact ⟨by unfold undM; rw [if_pos cq4], by unfold undM; rw [if_pos cq4]⟩

set_option maxRecDepth 100000 in
set_option maxHeartbeats 4000000 in
theorem M_divisor {d : Nat} {I : Nat → Nat → Int32} {J : Nat → Nat → Int64} {K : Nat → Nat → Option Nat} {h : List xSh} (S : St K h) {a b : Nat} (ha : a < 2 ^ 31) (hb : b < 2 ^ 31) : EvP d 206 0 [(0, .ref (98)), (1, .int (nI (a))), (2, .int (nI (b)))] [] (I, J, K, h) (QI (fun x t => x = nI (Nat.gcd a b) ∧ t = (I, J, K, h))) := by
  refine p_iload_n k206_0 rfl ?_
  refine p_istore_n (ls' := [(0, _), (1, _), (2, _), (3, _)]) k206_1 rfl ?_
  refine p_iload_n k206_2 rfl ?_
  refine p_istore (ls' := [(0, _), (1, _), (2, _), (3, _), (4, _)]) k206_3 rfl ?_
  have L : ∀ (j : Nat) (p q : Nat), q ≤ j → p < 2 ^ 31 → q < 2 ^ 31 → Nat.gcd p q = Nat.gcd a b → EvP d 206 5 [(0, .ref (98)), (1, .int (nI (a))), (2, .int (nI (b))), (3, .int (nI (p))), (4, .int (nI (q)))] [] (I, J, K, h) (QI (fun x t => x = nI (Nat.gcd a b) ∧ t = (I, J, K, h))) := by
    intro j
    induction j with
    | zero =>
      intro p q hk
      intro hp hq hg
      refine p_iload k206_5 rfl ?_
      refine p_if_eqN (tgt := 26) k206_7 (by decide) (by omega) (fun _ => ?_) (fun c => False.elim (by omega))
      refine p_iload_n k206_26 rfl ?_
      refine p_ireturn k206_27 rt_206 ?_
      exact ⟨by rw [← hg, show q = 0 by omega, Nat.gcd_zero_right], rfl⟩
    | succ j ih =>
      intro p q hk
      intro hp hq hg
      refine p_iload k206_5 rfl ?_
      refine p_if_eqN (tgt := 26) k206_7 (by decide) (by omega) (fun cq7 => ?_) (fun cq7 => ?_)
      · skip
        refine p_iload_n k206_26 rfl ?_
        refine p_ireturn k206_27 rt_206 ?_
        exact ⟨by rw [← hg, cq7, Nat.gcd_zero_right], rfl⟩
      · skip
        refine p_iload_n k206_10 rfl ?_
        refine p_iload k206_11 rfl ?_
        refine p_iremN (by omega) (by omega) (by omega) k206_13 ?_
        refine p_istore (ls' := [(0, _), (1, _), (2, _), (3, _), (4, _), (5, _)]) k206_14 rfl ?_
        refine p_iload k206_16 rfl ?_
        refine p_istore_n (ls' := [(0, _), (1, _), (2, _), (3, _), (4, _), (5, _)]) k206_18 rfl ?_
        refine p_iload k206_19 rfl ?_
        refine p_istore (ls' := [(0, _), (1, _), (2, _), (3, _), (4, _), (5, _)]) k206_21 rfl ?_
        refine p_goto (tgt := 5) k206_23 (by decide) ?_
        refine p_drop [0, 1, 2, 3, 4] rfl ?_
        have hm := Nat.mod_lt p (show 0 < q by omega)
        exact ih q (p % q) (by omega) (by omega) (by omega) (by rw [← hg, Nat.gcd_comm p q, Nat.gcd_rec q p, Nat.gcd_comm])
  exact L b a b (by omega) (by omega) (by omega) rfl

/-- a fraction's part in lowest terms -/
def lowM (a b : Nat) (p : Int32) : Int64 := if p = 0 then (nI (a / Nat.gcd a b)).toInt64 else (nI (b / Nat.gcd a b)).toInt64
set_option maxRecDepth 100000 in
set_option maxHeartbeats 4000000 in
theorem M_lowest {d : Nat} {I : Nat → Nat → Int32} {J : Nat → Nat → Int64} {K : Nat → Nat → Option Nat} {h : List xSh} (S : St K h) {a b : Nat} (ha : a < 2 ^ 31) (hb : b < 2 ^ 31) (hb0 : 0 < b) (p : Int32) : EvP (d + 1) 207 0 [(0, .ref (98)), (1, .int (nI (a))), (2, .int (nI (b))), (3, .int (p))] [] (I, J, K, h) (QL (fun x t => x = lowM a b p ∧ t = (I, J, K, h))) := by
  refine p_aload_n k207_0 rfl ?_
  refine p_iload_n k207_1 rfl ?_
  refine p_iload_n k207_2 rfl ?_
  refine p_cV2i k207_3 (s_98 S) c_12_401_12 rfl rfl (Nat.le_of_ble_eq_true rfl) (M_divisor S ha hb) (fun x1 m1 hq => ?_)
  obtain ⟨rfl, rfl⟩ := hq
  have hg0 := Nat.gcd_pos_of_pos_right a hb0
  have hgb := Nat.gcd_le_right a hb0
  refine p_istore (ls' := [(0, _), (1, _), (2, _), (3, _), (4, _)]) k207_6 rfl ?_
  refine p_iload_n k207_8 rfl ?_
  refine p_if_ne (tgt := 20) k207_9 (by decide) (fun cq9 => ?_) (fun cq9 => ?_)
  · skip
    refine p_iload_n k207_20 rfl ?_
    refine p_iload k207_21 rfl ?_
    refine p_idivN (by omega) (by omega) (by omega) k207_23 ?_
    refine p_i2l k207_24 ?_
    refine p_lreturn k207_25 rt_207 ?_
    exact ⟨by unfold lowM; first | rw [if_pos cq9] | rw [if_neg cq9], rfl⟩
  · skip
    refine p_iload_n k207_12 rfl ?_
    refine p_iload k207_13 rfl ?_
    refine p_idivN (by omega) (by omega) (by omega) k207_15 ?_
    refine p_i2l k207_16 ?_
    refine p_goto (tgt := 25) k207_17 (by decide) ?_
    refine p_lreturn k207_25 rt_207 ?_
    exact ⟨by unfold lowM; first | rw [if_pos cq9] | rw [if_neg cq9], rfl⟩

def fOdd (I : Nat → Nat → Int32) (nh cb ce : Nat) (q : Int32) (k n : Nat) : Nat := n + (if gusM I k nh cb ce q < workF I cb ce q then 0 else 1)
def oddM (I : Nat → Nat → Int32) (nh cb ce : Nat) (q p : Int32) : Int64 := if ixB q 5 = false ∨ inB p (nI 0) (nI 1) = false ∨ nh = 0 then -9223372036854775808 else lowM (fld (fOdd I nh cb ce q) nh 0 0) nh p
theorem fOdd_le (I : Nat → Nat → Int32) (nh cb ce : Nat) (q : Int32) : ∀ (j k n : Nat), fld (fOdd I nh cb ce q) j k n ≤ n + j := by
  intro j
  induction j with
  | zero => intro k n; exact Nat.le_refl _
  | succ j ih =>
    intro k n
    refine Nat.le_trans (ih (k + 1) _) ?_
    unfold fOdd
    split <;> omega
theorem workF_msk {I : Nat → Nat → Int32} {cb ce : Nat} {t : Int32} : workF (msk I) cb ce t = workF I cb ce t := rfl
theorem AG.wk {I I' : Nat → Nat → Int32} (h : AG I I') (cb ce : Nat) (t : Int32) : workF I' cb ce t = workF I cb ce t := by rw [← workF_msk, h.mk, workF_msk]
theorem work_gus {I : Nat → Nat → Int32} {gg nh cb ce : Nat} {t : Int32} : workF (gusI (svI I) gg nh) cb ce t = workF I cb ce t := rfl
theorem work_up {I : Nat → Nat → Int32} {cb ce : Nat} {t : Int32} {g : Nat → Int32} : workF (upc I 120 g) cb ce t = workF I cb ce t := rfl
set_option maxRecDepth 100000 in
set_option maxHeartbeats 4000000 in
theorem M_odds {d : Nat} {I : Nat → Nat → Int32} {J : Nat → Nat → Int64} {K : Nat → Nat → Option Nat} {h : List xSh} (S : St K h) {nh na dd cb ce : Nat} (M : MI I nh na dd cb ce) (hmu : I 98 33 = nI 9999) (q p : Int32) : EvP (d + 5) 208 0 [(0, .ref (98)), (1, .int (q)), (2, .int (p))] [] (I, J, K, h) (QL (fun x t => x = oddM I nh cb ce q p ∧ ∃ I', t = (I', J, K, h) ∧ AG I I')) := by
  have hnh := M.nh
  have hnh6 := M.nh6
  have hna := M.na
  have hna6 := M.na6
  refine p_aload_n k208_0 rfl ?_
  refine p_iload_n k208_1 rfl ?_
  refine p_cV1i k208_2 (s_98 S) c_12_252_12 rfl (Nat.le_of_ble_eq_true rfl) (M_isTrade S (q)) (fun x1 m1 hq => ?_)
  obtain ⟨rfl, rfl⟩ := hq
  refine p_if_eqB (tgt := 25) k208_5 (by decide) (fun cq5 => ?_) (fun cq5 => ?_)
  · skip
    refine p_ldc2 (v := (-9223372036854775808)) k208_25 (by decide) ?_
    refine p_lreturn k208_28 rt_208 ?_
    exact ⟨by unfold oddM; rw [if_pos (by first | exact Or.inl cq5 | exact Or.inr (Or.inl cq15) | exact Or.inr (Or.inr cq22))], I, rfl, AG.refl I⟩
  · skip
    refine p_aload_n k208_8 rfl ?_
    refine p_iload_n k208_9 rfl ?_
    refine p_iconst (v := nI 0) k208_10 (by decide) ?_
    refine p_iconst (v := nI 1) k208_11 (by decide) ?_
    refine p_cV3i k208_12 (s_98 S) c_12_248_12 rfl rfl rfl (Nat.le_of_ble_eq_true rfl) (M_in S (p) (nI (0)) (nI (1))) (fun x1 m1 hq => ?_)
    obtain ⟨rfl, rfl⟩ := hq
    refine p_if_eqB (tgt := 25) k208_15 (by decide) (fun cq15 => ?_) (fun cq15 => ?_)
    · skip
      refine p_ldc2 (v := (-9223372036854775808)) k208_25 (by decide) ?_
      refine p_lreturn k208_28 rt_208 ?_
      exact ⟨by unfold oddM; rw [if_pos (by first | exact Or.inl cq5 | exact Or.inr (Or.inl cq15) | exact Or.inr (Or.inr cq22))], I, rfl, AG.refl I⟩
    · skip
      refine p_aload_n k208_18 rfl ?_
      refine p_getIv k208_19 (s_98 S) f_12_7_12 M.nh ?_
      refine p_if_neN (tgt := 29) k208_22 (by decide) (by omega) (fun cq22 => ?_) (fun cq22 => ?_)
      · skip
        refine p_iconst (v := nI 0) k208_29 (by decide) ?_
        refine p_istore_n (ls' := [(0, _), (1, _), (2, _), (3, _)]) k208_30 rfl ?_
        refine p_iconst (v := nI 0) k208_31 (by decide) ?_
        refine p_istore (ls' := [(0, _), (1, _), (2, _), (3, _), (4, _)]) k208_32 rfl ?_
        have hn9 : ¬ (ixB q 5 = false ∨ inB p (nI 0) (nI 1) = false ∨ nh = 0) := by rw [cq5, cq15]; simp; exact cq22
        have L : ∀ (j : Nat) (k n : Nat) (I' : Nat → Nat → Int32), k + j = nh → AG I I' → n + j ≤ 6 → fld (fOdd I nh cb ce q) j k n = fld (fOdd I nh cb ce q) nh 0 0 → EvP (d + 5) 208 34 [(0, .ref (98)), (1, .int (q)), (2, .int (p)), (3, .int (nI (n))), (4, .int (nI (k)))] [] (I', J, K, h) (QL (fun x t => x = oddM I nh cb ce q p ∧ ∃ I', t = (I', J, K, h) ∧ AG I I')) := by
          intro j
          induction j with
          | zero =>
            intro k n I' hk
            intro hA hn6 hs
            replace hs : n = _ := hs
            refine p_iload k208_34 rfl ?_
            refine p_aload_n k208_36 rfl ?_
            refine p_getIv k208_37 (s_98 S) f_12_7_12 (hA.mi M).nh ?_
            refine p_icmp_geN (tgt := 86) k208_40 (by decide) (by omega) (by omega) (fun _ => ?_) (fun c => False.elim (by omega))
            refine p_aload_n k208_86 rfl ?_
            refine p_iload_n k208_87 rfl ?_
            refine p_aload_n k208_88 rfl ?_
            refine p_getIv k208_89 (s_98 S) f_12_7_12 (hA.mi M).nh ?_
            refine p_iload_n k208_92 rfl ?_
            refine p_cV3l k208_93 (s_98 S) c_12_406_12 rfl rfl rfl (Nat.le_of_ble_eq_true rfl) (M_lowest S (I := I') (a := n) (b := nh) (by omega) (by omega) (by omega) p) (fun x1 m1 hq => ?_)
            obtain ⟨rfl, rfl⟩ := hq
            refine p_lreturn k208_96 rt_208 ?_
            exact ⟨by unfold oddM; rw [if_neg hn9, ← hs], I', rfl, hA⟩
          | succ j ih =>
            intro k n I' hk
            intro hA hn6 hs
            refine p_iload k208_34 rfl ?_
            refine p_aload_n k208_36 rfl ?_
            refine p_getIv k208_37 (s_98 S) f_12_7_12 (hA.mi M).nh ?_
            refine p_icmp_geN (tgt := 86) k208_40 (by decide) (by omega) (by omega) (fun c => False.elim (by omega)) (fun _ => ?_)
            refine p_aload_n k208_43 rfl ?_
            refine p_cV0v k208_44 (s_98 S) c_12_362_12 (Nat.le_of_ble_eq_true rfl) (M_save S) (fun m1 hq => ?_)
            obtain rfl := hq
            refine p_aload_n k208_47 rfl ?_
            refine p_iload k208_48 rfl ?_
            refine p_cV1i k208_50 (s_98 S) c_12_354_12 rfl (Nat.le_of_ble_eq_true rfl) (M_goGust S (show MI (svI I') nh na dd cb ce from hA.mi M) (gg := k) (by omega)) (fun x1 m1 hq => ?_)
            obtain ⟨rfl, rfl⟩ := hq
            refine p_self 120 ?_
            refine p_istore (ls' := [(0, _), (1, _), (2, _), (3, _), (4, _), (5, _)]) k208_53 rfl ?_
            refine p_iload_n k208_55 rfl ?_
            refine p_aload_n k208_56 rfl ?_
            refine p_iload_n k208_57 rfl ?_
            refine p_cV1i k208_58 (s_98 S) c_12_347_12 rfl (Nat.le_of_ble_eq_true rfl) (M_today S (MI_gus (hA.mi M) (by omega)) _ q) (fun x1 m1 hq => ?_)
            obtain ⟨rfl, g, rfl⟩ := hq
            rw [gus_tod (I := I') M.nh6 (by omega), hA.gus k nh cb ce q]
            refine p_aload_n k208_61 rfl ?_
            refine p_iload_n k208_62 rfl ?_
            refine p_cV1i k208_63 (s_98 S) c_12_344_12 rfl (Nat.le_of_ble_eq_true rfl) (M_work S (I := upc (gusI (svI I') k nh) 120 g) ((MI_gus (hA.mi M) (gg := k) (by omega)).up g).th q) (fun x1 m1 hq => ?_)
            obtain ⟨rfl, rfl⟩ := hq
            rw [work_up, work_gus, hA.wk]
            refine p_icmp_lt (tgt := 73) k208_66 (by decide) (fun cq66 => ?_) (fun cq66 => ?_)
            · skip
              refine p_iconst (v := nI 0) k208_73 (by decide) ?_
              refine p_iaddN k208_74 ?_
              refine p_istore_n (ls' := [(0, _), (1, _), (2, _), (3, _), (4, _), (5, _)]) k208_75 rfl ?_
              refine p_aload_n k208_76 rfl ?_
              refine p_cV0v k208_77 (s_98 S) c_12_365_12 (Nat.le_of_ble_eq_true rfl) (M_putBack S) (fun m1 hq => ?_)
              obtain rfl := hq
              refine p_iincN (ls1 := [(0, _), (1, _), (2, _), (3, _), (4, _), (5, _)]) k208_80 rfl rfl ?_
              refine p_goto (tgt := 34) k208_83 (by decide) ?_
              refine p_drop [0, 1, 2, 3, 4] rfl ?_
              refine ih (k + 1) _ _ (by omega) (hA.trans (AG.back ((hA 98 33 rfl).trans hmu) (fun c q1 q2 q3 q4 q5 => ?_) (fun k hk => rfl) (fun k hk => rfl) (fun m hm => ?_))) (by omega) (by rw [← hs]; show fld _ j (k + 1) _ = fld _ j (k + 1) _; congr 1; unfold fOdd; first | rw [if_pos cq66] | rw [if_neg cq66])
              · unfold gusI; simp only [upc, q2, q4, q5, if_false]
              · exact (congrFun (gusW_V (I := svI I') M.nh6 (show k < 6 by omega)) m).trans (if_neg (by have := M.nh6; omega))
            · skip
              refine p_iconst (v := nI 1) k208_69 (by decide) ?_
              refine p_goto (tgt := 74) k208_70 (by decide) ?_
              refine p_iaddN k208_74 ?_
              refine p_istore_n (ls' := [(0, _), (1, _), (2, _), (3, _), (4, _), (5, _)]) k208_75 rfl ?_
              refine p_aload_n k208_76 rfl ?_
              refine p_cV0v k208_77 (s_98 S) c_12_365_12 (Nat.le_of_ble_eq_true rfl) (M_putBack S) (fun m1 hq => ?_)
              obtain rfl := hq
              refine p_iincN (ls1 := [(0, _), (1, _), (2, _), (3, _), (4, _), (5, _)]) k208_80 rfl rfl ?_
              refine p_goto (tgt := 34) k208_83 (by decide) ?_
              refine p_drop [0, 1, 2, 3, 4] rfl ?_
              refine ih (k + 1) _ _ (by omega) (hA.trans (AG.back ((hA 98 33 rfl).trans hmu) (fun c q1 q2 q3 q4 q5 => ?_) (fun k hk => rfl) (fun k hk => rfl) (fun m hm => ?_))) (by omega) (by rw [← hs]; show fld _ j (k + 1) _ = fld _ j (k + 1) _; congr 1; unfold fOdd; first | rw [if_pos cq66] | rw [if_neg cq66])
              · unfold gusI; simp only [upc, q2, q4, q5, if_false]
              · exact (congrFun (gusW_V (I := svI I') M.nh6 (show k < 6 by omega)) m).trans (if_neg (by have := M.nh6; omega))
        exact L nh 0 0 I (by omega) (AG.refl I) (by omega) rfl
      · skip
        refine p_ldc2 (v := (-9223372036854775808)) k208_25 (by decide) ?_
        refine p_lreturn k208_28 rt_208 ?_
        exact ⟨by unfold oddM; rw [if_pos (by first | exact Or.inl cq5 | exact Or.inr (Or.inl cq15) | exact Or.inr (Or.inr cq22))], I, rfl, AG.refl I⟩

/-- deeds are numbers of four places -/
def DB (I : Nat → Nat → Int32) (cb ce nh na : Nat) : Prop := ∀ a k, a < na → k < nh → ∃ m, m < 2000 ∧ deedM I cb ce a k = nI m
def fMea (I : Nat → Nat → Int32) (cb ce a k n : Nat) : Nat := n + (deedM I cb ce a k).toNatClampNeg
def meaM (I : Nat → Nat → Int32) (nh na cb ce : Nat) (v p : Int32) : Int64 := if ixB v na = false ∨ inB p (nI 0) (nI 1) = false ∨ nh = 0 then -9223372036854775808 else lowM (fld (fMea I cb ce v.toNatClampNeg) nh 0 0) nh p
set_option maxRecDepth 100000 in
set_option maxHeartbeats 4000000 in
theorem M_mean {d : Nat} {I : Nat → Nat → Int32} {J : Nat → Nat → Int64} {K : Nat → Nat → Option Nat} {h : List xSh} (S : St K h) {nh na dd cb ce : Nat} (M : MI I nh na dd cb ce) (g : Nat → Int32) (hD : DB I cb ce nh na) (v p : Int32) : EvP (d + 4) 209 0 [(0, .ref (98)), (1, .int (v)), (2, .int (p))] [] (upc I 120 g, J, K, h) (QL (fun x t => x = meaM I nh na cb ce v p ∧ ∃ g, t = (upc I 120 g, J, K, h))) := by
  have hnh : upc I 120 g 98 0 = nI nh := M.nh
  have hnh6 := M.nh6
  have hna : upc I 120 g 98 1 = nI na := M.na
  have hna6 := M.na6
  refine p_aload_n k209_0 rfl ?_
  refine p_iload_n k209_1 rfl ?_
  refine p_cV1i k209_2 (s_98 S) c_12_256_12 rfl (Nat.le_of_ble_eq_true rfl) (M_isHat S hna hna6 (v)) (fun x1 m1 hq => ?_)
  obtain ⟨rfl, rfl⟩ := hq
  refine p_if_eqB (tgt := 25) k209_5 (by decide) (fun cq5 => ?_) (fun cq5 => ?_)
  · skip
    refine p_ldc2 (v := (-9223372036854775808)) k209_25 (by decide) ?_
    refine p_lreturn k209_28 rt_209 ?_
    exact ⟨by unfold meaM; rw [if_pos (by first | exact Or.inl cq5 | exact Or.inr (Or.inl cq15) | exact Or.inr (Or.inr cq22))], g, rfl⟩
  · skip
    refine p_aload_n k209_8 rfl ?_
    refine p_iload_n k209_9 rfl ?_
    refine p_iconst (v := nI 0) k209_10 (by decide) ?_
    refine p_iconst (v := nI 1) k209_11 (by decide) ?_
    refine p_cV3i k209_12 (s_98 S) c_12_248_12 rfl rfl rfl (Nat.le_of_ble_eq_true rfl) (M_in S (p) (nI (0)) (nI (1))) (fun x1 m1 hq => ?_)
    obtain ⟨rfl, rfl⟩ := hq
    refine p_if_eqB (tgt := 25) k209_15 (by decide) (fun cq15 => ?_) (fun cq15 => ?_)
    · skip
      refine p_ldc2 (v := (-9223372036854775808)) k209_25 (by decide) ?_
      refine p_lreturn k209_28 rt_209 ?_
      exact ⟨by unfold meaM; rw [if_pos (by first | exact Or.inl cq5 | exact Or.inr (Or.inl cq15) | exact Or.inr (Or.inr cq22))], g, rfl⟩
    · skip
      refine p_aload_n k209_18 rfl ?_
      refine p_getIv k209_19 (s_98 S) f_12_7_12 M.nh ?_
      refine p_if_neN (tgt := 29) k209_22 (by decide) (by omega) (fun cq22 => ?_) (fun cq22 => ?_)
      · skip
        refine p_iconst (v := nI 0) k209_29 (by decide) ?_
        refine p_istore_n (ls' := [(0, _), (1, _), (2, _), (3, _)]) k209_30 rfl ?_
        refine p_iconst (v := nI 0) k209_31 (by decide) ?_
        refine p_istore (ls' := [(0, _), (1, _), (2, _), (3, _), (4, _)]) k209_32 rfl ?_
        obtain ⟨a, ha, rfl⟩ := ixB_of (n := na) (by omega) cq5
        have hca := nI_clamp (n := a) (by omega)
        have hn9 : ¬ (ixB (nI a) na = false ∨ inB p (nI 0) (nI 1) = false ∨ nh = 0) := by rw [cq5, cq15]; simp; exact cq22
        have L : ∀ (j : Nat) (k n : Nat) (g : Nat → Int32), k + j = nh → n + 2000 * j ≤ 12000 → fld (fMea I cb ce a) j k n = fld (fMea I cb ce a) nh 0 0 → EvP (d + 4) 209 34 [(0, .ref (98)), (1, .int (nI (a))), (2, .int (p)), (3, .int (nI (n))), (4, .int (nI (k)))] [] (upc I 120 g, J, K, h) (QL (fun x t => x = meaM I nh na cb ce (nI a) p ∧ ∃ g, t = (upc I 120 g, J, K, h))) := by
          intro j
          induction j with
          | zero =>
            intro k n g hk
            intro hn6 hs
            replace hs : n = _ := hs
            refine p_iload k209_34 rfl ?_
            refine p_aload_n k209_36 rfl ?_
            refine p_getIv k209_37 (s_98 S) f_12_7_12 M.nh ?_
            refine p_icmp_geN (tgt := 59) k209_40 (by decide) (by omega) (by omega) (fun _ => ?_) (fun c => False.elim (by omega))
            refine p_aload_n k209_59 rfl ?_
            refine p_iload_n k209_60 rfl ?_
            refine p_aload_n k209_61 rfl ?_
            refine p_getIv k209_62 (s_98 S) f_12_7_12 M.nh ?_
            refine p_iload_n k209_65 rfl ?_
            refine p_cV3l k209_66 (s_98 S) c_12_406_12 rfl rfl rfl (Nat.le_of_ble_eq_true rfl) (M_lowest S (I := upc I 120 g) (a := n) (b := nh) (by omega) (by omega) (by omega) p) (fun x1 m1 hq => ?_)
            obtain ⟨rfl, rfl⟩ := hq
            refine p_lreturn k209_69 rt_209 ?_
            exact ⟨by unfold meaM; rw [if_neg hn9, hca, ← hs], g, rfl⟩
          | succ j ih =>
            intro k n g hk
            intro hn6 hs
            refine p_iload k209_34 rfl ?_
            refine p_aload_n k209_36 rfl ?_
            refine p_getIv k209_37 (s_98 S) f_12_7_12 M.nh ?_
            refine p_icmp_geN (tgt := 59) k209_40 (by decide) (by omega) (by omega) (fun c => False.elim (by omega)) (fun _ => ?_)
            refine p_iload_n k209_43 rfl ?_
            refine p_aload_n k209_44 rfl ?_
            refine p_iload_n k209_45 rfl ?_
            refine p_iload k209_46 rfl ?_
            refine p_cV2i k209_48 (s_98 S) c_12_341_12 rfl rfl (Nat.le_of_ble_eq_true rfl) (M_deed2 S M g (a := a) (hh := k) (by omega) (by omega)) (fun x1 m1 hq => ?_)
            obtain ⟨rfl, g, rfl⟩ := hq
            obtain ⟨m, hm2, hme⟩ := hD a k (by omega) (by omega)
            have hcm : (deedM I cb ce a k).toNatClampNeg = m := by rw [hme, nI_clamp (by omega)]
            rw [hme]
            refine p_iaddN k209_51 ?_
            refine p_istore_n (ls' := [(0, _), (1, _), (2, _), (3, _), (4, _)]) k209_52 rfl ?_
            refine p_iincN (ls1 := [(0, _), (1, _), (2, _), (3, _), (4, _)]) k209_53 rfl rfl ?_
            refine p_goto (tgt := 34) k209_56 (by decide) ?_
            exact ih (k + 1) _ _ (by omega) (by omega) (by rw [← hs]; show fld _ j (k + 1) _ = fld _ j (k + 1) _; congr 1; unfold fMea; rw [hcm])
        exact L nh 0 0 g (by omega) (by omega) rfl
      · skip
        refine p_ldc2 (v := (-9223372036854775808)) k209_25 (by decide) ?_
        refine p_lreturn k209_28 rt_209 ?_
        exact ⟨by unfold meaM; rw [if_pos (by first | exact Or.inl cq5 | exact Or.inr (Or.inl cq15) | exact Or.inr (Or.inr cq22))], g, rfl⟩

theorem p_self126 : True := trivial
theorem andn6 {s k : Nat} (hs : s < 64) (hk : k < 6) (hb : s.testBit k = true) : nI s &&& (nI (2 ^ k) ^^^ (-1)) = nI (s ^^^ 2 ^ k) := by
  have H : ∀ s : Fin 64, ∀ k : Fin 6, s.val.testBit k.val = true → nI s.val &&& (nI (2 ^ k.val) ^^^ (-1)) = nI (s.val ^^^ 2 ^ k.val) := by decide +kernel
  exact H ⟨s, hs⟩ ⟨k, hk⟩ hb
theorem xor_lt6 {s k : Nat} (hs : s < 64) (hk : k < 6) (hb : s.testBit k = true) : s ^^^ 2 ^ k < s := by
  have H : ∀ s : Fin 64, ∀ k : Fin 6, s.val.testBit k.val = true → s.val ^^^ 2 ^ k.val < s.val := by decide +kernel
  exact H ⟨s, hs⟩ ⟨k, hk⟩ hb
/-- in how many ways, with one hat more, that can be on the heads of on -/
def fWay (w : Nat → Int32) (on s : Nat) (k : Nat) (x : Int32) : Int32 := x + (if s.testBit k = true ∧ on.testBit k = true then w (s ^^^ 2 ^ k) else nI 0)
def wayS (w : Nat → Int32) (on nh : Nat) : Nat → Int32 := fun s => if s < 64 then fld (fWay w on s) nh 0 (nI 0) else w s
def isSn (I : Nat → Nat → Int32) (sn a : Nat) : Bool := (fnd (fun k => decide (I 128 k = nI a)) sn 0).isSome
def fWho (I : Nat → Nat → Int32) (cb ce nh sn : Nat) (a : Nat) (w : Nat → Int32) : Nat → Int32 := if isSn I sn a = true then wayS w (wonM I cb ce nh sn a) nh else w
def way0 (g : Nat → Int32) : Nat → Int32 := fun s => if s < 64 then (if s = 0 then nI 1 else nI 0) else g s
def whoW (I : Nat → Nat → Int32) (cb ce nh na sn : Nat) : Nat → Int32 := fld (fWho I cb ce nh sn) na 0 (way0 (I 130))
def fSum (w : Nat → Int32) (k : Nat) (x : Int32) : Int32 := x + w k
def whoM (I : Nat → Nat → Int32) (cb ce nh na sn : Nat) : Int32 := fld (fSum (whoW I cb ce nh na sn)) 64 0 (nI 0)
/-- from set j - 1 down: these are done -/
def wayD (w w2 : Nat → Int32) (j : Nat) : Nat → Int32 := fun s => if s < j then w s else w2 s
theorem wayD_st {w w2 : Nat → Int32} {j : Nat} {v : Int32} (hv : w2 j = v) : upc (wayD w w2 (j + 1)) j v = wayD w w2 j := by
  funext s
  by_cases h : s = j
  · subst h; rw [upc_eq]; unfold wayD; rw [if_neg (Nat.lt_irrefl _), hv]
  · rw [upc_ne _ _ h]; unfold wayD
    by_cases h2 : s < j
    · rw [if_pos h2, if_pos (by omega)]
    · rw [if_neg h2, if_neg (by omega)]
theorem isSn_st {I : Nat → Nat → Int32} {a j k : Nat} {b : Bool} : (b || (fnd (fun k => decide (I 128 k = nI a)) (j + 1) k).isSome) = ((b || decide (I 128 k = nI a)) || (fnd (fun k => decide (I 128 k = nI a)) j (k + 1)).isSome) := by
  show (b || (if decide (I 128 k = nI a) = true then some k else fnd (fun k => decide (I 128 k = nI a)) j (k + 1)).isSome) = _
  by_cases h : I 128 k = nI a
  · rw [decide_eq_true h, if_pos rfl]; simp
  · rw [decide_eq_false h, if_neg (by decide)]; simp
theorem or_lt64 {s k : Nat} (hs : s < 64) (hk : k < 6) : s ||| 2 ^ k < 64 := by
  have H : ∀ s : Fin 64, ∀ k : Fin 6, s.val ||| 2 ^ k.val < 64 := by decide +kernel
  exact H ⟨s, hs⟩ ⟨k, hk⟩
theorem won_lt {I : Nat → Nat → Int32} {cb ce nh sn a : Nat} (h6 : nh ≤ 6) : wonM I cb ce nh sn a < 64 := by
  have L : ∀ (j k s : Nat), k + j = nh → s < 64 → fld (fWon I cb ce sn a) j k s < 64 := by
    intro j
    induction j with
    | zero => intro k s _ hs; exact hs
    | succ j ih =>
      intro k s hk hs
      refine ih (k + 1) _ (by omega) ?_
      unfold fWon
      split
      · exact or_lt64 hs (by omega)
      · rw [Nat.or_zero]; exact hs
  exact L nh 0 0 (by omega) (by decide)
set_option maxRecDepth 100000 in
set_option maxHeartbeats 4000000 in
theorem M_who {d : Nat} {I : Nat → Nat → Int32} {J : Nat → Nat → Int64} {K : Nat → Nat → Option Nat} {h : List xSh} (S : St K h) {nh na dd cb ce : Nat} (M : MI I nh na dd cb ce) (g : Nat → Int32) {sn : Nat} (hsn : I 98 43 = nI sn) (hs6 : sn ≤ 6) : EvP (d + 5) 205 0 [(0, .ref (98))] [] (upc I 120 g, J, K, h) (QI (fun x t => x = whoM I cb ce nh na sn ∧ ∃ u g, t = (upc (upc I 130 u) 120 g, J, K, h))) := by
  have hnh : upc I 120 g 98 0 = nI nh := M.nh
  have hnh6 := M.nh6
  have hna : upc I 120 g 98 1 = nI na := M.na
  have hna6 := M.na6
  refine p_iconst (v := nI 0) k205_0 (by decide) ?_
  refine p_istore_n (ls' := [(0, _), (1, _)]) k205_1 rfl ?_
  have L1 : ∀ (j : Nat) (k : Nat) (u : Nat → Int32), k + j = 64 → (∀ s, s < k → u s = way0 (I 130) s) → (∀ s, 64 ≤ s → u s = I 130 s) → EvP (d + 5) 205 2 [(0, .ref (98)), (1, .int (nI (k)))] [] (upc (upc I 130 (u)) 120 g, J, K, h) (QI (fun x t => x = whoM I cb ce nh na sn ∧ ∃ u g, t = (upc (upc I 130 u) 120 g, J, K, h))) := by
    intro j
    induction j with
    | zero =>
      intro k u hk
      intro hu hv
      have hu2 : u = way0 (I 130) := by
            funext s
            by_cases e : s < 64
            · exact hu s (by omega)
            · rw [hv s (by omega)]; unfold way0; rw [if_neg e]
      subst hu2
      refine p_iload_n k205_2 rfl ?_
      refine p_bipush (v := nI 64) k205_3 (by decide) ?_
      refine p_icmp_geN (tgt := 29) k205_5 (by decide) (by omega) (by omega) (fun _ => ?_) (fun c => False.elim (by omega))
      refine p_iconst (v := nI 0) k205_29 (by decide) ?_
      refine p_istore_n (ls' := [(0, _), (1, _)]) k205_30 rfl ?_
      have L2 : ∀ (j : Nat) (a : Nat) (w g : Nat → Int32), a + j = na → fld (fWho I cb ce nh sn) j a w = (whoW I cb ce nh na sn) → EvP (d + 5) 205 31 [(0, .ref (98)), (1, .int (nI (a)))] [] (upc (upc I 130 (w)) 120 g, J, K, h) (QI (fun x t => x = whoM I cb ce nh na sn ∧ ∃ u g, t = (upc (upc I 130 u) 120 g, J, K, h))) := by
        intro j
        induction j with
        | zero =>
          intro a w g hk
          intro hw
          have hw2 : w = (whoW I cb ce nh na sn) := hw
          subst hw2
          refine p_iload_n k205_31 rfl ?_
          refine p_aload_n k205_32 rfl ?_
          refine p_getIv k205_33 (s_98 S) f_12_13_12 M.na ?_
          refine p_icmp_geN (tgt := 185) k205_36 (by decide) (by omega) (by omega) (fun _ => ?_) (fun c => False.elim (by omega))
          refine p_iconst (v := nI 0) k205_185 (by decide) ?_
          refine p_istore_n (ls' := [(0, _), (1, _)]) k205_186 rfl ?_
          refine p_iconst (v := nI 0) k205_187 (by decide) ?_
          refine p_istore_n (ls' := [(0, _), (1, _), (2, _)]) k205_188 rfl ?_
          have L6 : ∀ (j : Nat) (k : Nat) (x : Int32), k + j = 64 → fld (fSum (whoW I cb ce nh na sn)) j k x = whoM I cb ce nh na sn → EvP (d + 5) 205 189 [(0, .ref (98)), (1, .int (x)), (2, .int (nI (k)))] [] (upc (upc I 130 ((whoW I cb ce nh na sn))) 120 g, J, K, h) (QI (fun x t => x = whoM I cb ce nh na sn ∧ ∃ u g, t = (upc (upc I 130 u) 120 g, J, K, h))) := by
            intro j
            induction j with
            | zero =>
              intro k x hk
              intro hx
              refine p_iload_n k205_189 rfl ?_
              refine p_bipush (v := nI 64) k205_190 (by decide) ?_
              refine p_icmp_geN (tgt := 210) k205_192 (by decide) (by omega) (by omega) (fun _ => ?_) (fun c => False.elim (by omega))
              refine p_iload_n k205_210 rfl ?_
              refine p_ireturn k205_211 rt_205 ?_
              exact ⟨hx, _, g, rfl⟩
            | succ j ih =>
              intro k x hk
              intro hx
              refine p_iload_n k205_189 rfl ?_
              refine p_bipush (v := nI 64) k205_190 (by decide) ?_
              refine p_icmp_geN (tgt := 210) k205_192 (by decide) (by omega) (by omega) (fun c => False.elim (by omega)) (fun _ => ?_)
              refine p_iload_n k205_195 rfl ?_
              refine p_aload_n k205_196 rfl ?_
              refine p_getRv k205_197 (s_98 S) f_12_150_12 (r_98_46 S) ?_
              refine p_iload_n k205_200 rfl ?_
              refine p_ialdN k205_201 (s_130 S) (by omega) (by decide) (show _ = (whoW I cb ce nh na sn) k from rfl) ?_
              refine p_iadd k205_202 ?_
              refine p_istore_n (ls' := [(0, _), (1, _), (2, _)]) k205_203 rfl ?_
              refine p_iincN (ls1 := [(0, _), (1, _), (2, _)]) k205_204 rfl rfl ?_
              refine p_goto (tgt := 189) k205_207 (by decide) ?_
              exact ih (k + 1) _ (by omega) hx
          exact L6 64 0 (nI 0) (by omega) rfl
        | succ j ih =>
          intro a w g hk
          intro hw
          have ih0 := ih
          obtain ⟨j0, hj0⟩ : ∃ j0, j0 = j := ⟨j, rfl⟩
          subst hj0
          refine p_iload_n k205_31 rfl ?_
          refine p_aload_n k205_32 rfl ?_
          refine p_getIv k205_33 (s_98 S) f_12_13_12 M.na ?_
          refine p_icmp_geN (tgt := 185) k205_36 (by decide) (by omega) (by omega) (fun c => False.elim (by omega)) (fun _ => ?_)
          refine p_iconst (v := bI false) k205_39 (by decide) ?_
          refine p_istore_n (ls' := [(0, _), (1, _), (2, _)]) k205_40 rfl ?_
          refine p_iconst (v := nI 0) k205_41 (by decide) ?_
          refine p_istore_n (ls' := [(0, _), (1, _), (2, _), (3, _)]) k205_42 rfl ?_
          have L3 : ∀ (j : Nat) (m : Nat) (b : Bool), m + j = sn → (b || (fnd (fun k => decide (I 128 k = nI a)) j m).isSome) = isSn I sn a → EvP (d + 5) 205 43 [(0, .ref (98)), (1, .int (nI (a))), (2, .int (bI (b))), (3, .int (nI (m)))] [] (upc (upc I 130 (w)) 120 g, J, K, h) (QI (fun x t => x = whoM I cb ce nh na sn ∧ ∃ u g, t = (upc (upc I 130 u) 120 g, J, K, h))) := by
            intro j
            induction j with
            | zero =>
              intro m b hk
              intro hb
              refine p_iload_n k205_43 rfl ?_
              refine p_aload_n k205_44 rfl ?_
              refine p_getIv k205_45 (s_98 S) f_12_141_12 hsn ?_
              refine p_icmp_geN (tgt := 77) k205_48 (by decide) (by omega) (by omega) (fun _ => ?_) (fun c => False.elim (by omega))
              rw [show (fnd (fun k => decide (I 128 k = nI a)) 0 m).isSome = false from rfl, Bool.or_false] at hb
              refine p_iload_n k205_77 rfl ?_
              refine p_if_neB (tgt := 84) k205_78 (by decide) (fun cq78 => ?_) (fun cq78 => ?_)
              · skip
                refine p_aload_n k205_84 rfl ?_
                refine p_iload_n k205_85 rfl ?_
                refine p_cV1i k205_86 (s_98 S) c_12_398_12 rfl (Nat.le_of_ble_eq_true rfl) (M_woreOn S (show MI (upc I 130 w) nh na dd cb ce from M) g (sn := sn) (a := a) hsn hs6 (by omega)) (fun x1 m1 hq => ?_)
                obtain ⟨rfl, g, rfl⟩ := hq
                obtain ⟨on, hon⟩ : ∃ on, on = wonM I cb ce nh sn a := ⟨_, rfl⟩
                have hon64 : on < 64 := by rw [hon]; exact won_lt M.nh6
                rw [show wonM (upc I 130 w) cb ce nh sn a = on from hon.symm]
                refine p_istore_n (ls' := [(0, _), (1, _), (2, _), (3, _)]) k205_89 rfl ?_
                refine p_bipush (v := nI 63) k205_90 (by decide) ?_
                refine p_istore (ls' := [(0, _), (1, _), (2, _), (3, _), (4, _)]) k205_92 rfl ?_
                have L4 : ∀ (s : Nat), s < 64 → EvP (d + 5) 205 94 [(0, .ref (98)), (1, .int (nI (a))), (3, .int (nI (on))), (4, .int (nI (s)))] [] (upc (upc I 130 (wayD w (wayS w on nh) (s + 1))) 120 g, J, K, h) (QI (fun x t => x = whoM I cb ce nh na sn ∧ ∃ u g, t = (upc (upc I 130 u) 120 g, J, K, h))) := by
                  intro s
                  induction s with
                  | zero =>
                    intro hs64
                    refine p_iload k205_94 rfl ?_
                    refine p_if_ltN (tgt := 179) k205_96 (by decide) (by omega) ?_
                    refine p_iconst (v := nI 0) k205_99 (by decide) ?_
                    refine p_istore (ls' := [(0, _), (1, _), (3, _), (4, _), (5, _)]) k205_100 rfl ?_
                    refine p_iconst (v := nI 0) k205_102 (by decide) ?_
                    refine p_istore (ls' := [(0, _), (1, _), (3, _), (4, _), (5, _), (6, _)]) k205_103 rfl ?_
                    have L5 : ∀ (j : Nat) (m : Nat) (x : Int32), m + j = nh → fld (fWay w on 0) j m x = fld (fWay w on 0) nh 0 (nI 0) → EvP (d + 5) 205 105 [(0, .ref (98)), (1, .int (nI (a))), (3, .int (nI (on))), (4, .int (nI (0))), (5, .int (x)), (6, .int (nI (m)))] [] (upc (upc I 130 (wayD w (wayS w on nh) (0 + 1))) 120 g, J, K, h) (QI (fun x t => x = whoM I cb ce nh na sn ∧ ∃ u g, t = (upc (upc I 130 u) 120 g, J, K, h))) := by
                      intro j
                      induction j with
                      | zero =>
                        intro m x hk
                        intro hx
                        replace hx : x = _ := hx
                        refine p_iload k205_105 rfl ?_
                        refine p_aload_n k205_107 rfl ?_
                        refine p_getIv k205_108 (s_98 S) f_12_7_12 M.nh ?_
                        refine p_icmp_geN (tgt := 164) k205_111 (by decide) (by omega) (by omega) (fun _ => ?_) (fun c => False.elim (by omega))
                        refine p_aload_n k205_164 rfl ?_
                        refine p_getRv k205_165 (s_98 S) f_12_150_12 (r_98_46 S) ?_
                        refine p_iload k205_168 rfl ?_
                        refine p_iload k205_170 rfl ?_
                        refine p_iastN k205_172 (s_130 S) (by omega) (by decide) ?_
                        rw [upc_sw _ (show 120 ≠ 130 by decide), upc_uu, show upc (upc I 130 (wayD w (wayS w on nh) (0 + 1))) 120 g 130 = wayD w (wayS w on nh) (0 + 1) from rfl, wayD_st (w := w) (w2 := wayS w on nh) (by unfold wayS; rw [if_pos (by omega)]; exact hx.symm)]
                        rw [show wayD w (wayS w on nh) 0 = wayS w on nh from by funext z; exact if_neg (Nat.not_lt_zero _)]
                        refine p_iinc (ls' := [(0, _), (1, _), (3, _), (4, _), (5, _), (6, _)]) k205_173 rfl rfl rfl ?_
                        refine p_goto (tgt := 94) k205_176 (by decide) ?_
                        refine p_iload k205_94 rfl ?_
                        refine p_if_lt (tgt := 179) k205_96 (by decide) (fun _ => ?_) (fun c => False.elim (by exact absurd (by decide) c))
                        refine p_iincN (ls1 := [(0, _), (1, _), (3, _), (4, _), (5, _), (6, _)]) k205_179 rfl rfl ?_
                        refine p_goto (tgt := 31) k205_182 (by decide) ?_
                        refine p_drop [0, 1] rfl ?_
                        exact ih0 (a + 1) _ g (by omega) (by rw [← hw]; show fld _ j0 (a + 1) _ = fld _ j0 (a + 1) (fWho I cb ce nh sn a w); congr 1; unfold fWho; rw [← hb, cq78, if_pos rfl, ← hon])
                      | succ j ih =>
                        intro m x hk
                        intro hx
                        refine p_iload k205_105 rfl ?_
                        refine p_aload_n k205_107 rfl ?_
                        refine p_getIv k205_108 (s_98 S) f_12_7_12 M.nh ?_
                        refine p_icmp_geN (tgt := 164) k205_111 (by decide) (by omega) (by omega) (fun c => False.elim (by omega)) (fun _ => ?_)
                        refine p_iload k205_114 rfl ?_
                        refine p_aload_n k205_116 rfl ?_
                        refine p_iload k205_117 rfl ?_
                        refine p_iload k205_119 rfl ?_
                        refine p_cV2i k205_121 (s_98 S) c_12_368_12 rfl rfl (Nat.le_of_ble_eq_true rfl) (M_has S (s := 0) (k := m) (by omega) (by omega)) (fun x1 m1 hq => ?_)
                        obtain ⟨rfl, rfl⟩ := hq
                        refine p_if_eqB (tgt := 154) k205_124 (by decide) (fun cq124 => ?_) (fun cq124 => ?_)
                        · skip
                          refine p_iconst (v := nI 0) k205_154 (by decide) ?_
                          refine p_iadd k205_155 ?_
                          refine p_istore (ls' := [(0, _), (1, _), (3, _), (4, _), (5, _), (6, _)]) k205_156 rfl ?_
                          refine p_iincN (ls1 := [(0, _), (1, _), (3, _), (4, _), (5, _), (6, _)]) k205_158 rfl rfl ?_
                          refine p_goto (tgt := 105) k205_161 (by decide) ?_
                          exact ih (m + 1) _ (by omega) (by rw [← hx]; show fld _ j (m + 1) _ = fld _ j (m + 1) _; congr 1; unfold fWay; first | rw [if_pos (And.intro cq124 cq134)] | rw [if_neg (show ¬ (Nat.testBit 0 m = true ∧ on.testBit m = true) from fun z => by rw [cq124] at z; exact absurd z.1 (by decide))] | rw [if_neg (show ¬ (Nat.testBit 0 m = true ∧ on.testBit m = true) from fun z => by rw [cq134] at z; exact absurd z.2 (by decide))])
                        · skip
                          refine p_aload_n k205_127 rfl ?_
                          refine p_iload_n k205_128 rfl ?_
                          refine p_iload k205_129 rfl ?_
                          refine p_cV2i k205_131 (s_98 S) c_12_368_12 rfl rfl (Nat.le_of_ble_eq_true rfl) (M_has S (s := on) (k := m) (by omega) (by omega)) (fun x1 m1 hq => ?_)
                          obtain ⟨rfl, rfl⟩ := hq
                          refine p_if_eqB (tgt := 154) k205_134 (by decide) (fun cq134 => ?_) (fun cq134 => ?_)
                          · skip
                            refine p_iconst (v := nI 0) k205_154 (by decide) ?_
                            refine p_iadd k205_155 ?_
                            refine p_istore (ls' := [(0, _), (1, _), (3, _), (4, _), (5, _), (6, _)]) k205_156 rfl ?_
                            refine p_iincN (ls1 := [(0, _), (1, _), (3, _), (4, _), (5, _), (6, _)]) k205_158 rfl rfl ?_
                            refine p_goto (tgt := 105) k205_161 (by decide) ?_
                            exact ih (m + 1) _ (by omega) (by rw [← hx]; show fld _ j (m + 1) _ = fld _ j (m + 1) _; congr 1; unfold fWay; first | rw [if_pos (And.intro cq124 cq134)] | rw [if_neg (show ¬ (Nat.testBit 0 m = true ∧ on.testBit m = true) from fun z => by rw [cq124] at z; exact absurd z.1 (by decide))] | rw [if_neg (show ¬ (Nat.testBit 0 m = true ∧ on.testBit m = true) from fun z => by rw [cq134] at z; exact absurd z.2 (by decide))])
                          · skip
                            refine p_aload_n k205_137 rfl ?_
                            refine p_getRv k205_138 (s_98 S) f_12_150_12 (r_98_46 S) ?_
                            refine p_iload k205_141 rfl ?_
                            refine p_iconst (v := nI 1) k205_143 (by decide) ?_
                            refine p_iload k205_144 rfl ?_
                            refine p_ishl1 (by omega) k205_146 ?_
                            refine p_iconst (v := (-1)) k205_147 (by decide) ?_
                            refine p_ixor k205_148 ?_
                            refine p_iand k205_149 ?_
                            have hxl := xor_lt6 (s := 0) (k := m) (by omega) (by omega) cq124
                            refine p_toI (z := (nI (0 ^^^ 2 ^ m))) (andn6 (by omega) (by omega) cq124) ?_
                            refine p_ialdN k205_150 (s_130 S) (by omega) (by decide) (show wayD w (wayS w on nh) (0 + 1) (0 ^^^ 2 ^ m) = _ from if_pos (by omega)) ?_
                            refine p_goto (tgt := 155) k205_151 (by decide) ?_
                            refine p_iadd k205_155 ?_
                            refine p_istore (ls' := [(0, _), (1, _), (3, _), (4, _), (5, _), (6, _)]) k205_156 rfl ?_
                            refine p_iincN (ls1 := [(0, _), (1, _), (3, _), (4, _), (5, _), (6, _)]) k205_158 rfl rfl ?_
                            refine p_goto (tgt := 105) k205_161 (by decide) ?_
                            exact ih (m + 1) _ (by omega) (by rw [← hx]; show fld _ j (m + 1) _ = fld _ j (m + 1) _; congr 1; unfold fWay; first | rw [if_pos (And.intro cq124 cq134)] | rw [if_neg (show ¬ (Nat.testBit 0 m = true ∧ on.testBit m = true) from fun z => by rw [cq124] at z; exact absurd z.1 (by decide))] | rw [if_neg (show ¬ (Nat.testBit 0 m = true ∧ on.testBit m = true) from fun z => by rw [cq134] at z; exact absurd z.2 (by decide))])
                    exact L5 nh 0 (nI 0) (by omega) rfl
                  | succ s ihs0 =>
                    intro hs64
                    refine p_iload k205_94 rfl ?_
                    refine p_if_ltN (tgt := 179) k205_96 (by decide) (by omega) ?_
                    refine p_iconst (v := nI 0) k205_99 (by decide) ?_
                    refine p_istore (ls' := [(0, _), (1, _), (3, _), (4, _), (5, _)]) k205_100 rfl ?_
                    refine p_iconst (v := nI 0) k205_102 (by decide) ?_
                    refine p_istore (ls' := [(0, _), (1, _), (3, _), (4, _), (5, _), (6, _)]) k205_103 rfl ?_
                    have L5 : ∀ (j : Nat) (m : Nat) (x : Int32), m + j = nh → fld (fWay w on (s + 1)) j m x = fld (fWay w on (s + 1)) nh 0 (nI 0) → EvP (d + 5) 205 105 [(0, .ref (98)), (1, .int (nI (a))), (3, .int (nI (on))), (4, .int (nI (s + 1))), (5, .int (x)), (6, .int (nI (m)))] [] (upc (upc I 130 (wayD w (wayS w on nh) ((s + 1) + 1))) 120 g, J, K, h) (QI (fun x t => x = whoM I cb ce nh na sn ∧ ∃ u g, t = (upc (upc I 130 u) 120 g, J, K, h))) := by
                      intro j
                      induction j with
                      | zero =>
                        intro m x hk
                        intro hx
                        replace hx : x = _ := hx
                        refine p_iload k205_105 rfl ?_
                        refine p_aload_n k205_107 rfl ?_
                        refine p_getIv k205_108 (s_98 S) f_12_7_12 M.nh ?_
                        refine p_icmp_geN (tgt := 164) k205_111 (by decide) (by omega) (by omega) (fun _ => ?_) (fun c => False.elim (by omega))
                        refine p_aload_n k205_164 rfl ?_
                        refine p_getRv k205_165 (s_98 S) f_12_150_12 (r_98_46 S) ?_
                        refine p_iload k205_168 rfl ?_
                        refine p_iload k205_170 rfl ?_
                        refine p_iastN k205_172 (s_130 S) (by omega) (by decide) ?_
                        rw [upc_sw _ (show 120 ≠ 130 by decide), upc_uu, show upc (upc I 130 (wayD w (wayS w on nh) ((s + 1) + 1))) 120 g 130 = wayD w (wayS w on nh) ((s + 1) + 1) from rfl, wayD_st (w := w) (w2 := wayS w on nh) (by unfold wayS; rw [if_pos (by omega)]; exact hx.symm)]
                        refine p_iincD (ls1 := [(0, _), (1, _), (3, _), (4, _), (5, _), (6, _)]) k205_173 rfl rfl ?_
                        refine p_goto (tgt := 94) k205_176 (by decide) ?_
                        refine p_drop [0, 1, 3, 4] rfl ?_
                        exact ihs0 (by omega)
                      | succ j ih =>
                        intro m x hk
                        intro hx
                        refine p_iload k205_105 rfl ?_
                        refine p_aload_n k205_107 rfl ?_
                        refine p_getIv k205_108 (s_98 S) f_12_7_12 M.nh ?_
                        refine p_icmp_geN (tgt := 164) k205_111 (by decide) (by omega) (by omega) (fun c => False.elim (by omega)) (fun _ => ?_)
                        refine p_iload k205_114 rfl ?_
                        refine p_aload_n k205_116 rfl ?_
                        refine p_iload k205_117 rfl ?_
                        refine p_iload k205_119 rfl ?_
                        refine p_cV2i k205_121 (s_98 S) c_12_368_12 rfl rfl (Nat.le_of_ble_eq_true rfl) (M_has S (s := s + 1) (k := m) (by omega) (by omega)) (fun x1 m1 hq => ?_)
                        obtain ⟨rfl, rfl⟩ := hq
                        refine p_if_eqB (tgt := 154) k205_124 (by decide) (fun cq124 => ?_) (fun cq124 => ?_)
                        · skip
                          refine p_iconst (v := nI 0) k205_154 (by decide) ?_
                          refine p_iadd k205_155 ?_
                          refine p_istore (ls' := [(0, _), (1, _), (3, _), (4, _), (5, _), (6, _)]) k205_156 rfl ?_
                          refine p_iincN (ls1 := [(0, _), (1, _), (3, _), (4, _), (5, _), (6, _)]) k205_158 rfl rfl ?_
                          refine p_goto (tgt := 105) k205_161 (by decide) ?_
                          exact ih (m + 1) _ (by omega) (by rw [← hx]; show fld _ j (m + 1) _ = fld _ j (m + 1) _; congr 1; unfold fWay; first | rw [if_pos (And.intro cq124 cq134)] | rw [if_neg (show ¬ (Nat.testBit (s + 1) m = true ∧ on.testBit m = true) from fun z => by rw [cq124] at z; exact absurd z.1 (by decide))] | rw [if_neg (show ¬ (Nat.testBit (s + 1) m = true ∧ on.testBit m = true) from fun z => by rw [cq134] at z; exact absurd z.2 (by decide))])
                        · skip
                          refine p_aload_n k205_127 rfl ?_
                          refine p_iload_n k205_128 rfl ?_
                          refine p_iload k205_129 rfl ?_
                          refine p_cV2i k205_131 (s_98 S) c_12_368_12 rfl rfl (Nat.le_of_ble_eq_true rfl) (M_has S (s := on) (k := m) (by omega) (by omega)) (fun x1 m1 hq => ?_)
                          obtain ⟨rfl, rfl⟩ := hq
                          refine p_if_eqB (tgt := 154) k205_134 (by decide) (fun cq134 => ?_) (fun cq134 => ?_)
                          · skip
                            refine p_iconst (v := nI 0) k205_154 (by decide) ?_
                            refine p_iadd k205_155 ?_
                            refine p_istore (ls' := [(0, _), (1, _), (3, _), (4, _), (5, _), (6, _)]) k205_156 rfl ?_
                            refine p_iincN (ls1 := [(0, _), (1, _), (3, _), (4, _), (5, _), (6, _)]) k205_158 rfl rfl ?_
                            refine p_goto (tgt := 105) k205_161 (by decide) ?_
                            exact ih (m + 1) _ (by omega) (by rw [← hx]; show fld _ j (m + 1) _ = fld _ j (m + 1) _; congr 1; unfold fWay; first | rw [if_pos (And.intro cq124 cq134)] | rw [if_neg (show ¬ (Nat.testBit (s + 1) m = true ∧ on.testBit m = true) from fun z => by rw [cq124] at z; exact absurd z.1 (by decide))] | rw [if_neg (show ¬ (Nat.testBit (s + 1) m = true ∧ on.testBit m = true) from fun z => by rw [cq134] at z; exact absurd z.2 (by decide))])
                          · skip
                            refine p_aload_n k205_137 rfl ?_
                            refine p_getRv k205_138 (s_98 S) f_12_150_12 (r_98_46 S) ?_
                            refine p_iload k205_141 rfl ?_
                            refine p_iconst (v := nI 1) k205_143 (by decide) ?_
                            refine p_iload k205_144 rfl ?_
                            refine p_ishl1 (by omega) k205_146 ?_
                            refine p_iconst (v := (-1)) k205_147 (by decide) ?_
                            refine p_ixor k205_148 ?_
                            refine p_iand k205_149 ?_
                            have hxl := xor_lt6 (s := s + 1) (k := m) (by omega) (by omega) cq124
                            refine p_toI (z := (nI ((s + 1) ^^^ 2 ^ m))) (andn6 (by omega) (by omega) cq124) ?_
                            refine p_ialdN k205_150 (s_130 S) (by omega) (by decide) (show wayD w (wayS w on nh) ((s + 1) + 1) ((s + 1) ^^^ 2 ^ m) = _ from if_pos (by omega)) ?_
                            refine p_goto (tgt := 155) k205_151 (by decide) ?_
                            refine p_iadd k205_155 ?_
                            refine p_istore (ls' := [(0, _), (1, _), (3, _), (4, _), (5, _), (6, _)]) k205_156 rfl ?_
                            refine p_iincN (ls1 := [(0, _), (1, _), (3, _), (4, _), (5, _), (6, _)]) k205_158 rfl rfl ?_
                            refine p_goto (tgt := 105) k205_161 (by decide) ?_
                            exact ih (m + 1) _ (by omega) (by rw [← hx]; show fld _ j (m + 1) _ = fld _ j (m + 1) _; congr 1; unfold fWay; first | rw [if_pos (And.intro cq124 cq134)] | rw [if_neg (show ¬ (Nat.testBit (s + 1) m = true ∧ on.testBit m = true) from fun z => by rw [cq124] at z; exact absurd z.1 (by decide))] | rw [if_neg (show ¬ (Nat.testBit (s + 1) m = true ∧ on.testBit m = true) from fun z => by rw [cq134] at z; exact absurd z.2 (by decide))])
                    exact L5 nh 0 (nI 0) (by omega) rfl
                have e9 : wayD w (wayS w on nh) 64 = w := by
                  funext z
                  unfold wayD
                  by_cases hz : z < 64
                  · rw [if_pos hz]
                  · rw [if_neg hz]; unfold wayS; rw [if_neg hz]
                have h63 := L4 63 (by omega)
                rw [show (63 : Nat) + 1 = 64 from rfl, e9] at h63
                refine p_drop [0, 1, 3, 4] rfl ?_
                exact h63
              · skip
                refine p_goto (tgt := 179) k205_81 (by decide) ?_
                refine p_iincN (ls1 := [(0, _), (1, _), (2, _), (3, _)]) k205_179 rfl rfl ?_
                refine p_goto (tgt := 31) k205_182 (by decide) ?_
                refine p_drop [0, 1] rfl ?_
                exact ih0 (a + 1) w g (by omega) (by rw [← hw]; show fld _ j0 (a + 1) _ = fld _ j0 (a + 1) (fWho I cb ce nh sn a w); congr 1; unfold fWho; rw [← hb, cq78]; rfl)
            | succ j ih =>
              intro m b hk
              intro hb
              refine p_iload_n k205_43 rfl ?_
              refine p_aload_n k205_44 rfl ?_
              refine p_getIv k205_45 (s_98 S) f_12_141_12 hsn ?_
              refine p_icmp_geN (tgt := 77) k205_48 (by decide) (by omega) (by omega) (fun c => False.elim (by omega)) (fun _ => ?_)
              refine p_iload_n k205_51 rfl ?_
              refine p_if_neB (tgt := 65) k205_52 (by decide) (fun cq52 => ?_) (fun cq52 => ?_)
              · skip
                refine p_iconst (v := bI true) k205_65 (by decide) ?_
                refine p_goto (tgt := 70) k205_66 (by decide) ?_
                refine p_istore_n (ls' := [(0, _), (1, _), (2, _), (3, _)]) k205_70 rfl ?_
                refine p_iincN (ls1 := [(0, _), (1, _), (2, _), (3, _)]) k205_71 rfl rfl ?_
                refine p_goto (tgt := 43) k205_74 (by decide) ?_
                exact ih (m + 1) _ (by omega) (by rw [← hb, isSn_st]; congr 1; simp [*])
              · skip
                refine p_aload_n k205_55 rfl ?_
                refine p_getRv k205_56 (s_98 S) f_12_144_12 (r_98_44 S) ?_
                refine p_iload_n k205_59 rfl ?_
                refine p_ialdN k205_60 (s_128 S) (by omega) (by decide) (show _ = I 128 m from rfl) ?_
                refine p_iload_n k205_61 rfl ?_
                refine p_icmp_ne (tgt := 69) k205_62 (by decide) (fun cq62 => ?_) (fun cq62 => ?_)
                · skip
                  refine p_iconst (v := bI false) k205_69 (by decide) ?_
                  refine p_istore_n (ls' := [(0, _), (1, _), (2, _), (3, _)]) k205_70 rfl ?_
                  refine p_iincN (ls1 := [(0, _), (1, _), (2, _), (3, _)]) k205_71 rfl rfl ?_
                  refine p_goto (tgt := 43) k205_74 (by decide) ?_
                  exact ih (m + 1) _ (by omega) (by rw [← hb, isSn_st]; congr 1; simp [*])
                · skip
                  refine p_iconst (v := bI true) k205_65 (by decide) ?_
                  refine p_goto (tgt := 70) k205_66 (by decide) ?_
                  refine p_istore_n (ls' := [(0, _), (1, _), (2, _), (3, _)]) k205_70 rfl ?_
                  refine p_iincN (ls1 := [(0, _), (1, _), (2, _), (3, _)]) k205_71 rfl rfl ?_
                  refine p_goto (tgt := 43) k205_74 (by decide) ?_
                  exact ih (m + 1) _ (by omega) (by rw [← hb, isSn_st]; congr 1; simp [*])
          exact L3 sn 0 false (by omega) (by rw [Bool.false_or]; rfl)
      exact L2 na 0 _ g (by omega) rfl
    | succ j ih =>
      intro k u hk
      intro hu hv
      refine p_iload_n k205_2 rfl ?_
      refine p_bipush (v := nI 64) k205_3 (by decide) ?_
      refine p_icmp_geN (tgt := 29) k205_5 (by decide) (by omega) (by omega) (fun c => False.elim (by omega)) (fun _ => ?_)
      refine p_aload_n k205_8 rfl ?_
      refine p_getRv k205_9 (s_98 S) f_12_150_12 (r_98_46 S) ?_
      refine p_iload_n k205_12 rfl ?_
      refine p_iload_n k205_13 rfl ?_
      refine p_if_neN (tgt := 21) k205_14 (by decide) (by omega) (fun cq14 => ?_) (fun cq14 => ?_)
      · skip
        refine p_iconst (v := nI 0) k205_21 (by decide) ?_
        refine p_iastN k205_22 (s_130 S) (by omega) (by decide) ?_
        refine p_iincN (ls1 := [(0, _), (1, _)]) k205_23 rfl rfl ?_
        refine p_goto (tgt := 2) k205_26 (by decide) ?_
        rw [upc_sw _ (show 120 ≠ 130 by decide), upc_uu]
        refine ih (k + 1) _ (by omega) (fun s hs => ?_) (fun s hs => ?_)
        · by_cases e : s = k
          · subst e; rw [upc_eq]; unfold way0; rw [if_pos (by omega)]; first | rw [if_pos cq14] | rw [if_neg cq14]
          · rw [upc_ne _ _ e]; exact hu s (by omega)
        · rw [upc_ne _ _ (by omega)]; exact hv s hs
      · skip
        refine p_iconst (v := nI 1) k205_17 (by decide) ?_
        refine p_goto (tgt := 22) k205_18 (by decide) ?_
        refine p_iastN k205_22 (s_130 S) (by omega) (by decide) ?_
        refine p_iincN (ls1 := [(0, _), (1, _)]) k205_23 rfl rfl ?_
        refine p_goto (tgt := 2) k205_26 (by decide) ?_
        rw [upc_sw _ (show 120 ≠ 130 by decide), upc_uu]
        refine ih (k + 1) _ (by omega) (fun s hs => ?_) (fun s hs => ?_)
        · by_cases e : s = k
          · subst e; rw [upc_eq]; unfold way0; rw [if_pos (by omega)]; first | rw [if_pos cq14] | rw [if_neg cq14]
          · rw [upc_ne _ _ e]; exact hu s (by omega)
        · rw [upc_ne _ _ (by omega)]; exact hv s hs
  refine (show _ = _ from congrArg (fun z => EvP _ _ _ _ _ (upc z 120 g, J, K, h) _) (upc_self I 130)).mp ?_
  exact L1 64 0 (I 130) (by omega) (fun s hs => absurd hs (Nat.not_lt_zero _)) (fun s _ => rfl)

