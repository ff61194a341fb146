/-! the reference: fits, deed, today, of, at, told -/
/-- the tests of clause c, of hat a on head hh -/
def hB (I : Nat → Nat → Int32) (a hh c : Nat) : Bool := evB (I 117) (tstV (facM I a hh)) (I 115 c).toNatClampNeg (I 116 c).toNatClampNeg
/-- a clause with tests is well made -/
def cOK (I : Nat → Nat → Int32) (c : Nat) : Prop := ∃ f0 f1, I 115 c = nI f0 ∧ I 116 c = nI f1 ∧ f0 ≤ f1 ∧ f1 ≤ 600 ∧ f1 ≤ f0 + 100 ∧ (∀ k, f0 ≤ k → k < f1 → tokOK (I 117 k)) ∧ ∀ tst, ∃ b0, evs (I 117) tst (f1 - f0) f0 [] = some [b0]
/-- all clauses that hold are well made -/
def WF (I : Nat → Nat → Int32) (cb ce : Nat) : Prop := ∀ c, cb ≤ c → c < ce → ¬ nI 1 < I 112 c → cOK I c
theorem M_holds2 {d : Nat} {I : Nat → Nat → Int32} {J : Nat → Nat → Int64} {K : Nat → Nat → Option Nat} {h : List xSh} (S : St K h) {c a hh : Nat} (g : Nat → Int32) (hc : c < 60) (ha : a < 6) (hk : cOK I c) : EvP (d + 1) 164 0 [(0, .ref 98), (1, .int (nI c)), (2, .int (nI a)), (3, .int (nI hh))] [] (upc I 120 g, J, K, h) (QI (fun x t => x = bI (hB I a hh c) ∧ ∃ g, t = (upc I 120 g, J, K, h))) := by
  obtain ⟨f0, f1, h1, h2, h3, h4, h5, h6, h7⟩ := hk
  obtain ⟨b0, hb⟩ := h7 (tstV (facM I a hh))
  refine EvP.mono (M_holds S (I := upc I 120 g) hc h1 h2 h3 h4 h5 ha h6 (b0 := b0) (by rw [facM_upc]; exact hb)) (fun r t hq => ?_)
  obtain ⟨x, rfl, rfl, g', rfl⟩ := hq
  refine ⟨_, rfl, ?_, g', by rw [upc_uu]⟩
  unfold hB evB
  rw [h1, h2, nI_clamp (by omega), nI_clamp (by omega), hb]
def fFit (w q : Nat → Int32) (p : Nat → Bool) (k : Nat) (s : Int32) : Int32 := if nI 1 < w k then s else if p k = false then s else if w k = 0 then s + q k else s + -q k
def fitF (I : Nat → Nat → Int32) (cb ce a hh : Nat) : Int32 := fld (fFit (I 112) (I 113) (hB I a hh)) (ce - cb) cb (nI 0)
set_option maxRecDepth 100000 in
set_option maxHeartbeats 4000000 in
theorem M_fits {d : Nat} {I : Nat → Nat → Int32} {J : Nat → Nat → Int64} {K : Nat → Nat → Option Nat} {h : List xSh} (S : St K h) {cb ce a hh : Nat} (hT : TH I cb ce) (ha : a < 6) (hwf : WF I cb ce) : EvP (d + 2) 165 0 [(0, .ref (98)), (1, .int (nI (a))), (2, .int (nI (hh)))] [] (I, J, K, h) (QI (fun x t => x = fitF I cb ce a hh ∧ ∃ g, t = (upc I 120 g, J, K, h))) := by
  have hle := hT.le
  refine p_iconst (v := nI 0) k165_0 (by decide) ?_
  refine p_istore_n (ls' := [(0, _), (1, _), (2, _), (3, _)]) k165_1 rfl ?_
  refine p_aload_n k165_2 rfl ?_
  refine p_cV0i k165_3 (s_98 S) c_12_315_12 (Nat.le_of_ble_eq_true rfl) (M_begin S hT) (fun x1 m1 hq => ?_)
  obtain ⟨rfl, rfl⟩ := hq
  refine p_istore (ls' := [(0, _), (1, _), (2, _), (3, _), (4, _)]) k165_6 rfl ?_
  have L : ∀ (j : Nat) (k : Nat) (s : Int32) (g : Nat → Int32), k + j = ce → cb ≤ k → EvP (d + 2) 165 8 [(0, .ref (98)), (1, .int (nI (a))), (2, .int (nI (hh))), (3, .int (s)), (4, .int (nI (k)))] [] (upc I 120 g, J, K, h) (QI (fun x t => x = fld (fFit (I 112) (I 113) (hB I a hh)) j k s ∧ ∃ g, t = (upc I 120 g, J, K, h))) := by
    intro j
    induction j with
    | zero =>
      intro k s g hk
      intro hk0
      replace hT : TH (upc I 120 g) cb ce := hT
      refine p_iload k165_8 rfl ?_
      refine p_aload_n k165_10 rfl ?_
      refine p_cV0i k165_11 (s_98 S) c_12_318_12 (Nat.le_of_ble_eq_true rfl) (M_behind S hT) (fun x1 m1 hq => ?_)
      obtain ⟨rfl, rfl⟩ := hq
      refine p_icmp_geN (tgt := 79) k165_14 (by decide) (by omega) (by omega) (fun _ => ?_) (fun c => False.elim (by omega))
      refine p_iload_n k165_79 rfl ?_
      refine p_ireturn k165_80 rt_165 ?_
      exact ⟨rfl, g, rfl⟩
    | succ j ih =>
      intro k s g hk
      intro hk0
      have hT0 := hT
      replace hT : TH (upc I 120 g) cb ce := hT0
      refine p_iload k165_8 rfl ?_
      refine p_aload_n k165_10 rfl ?_
      refine p_cV0i k165_11 (s_98 S) c_12_318_12 (Nat.le_of_ble_eq_true rfl) (M_behind S hT) (fun x1 m1 hq => ?_)
      obtain ⟨rfl, rfl⟩ := hq
      refine p_icmp_geN (tgt := 79) k165_14 (by decide) (by omega) (by omega) (fun c => False.elim (by omega)) (fun _ => ?_)
      refine p_aload_n k165_17 rfl ?_
      refine p_getRv k165_18 (s_98 S) f_12_74_12 (r_98_21 S) ?_
      refine p_iload k165_21 rfl ?_
      refine p_ialdN k165_23 (s_112 S) (by omega) (by decide) (show upc I 120 g 112 k = I 112 k from rfl) ?_
      refine p_iconst (v := nI 1) k165_24 (by decide) ?_
      refine p_icmp_gt (tgt := 73) k165_25 (by decide) (fun c25 => ?_) (fun c25 => ?_)
      · skip
        refine p_iincN (ls1 := [(0, _), (1, _), (2, _), (3, _), (4, _)]) k165_73 rfl rfl ?_
        refine p_goto (tgt := 8) k165_76 (by decide) ?_
        refine EvP.mono (ih (k + 1) _ _ (by omega) (by omega)) (fun r t hq => ?_)
        obtain ⟨x, rfl, rfl, g9, rfl⟩ := hq
        exact ⟨_, rfl, by show fld (fFit (I 112) (I 113) (hB I a hh)) j (k + 1) _ = fld (fFit (I 112) (I 113) (hB I a hh)) j (k + 1) _; congr 1; first | (simp [fFit, *]; done) | (unfold fFit; rw [if_neg c25, c36, if_neg (by decide), if_pos c50]), g9, rfl⟩
      · skip
        refine p_aload_n k165_28 rfl ?_
        refine p_iload k165_29 rfl ?_
        refine p_iload_n k165_31 rfl ?_
        refine p_iload_n k165_32 rfl ?_
        refine p_cV3i k165_33 (s_98 S) c_12_325_12 rfl rfl rfl (Nat.le_of_ble_eq_true rfl) (M_holds2 S g (c := k) (a := a) (hh := hh) (by omega) ha (hwf k (by omega) (by omega) c25)) (fun x1 m1 hq => ?_)
        obtain ⟨rfl, g9, rfl⟩ := hq
        refine p_if_neB (tgt := 42) k165_36 (by decide) (fun c36 => ?_) (fun c36 => ?_)
        · skip
          refine p_iload_n k165_42 rfl ?_
          refine p_aload_n k165_43 rfl ?_
          refine p_getRv k165_44 (s_98 S) f_12_74_12 (r_98_21 S) ?_
          refine p_iload k165_47 rfl ?_
          refine p_ialdN k165_49 (s_112 S) (by omega) (by decide) (show upc I 120 g9 112 k = I 112 k from rfl) ?_
          refine p_if_ne (tgt := 63) k165_50 (by decide) (fun c50 => ?_) (fun c50 => ?_)
          · skip
            refine p_aload_n k165_63 rfl ?_
            refine p_getRv k165_64 (s_98 S) f_12_77_12 (r_98_22 S) ?_
            refine p_iload k165_67 rfl ?_
            refine p_ialdN k165_69 (s_113 S) (by omega) (by decide) (show upc I 120 g9 113 k = I 113 k from rfl) ?_
            refine p_ineg k165_70 ?_
            refine p_iadd k165_71 ?_
            refine p_istore_n (ls' := [(0, _), (1, _), (2, _), (3, _), (4, _)]) k165_72 rfl ?_
            refine p_iincN (ls1 := [(0, _), (1, _), (2, _), (3, _), (4, _)]) k165_73 rfl rfl ?_
            refine p_goto (tgt := 8) k165_76 (by decide) ?_
            refine EvP.mono (ih (k + 1) _ _ (by omega) (by omega)) (fun r t hq => ?_)
            obtain ⟨x, rfl, rfl, g9, rfl⟩ := hq
            exact ⟨_, rfl, by show fld (fFit (I 112) (I 113) (hB I a hh)) j (k + 1) _ = fld (fFit (I 112) (I 113) (hB I a hh)) j (k + 1) _; congr 1; first | (simp [fFit, *]; done) | (unfold fFit; rw [if_neg c25, c36, if_neg (by decide), if_pos c50]), g9, rfl⟩
          · skip
            refine p_aload_n k165_53 rfl ?_
            refine p_getRv k165_54 (s_98 S) f_12_77_12 (r_98_22 S) ?_
            refine p_iload k165_57 rfl ?_
            refine p_ialdN k165_59 (s_113 S) (by omega) (by decide) (show upc I 120 g9 113 k = I 113 k from rfl) ?_
            refine p_goto (tgt := 71) k165_60 (by decide) ?_
            refine p_iadd k165_71 ?_
            refine p_istore_n (ls' := [(0, _), (1, _), (2, _), (3, _), (4, _)]) k165_72 rfl ?_
            refine p_iincN (ls1 := [(0, _), (1, _), (2, _), (3, _), (4, _)]) k165_73 rfl rfl ?_
            refine p_goto (tgt := 8) k165_76 (by decide) ?_
            refine EvP.mono (ih (k + 1) _ _ (by omega) (by omega)) (fun r t hq => ?_)
            obtain ⟨x, rfl, rfl, g9, rfl⟩ := hq
            exact ⟨_, rfl, by show fld (fFit (I 112) (I 113) (hB I a hh)) j (k + 1) _ = fld (fFit (I 112) (I 113) (hB I a hh)) j (k + 1) _; congr 1; first | (simp [fFit, *]; done) | (unfold fFit; rw [if_neg c25, c36, if_neg (by decide), if_pos c50]), g9, rfl⟩
        · skip
          refine p_goto (tgt := 73) k165_39 (by decide) ?_
          refine p_iincN (ls1 := [(0, _), (1, _), (2, _), (3, _), (4, _)]) k165_73 rfl rfl ?_
          refine p_goto (tgt := 8) k165_76 (by decide) ?_
          refine EvP.mono (ih (k + 1) _ _ (by omega) (by omega)) (fun r t hq => ?_)
          obtain ⟨x, rfl, rfl, g9, rfl⟩ := hq
          exact ⟨_, rfl, by show fld (fFit (I 112) (I 113) (hB I a hh)) j (k + 1) _ = fld (fFit (I 112) (I 113) (hB I a hh)) j (k + 1) _; congr 1; first | (simp [fFit, *]; done) | (unfold fFit; rw [if_neg c25, c36, if_neg (by decide), if_pos c50]), g9, rfl⟩
  have h9 := L (ce - cb) cb (nI 0) (I 120) (by omega) (by omega)
  rw [upc_self] at h9
  exact h9

def deedF (I : Nat → Nat → Int32) (cb ce a hh dd kk : Nat) : Int32 :=
  let m := mxI (nI 0) (I 105 a + fitF I cb ce a hh)
  match kk with
  | 1 => mxI (nI 0) (m - nI 2 * apartI I a hh)
  | 2 => mxI (nI 0) (m - mothF I cb ce * I 107 a / nI 4)
  | 3 => m + I 103 a
  | 4 => if 0 < apartI I a hh then nI 0 else m
  | 5 => mxI (nI 0) (mxI (nI 0) (m - mothF I cb ce * I 107 a / nI 4) - I 103 a)
  | 6 => m + I 103 a + I 108 (4 * a + dd % 4)
  | _ => m
set_option maxRecDepth 100000 in
set_option maxHeartbeats 4000000 in
theorem M_deed {d : Nat} {I : Nat → Nat → Int32} {J : Nat → Nat → Int64} {K : Nat → Nat → Option Nat} {h : List xSh} (S : St K h) {cb ce a hh dd kk : Nat} (hT : TH I cb ce) (ha : a < 6) (hh6 : hh < 6) (hwf : WF I cb ce) (hdd : I 98 2 = nI dd) (hd4 : dd < 20000) (hkk : I 102 a = nI kk) (hk4 : kk < 100) : EvP (d + 3) 167 0 [(0, .ref (98)), (1, .int (nI (a))), (2, .int (nI (hh)))] [] (I, J, K, h) (QI (fun x t => x = deedF I cb ce a hh dd kk ∧ ∃ g, t = (upc I 120 g, J, K, h))) := by
  refine p_aload_n k167_0 rfl ?_
  refine p_iconst (v := nI 0) k167_1 (by decide) ?_
  refine p_aload_n k167_2 rfl ?_
  refine p_getRv k167_3 (s_98 S) f_12_38_12 (r_98_9 S) ?_
  refine p_iload_n k167_6 rfl ?_
  refine p_ialdN k167_7 (s_105 S) (by omega) (by decide) rfl ?_
  refine p_aload_n k167_8 rfl ?_
  refine p_iload_n k167_9 rfl ?_
  refine p_iload_n k167_10 rfl ?_
  refine p_cV2i k167_11 (s_98 S) c_12_328_12 rfl rfl (Nat.le_of_ble_eq_true rfl) (M_fits S (a := a) (hh := hh) hT (by omega) hwf) (fun x1 m1 hq => ?_)
  obtain ⟨rfl, g, rfl⟩ := hq
  refine p_iadd k167_14 ?_
  refine p_cV2i k167_15 (s_98 S) c_12_332_12 rfl rfl (Nat.le_of_ble_eq_true rfl) (M_most S _ _) (fun x1 m1 hq => ?_)
  obtain ⟨rfl, rfl⟩ := hq
  refine p_istore_n (ls' := [(0, _), (1, _), (2, _), (3, _)]) k167_18 rfl ?_
  refine p_aload_n k167_19 rfl ?_
  refine p_getRv k167_20 (s_98 S) f_12_29_12 (r_98_6 S) ?_
  refine p_iload_n k167_23 rfl ?_
  refine p_ialdN k167_24 (s_102 S) (by omega) (by decide) (show upc I 120 g 102 a = nI kk from hkk) ?_
  rcases (show kk = 0 ∨ kk = 1 ∨ kk = 2 ∨ kk = 3 ∨ kk = 4 ∨ kk = 5 ∨ kk = 6 ∨ 7 ≤ kk by omega) with rfl | rfl | rfl | rfl | rfl | rfl | rfl | hk7
  · skip
    refine p_tswO (tgt := 183) k167_25 (by omega) (by omega) (by decide) ?_
    refine p_iload_n k167_183 rfl ?_
    refine p_ireturn k167_184 rt_167 ?_
    exact ⟨rfl, g, rfl⟩
  · skip
    refine p_tswI (tgt := 64) k167_25 (by decide) (by decide) (by decide) rfl (by decide) ?_
    refine p_aload_n k167_64 rfl ?_
    refine p_iconst (v := nI 0) k167_65 (by decide) ?_
    refine p_iload_n k167_66 rfl ?_
    refine p_iconst (v := nI 2) k167_67 (by decide) ?_
    refine p_aload_n k167_68 rfl ?_
    refine p_iload_n k167_69 rfl ?_
    refine p_iload_n k167_70 rfl ?_
    refine p_cV2i k167_71 (s_98 S) c_12_335_12 rfl rfl (Nat.le_of_ble_eq_true rfl) (M_apart S (I := upc I 120 g) (a := a) (k := hh) ha hh6) (fun x1 m1 hq => ?_)
    obtain ⟨rfl, rfl⟩ := hq
    refine p_imul k167_74 ?_
    refine p_isub k167_75 ?_
    refine p_cV2i k167_76 (s_98 S) c_12_332_12 rfl rfl (Nat.le_of_ble_eq_true rfl) (M_most S _ _) (fun x1 m1 hq => ?_)
    obtain ⟨rfl, rfl⟩ := hq
    refine p_ireturn k167_79 rt_167 ?_
    exact ⟨rfl, g, rfl⟩
  · skip
    refine p_tswI (tgt := 95) k167_25 (by decide) (by decide) (by decide) rfl (by decide) ?_
    refine p_aload_n k167_95 rfl ?_
    refine p_iconst (v := nI 0) k167_96 (by decide) ?_
    refine p_iload_n k167_97 rfl ?_
    refine p_aload_n k167_98 rfl ?_
    refine p_cV0i k167_99 (s_98 S) c_12_338_12 (Nat.le_of_ble_eq_true rfl) (M_moth S (I := upc I 120 g) (show TH (upc I 120 g) cb ce from hT)) (fun x1 m1 hq => ?_)
    obtain ⟨rfl, rfl⟩ := hq
    refine p_aload_n k167_102 rfl ?_
    refine p_getRv k167_103 (s_98 S) f_12_44_12 (r_98_11 S) ?_
    refine p_iload_n k167_106 rfl ?_
    refine p_ialdN k167_107 (s_107 S) (by omega) (by decide) (show upc I 120 g 107 (a) = I 107 (a) from rfl) ?_
    refine p_imul k167_108 ?_
    refine p_iconst (v := nI 4) k167_109 (by decide) ?_
    refine p_idiv k167_110 (by decide) ?_
    refine p_isub k167_111 ?_
    refine p_cV2i k167_112 (s_98 S) c_12_332_12 rfl rfl (Nat.le_of_ble_eq_true rfl) (M_most S _ _) (fun x1 m1 hq => ?_)
    obtain ⟨rfl, rfl⟩ := hq
    refine p_ireturn k167_115 rt_167 ?_
    exact ⟨rfl, g, rfl⟩
  · skip
    refine p_tswI (tgt := 149) k167_25 (by decide) (by decide) (by decide) rfl (by decide) ?_
    refine p_iload_n k167_149 rfl ?_
    refine p_aload_n k167_150 rfl ?_
    refine p_getRv k167_151 (s_98 S) f_12_32_12 (r_98_7 S) ?_
    refine p_iload_n k167_154 rfl ?_
    refine p_ialdN k167_155 (s_103 S) (by omega) (by decide) (show upc I 120 g 103 (a) = I 103 (a) from rfl) ?_
    refine p_iadd k167_156 ?_
    refine p_ireturn k167_157 rt_167 ?_
    exact ⟨rfl, g, rfl⟩
  · skip
    refine p_tswI (tgt := 80) k167_25 (by decide) (by decide) (by decide) rfl (by decide) ?_
    refine p_aload_n k167_80 rfl ?_
    refine p_iload_n k167_81 rfl ?_
    refine p_iload_n k167_82 rfl ?_
    refine p_cV2i k167_83 (s_98 S) c_12_335_12 rfl rfl (Nat.le_of_ble_eq_true rfl) (M_apart S (I := upc I 120 g) (a := a) (k := hh) ha hh6) (fun x1 m1 hq => ?_)
    obtain ⟨rfl, rfl⟩ := hq
    refine p_if_le (tgt := 93) k167_86 (by decide) (fun c86 => ?_) (fun c86 => ?_)
    · skip
      refine p_iload_n k167_93 rfl ?_
      refine p_ireturn k167_94 rt_167 ?_
      exact ⟨by show _ = if 0 < apartI I a hh then nI 0 else _; first | rw [if_pos (by have z : ¬ apartI I a hh ≤ 0 := c86; rw [i_lt]; rw [i_le] at z; omega)] | rw [if_neg (by have z : apartI I a hh ≤ 0 := c86; rw [i_lt]; rw [i_le] at z; omega)], g, rfl⟩
    · skip
      refine p_iconst (v := nI 0) k167_89 (by decide) ?_
      refine p_goto (tgt := 94) k167_90 (by decide) ?_
      refine p_ireturn k167_94 rt_167 ?_
      exact ⟨by show _ = if 0 < apartI I a hh then nI 0 else _; first | rw [if_pos (by have z : ¬ apartI I a hh ≤ 0 := c86; rw [i_lt]; rw [i_le] at z; omega)] | rw [if_neg (by have z : apartI I a hh ≤ 0 := c86; rw [i_lt]; rw [i_le] at z; omega)], g, rfl⟩
  · skip
    refine p_tswI (tgt := 116) k167_25 (by decide) (by decide) (by decide) rfl (by decide) ?_
    refine p_aload_n k167_116 rfl ?_
    refine p_iconst (v := nI 0) k167_117 (by decide) ?_
    refine p_aload_n k167_118 rfl ?_
    refine p_iconst (v := nI 0) k167_119 (by decide) ?_
    refine p_iload_n k167_120 rfl ?_
    refine p_aload_n k167_121 rfl ?_
    refine p_cV0i k167_122 (s_98 S) c_12_338_12 (Nat.le_of_ble_eq_true rfl) (M_moth S (I := upc I 120 g) (show TH (upc I 120 g) cb ce from hT)) (fun x1 m1 hq => ?_)
    obtain ⟨rfl, rfl⟩ := hq
    refine p_aload_n k167_125 rfl ?_
    refine p_getRv k167_126 (s_98 S) f_12_44_12 (r_98_11 S) ?_
    refine p_iload_n k167_129 rfl ?_
    refine p_ialdN k167_130 (s_107 S) (by omega) (by decide) (show upc I 120 g 107 (a) = I 107 (a) from rfl) ?_
    refine p_imul k167_131 ?_
    refine p_iconst (v := nI 4) k167_132 (by decide) ?_
    refine p_idiv k167_133 (by decide) ?_
    refine p_isub k167_134 ?_
    refine p_cV2i k167_135 (s_98 S) c_12_332_12 rfl rfl (Nat.le_of_ble_eq_true rfl) (M_most S _ _) (fun x1 m1 hq => ?_)
    obtain ⟨rfl, rfl⟩ := hq
    refine p_aload_n k167_138 rfl ?_
    refine p_getRv k167_139 (s_98 S) f_12_32_12 (r_98_7 S) ?_
    refine p_iload_n k167_142 rfl ?_
    refine p_ialdN k167_143 (s_103 S) (by omega) (by decide) (show upc I 120 g 103 (a) = I 103 (a) from rfl) ?_
    refine p_isub k167_144 ?_
    refine p_cV2i k167_145 (s_98 S) c_12_332_12 rfl rfl (Nat.le_of_ble_eq_true rfl) (M_most S _ _) (fun x1 m1 hq => ?_)
    obtain ⟨rfl, rfl⟩ := hq
    refine p_ireturn k167_148 rt_167 ?_
    exact ⟨rfl, g, rfl⟩
  · skip
    refine p_tswI (tgt := 158) k167_25 (by decide) (by decide) (by decide) rfl (by decide) ?_
    refine p_iload_n k167_158 rfl ?_
    refine p_aload_n k167_159 rfl ?_
    refine p_getRv k167_160 (s_98 S) f_12_32_12 (r_98_7 S) ?_
    refine p_iload_n k167_163 rfl ?_
    refine p_ialdN k167_164 (s_103 S) (by omega) (by decide) (show upc I 120 g 103 (a) = I 103 (a) from rfl) ?_
    refine p_iadd k167_165 ?_
    refine p_aload_n k167_166 rfl ?_
    refine p_getRv k167_167 (s_98 S) f_12_47_12 (r_98_12 S) ?_
    refine p_iconst (v := nI 4) k167_170 (by decide) ?_
    refine p_iload_n k167_171 rfl ?_
    refine p_imulN k167_172 ?_
    refine p_aload_n k167_173 rfl ?_
    refine p_getIv k167_174 (s_98 S) f_12_16_12 (show upc I 120 g 98 2 = nI dd from hdd) ?_
    refine p_iconst (v := nI 4) k167_177 (by decide) ?_
    refine p_iremN (by omega) (by omega) (by omega) k167_178 ?_
    refine p_iaddN k167_179 ?_
    refine p_ialdN k167_180 (s_108 S) (by omega) (by decide) (show upc I 120 g 108 (4 * a + dd % 4) = I 108 (4 * a + dd % 4) from rfl) ?_
    refine p_iadd k167_181 ?_
    refine p_ireturn k167_182 rt_167 ?_
    exact ⟨rfl, g, rfl⟩
  · skip
    refine p_tswO (tgt := 183) k167_25 (by omega) (by omega) (by decide) ?_
    refine p_iload_n k167_183 rfl ?_
    refine p_ireturn k167_184 rt_167 ?_
    exact ⟨by unfold deedF; split <;> first | rfl | omega, g, rfl⟩

/-- what holds of the reference between calls, as far as deeds ask -/
def MI (I : Nat → Nat → Int32) (nh na dd cb ce : Nat) : Prop := (I 98 0 = nI nh) ∧ (nh ≤ 6) ∧ (I 98 1 = nI na) ∧ (na ≤ 6) ∧ (I 98 2 = nI dd) ∧ (dd < 20000) ∧ (TH I cb ce) ∧ (WF I cb ce) ∧ (∀ k, k < nh → I 101 k = -1 ∨ ∃ a, a < na ∧ I 101 k = nI a) ∧ (∀ a, a < na → ∃ k, k < 7 ∧ I 102 a = nI k)
theorem MI.nh {I : Nat → Nat → Int32} {nh na dd cb ce : Nat} (M : MI I nh na dd cb ce) : I 98 0 = nI nh := M.1
theorem MI.nh6 {I : Nat → Nat → Int32} {nh na dd cb ce : Nat} (M : MI I nh na dd cb ce) : nh ≤ 6 := M.2.1
theorem MI.na {I : Nat → Nat → Int32} {nh na dd cb ce : Nat} (M : MI I nh na dd cb ce) : I 98 1 = nI na := M.2.2.1
theorem MI.na6 {I : Nat → Nat → Int32} {nh na dd cb ce : Nat} (M : MI I nh na dd cb ce) : na ≤ 6 := M.2.2.2.1
theorem MI.dd {I : Nat → Nat → Int32} {nh na dd cb ce : Nat} (M : MI I nh na dd cb ce) : I 98 2 = nI dd := M.2.2.2.2.1
theorem MI.dd5 {I : Nat → Nat → Int32} {nh na dd cb ce : Nat} (M : MI I nh na dd cb ce) : dd < 20000 := M.2.2.2.2.2.1
theorem MI.th {I : Nat → Nat → Int32} {nh na dd cb ce : Nat} (M : MI I nh na dd cb ce) : TH I cb ce := M.2.2.2.2.2.2.1
theorem MI.wf {I : Nat → Nat → Int32} {nh na dd cb ce : Nat} (M : MI I nh na dd cb ce) : WF I cb ce := M.2.2.2.2.2.2.2.1
theorem MI.worn {I : Nat → Nat → Int32} {nh na dd cb ce : Nat} (M : MI I nh na dd cb ce) : ∀ k, k < nh → I 101 k = -1 ∨ ∃ a, a < na ∧ I 101 k = nI a := M.2.2.2.2.2.2.2.2.1
theorem MI.kind {I : Nat → Nat → Int32} {nh na dd cb ce : Nat} (M : MI I nh na dd cb ce) : ∀ a, a < na → ∃ k, k < 7 ∧ I 102 a = nI k := M.2.2.2.2.2.2.2.2.2
theorem MI.up {I : Nat → Nat → Int32} {nh na dd cb ce : Nat} (M : MI I nh na dd cb ce) (g : Nat → Int32) : MI (upc I 120 g) nh na dd cb ce := M
/-- what hat a does on head hh -/
def deedM (I : Nat → Nat → Int32) (cb ce a hh : Nat) : Int32 := deedF I cb ce a hh (I 98 2).toNatClampNeg (I 102 a).toNatClampNeg
theorem deedM_up {I : Nat → Nat → Int32} {cb ce a hh : Nat} {g : Nat → Int32} : deedM (upc I 120 g) cb ce a hh = deedM I cb ce a hh := rfl
theorem M_deed2 {d : Nat} {I : Nat → Nat → Int32} {J : Nat → Nat → Int64} {K : Nat → Nat → Option Nat} {h : List xSh} (S : St K h) {nh na dd cb ce a hh : Nat} (M : MI I nh na dd cb ce) (g : Nat → Int32) (ha : a < na) (hk : hh < nh) : EvP (d + 3) 167 0 [(0, .ref 98), (1, .int (nI a)), (2, .int (nI hh))] [] (upc I 120 g, J, K, h) (QI (fun x t => x = deedM I cb ce a hh ∧ ∃ g, t = (upc I 120 g, J, K, h))) := by
  have hn6 := M.nh6
  have ha6 := M.na6
  obtain ⟨kk, hkk, hke⟩ := M.kind a ha
  refine EvP.mono (M_deed S (I := upc I 120 g) (M.up g).th (by omega) (by omega) (M.up g).wf (M.up g).dd (by have := M.dd5; omega) hke (by omega)) (fun r t hq => ?_)
  obtain ⟨x, rfl, rfl, g', rfl⟩ := hq
  refine ⟨_, rfl, ?_, g', by rw [upc_uu]⟩
  have e : deedM I cb ce a hh = deedF I cb ce a hh dd kk := by
    unfold deedM
    rw [M.dd, hke, nI_clamp (by have := M.dd5; omega), nI_clamp (by omega)]
  rw [e]
  rfl
def fTod (I : Nat → Nat → Int32) (cb ce : Nat) (t : Int32) (k : Nat) (s : Int32) : Int32 := s + (if I 101 k < 0 then nI 0 else if t < 0 ∨ I 106 (I 101 k).toNatClampNeg = t then deedM I cb ce (I 101 k).toNatClampNeg k else nI 0)
/-- what is done today for trade t (all: a t below 0) -/
def todM (I : Nat → Nat → Int32) (cb ce nh : Nat) (t : Int32) : Int32 := fld (fTod I cb ce t) nh 0 (nI 0)
theorem todM_up {I : Nat → Nat → Int32} {cb ce nh : Nat} {t : Int32} {g : Nat → Int32} : todM (upc I 120 g) cb ce nh t = todM I cb ce nh t := rfl
set_option maxRecDepth 100000 in
set_option maxHeartbeats 4000000 in
theorem M_today {d : Nat} {I : Nat → Nat → Int32} {J : Nat → Nat → Int64} {K : Nat → Nat → Option Nat} {h : List xSh} (S : St K h) {nh na dd cb ce : Nat} (M : MI I nh na dd cb ce) (g : Nat → Int32) (q : Int32) : EvP (d + 4) 171 0 [(0, .ref (98)), (1, .int (q))] [] (upc I 120 g, J, K, h) (QI (fun x t => x = todM I cb ce nh q ∧ ∃ g, t = (upc I 120 g, J, K, h))) := by
  have hnh6 := M.nh6
  have hna6 := M.na6
  refine p_iconst (v := nI 0) k171_0 (by decide) ?_
  refine p_istore_n (ls' := [(0, _), (1, _), (2, _)]) k171_1 rfl ?_
  refine p_iconst (v := nI 0) k171_2 (by decide) ?_
  refine p_istore_n (ls' := [(0, _), (1, _), (2, _), (3, _)]) k171_3 rfl ?_
  have L : ∀ (j : Nat) (k : Nat) (s : Int32) (g : Nat → Int32), k + j = nh → EvP (d + 4) 171 4 [(0, .ref (98)), (1, .int (q)), (2, .int (s)), (3, .int (nI (k)))] [] (upc I 120 g, J, K, h) (QI (fun x t => x = fld (fTod I cb ce q) j k s ∧ ∃ g, t = (upc I 120 g, J, K, h))) := by
    intro j
    induction j with
    | zero =>
      intro k s g hk
      refine p_iload_n k171_4 rfl ?_
      refine p_aload_n k171_5 rfl ?_
      refine p_getIv k171_6 (s_98 S) f_12_7_12 M.nh ?_
      refine p_icmp_geN (tgt := 64) k171_9 (by decide) (by omega) (by omega) (fun _ => ?_) (fun c => False.elim (by omega))
      refine p_iload_n k171_64 rfl ?_
      refine p_ireturn k171_65 rt_171 ?_
      exact ⟨rfl, g, rfl⟩
    | succ j ih =>
      intro k s g hk
      rcases M.worn k (by omega) with hkw | ⟨a, ha, hka⟩
      · skip
        have hw0 : I 101 k < 0 := by rw [hkw]; decide
        refine p_iload_n k171_4 rfl ?_
        refine p_aload_n k171_5 rfl ?_
        refine p_getIv k171_6 (s_98 S) f_12_7_12 M.nh ?_
        refine p_icmp_geN (tgt := 64) k171_9 (by decide) (by omega) (by omega) (fun c => False.elim (by omega)) (fun _ => ?_)
        refine p_iload_n k171_12 rfl ?_
        refine p_aload_n k171_13 rfl ?_
        refine p_getRv k171_14 (s_98 S) f_12_26_12 (r_98_5 S) ?_
        refine p_iload_n k171_17 rfl ?_
        refine p_ialdN k171_18 (s_101 S) (by omega) (by decide) (show upc I 120 g 101 k = I 101 k from rfl) ?_
        refine p_if_lt (tgt := 55) k171_19 (by decide) (fun _ => ?_) (fun c => False.elim (by exact c hw0))
        refine p_iconst (v := nI 0) k171_55 (by decide) ?_
        refine p_iadd k171_56 ?_
        refine p_istore_n (ls' := [(0, _), (1, _), (2, _), (3, _)]) k171_57 rfl ?_
        refine p_iincN (ls1 := [(0, _), (1, _), (2, _), (3, _)]) k171_58 rfl rfl ?_
        refine p_goto (tgt := 4) k171_61 (by decide) ?_
        refine EvP.mono (ih (k + 1) _ _ (by omega)) (fun r t hq => ?_)
        obtain ⟨x, rfl, rfl, g9, rfl⟩ := hq
        exact ⟨_, rfl, by show fld (fTod I cb ce q) j (k + 1) _ = fld (fTod I cb ce q) j (k + 1) _; congr 1; unfold fTod; first | rw [if_pos hw0] | rw [if_neg hw0, if_pos (Or.inl c23), hcl] | rw [if_neg hw0, if_pos (Or.inr (by rw [hcl]; exact c38)), hcl] | rw [if_neg hw0, if_neg (fun z => z.elim c23 (fun z => c38 (by rw [hcl] at z; exact z)))], g9, rfl⟩
      · skip
        have hcl : (I 101 k).toNatClampNeg = a := by rw [hka, nI_clamp (by omega)]
        have hw0 : ¬ I 101 k < 0 := by rw [hka, i_lt, nI_t (by omega)]; show ¬ (a : Int) < 0; omega
        refine p_iload_n k171_4 rfl ?_
        refine p_aload_n k171_5 rfl ?_
        refine p_getIv k171_6 (s_98 S) f_12_7_12 M.nh ?_
        refine p_icmp_geN (tgt := 64) k171_9 (by decide) (by omega) (by omega) (fun c => False.elim (by omega)) (fun _ => ?_)
        refine p_iload_n k171_12 rfl ?_
        refine p_aload_n k171_13 rfl ?_
        refine p_getRv k171_14 (s_98 S) f_12_26_12 (r_98_5 S) ?_
        refine p_iload_n k171_17 rfl ?_
        refine p_ialdN k171_18 (s_101 S) (by omega) (by decide) (show upc I 120 g 101 k = nI a from hka) ?_
        refine p_if_ltN (tgt := 55) k171_19 (by decide) (by omega) ?_
        refine p_iload_n k171_22 rfl ?_
        refine p_if_lt (tgt := 41) k171_23 (by decide) (fun c23 => ?_) (fun c23 => ?_)
        · skip
          refine p_aload_n k171_41 rfl ?_
          refine p_aload_n k171_42 rfl ?_
          refine p_getRv k171_43 (s_98 S) f_12_26_12 (r_98_5 S) ?_
          refine p_iload_n k171_46 rfl ?_
          refine p_ialdN k171_47 (s_101 S) (by omega) (by decide) (show upc I 120 g 101 k = nI a from hka) ?_
          refine p_iload_n k171_48 rfl ?_
          refine p_cV2i k171_49 (s_98 S) c_12_341_12 rfl rfl (Nat.le_of_ble_eq_true rfl) (M_deed2 S M g (a := a) (hh := k) (by omega) (by omega)) (fun x1 m1 hq => ?_)
          obtain ⟨rfl, g, rfl⟩ := hq
          refine p_goto (tgt := 56) k171_52 (by decide) ?_
          refine p_iadd k171_56 ?_
          refine p_istore_n (ls' := [(0, _), (1, _), (2, _), (3, _)]) k171_57 rfl ?_
          refine p_iincN (ls1 := [(0, _), (1, _), (2, _), (3, _)]) k171_58 rfl rfl ?_
          refine p_goto (tgt := 4) k171_61 (by decide) ?_
          refine EvP.mono (ih (k + 1) _ _ (by omega)) (fun r t hq => ?_)
          obtain ⟨x, rfl, rfl, g9, rfl⟩ := hq
          exact ⟨_, rfl, by show fld (fTod I cb ce q) j (k + 1) _ = fld (fTod I cb ce q) j (k + 1) _; congr 1; unfold fTod; first | rw [if_pos hw0] | rw [if_neg hw0, if_pos (Or.inl c23), hcl] | rw [if_neg hw0, if_pos (Or.inr (by rw [hcl]; exact c38)), hcl] | rw [if_neg hw0, if_neg (fun z => z.elim c23 (fun z => c38 (by rw [hcl] at z; exact z)))], g9, rfl⟩
        · skip
          refine p_aload_n k171_26 rfl ?_
          refine p_getRv k171_27 (s_98 S) f_12_41_12 (r_98_10 S) ?_
          refine p_aload_n k171_30 rfl ?_
          refine p_getRv k171_31 (s_98 S) f_12_26_12 (r_98_5 S) ?_
          refine p_iload_n k171_34 rfl ?_
          refine p_ialdN k171_35 (s_101 S) (by omega) (by decide) (show upc I 120 g 101 k = nI a from hka) ?_
          refine p_ialdN k171_36 (s_106 S) (by omega) (by decide) (show upc I 120 g 106 a = I 106 a from rfl) ?_
          refine p_iload_n k171_37 rfl ?_
          refine p_icmp_ne (tgt := 55) k171_38 (by decide) (fun c38 => ?_) (fun c38 => ?_)
          · skip
            refine p_iconst (v := nI 0) k171_55 (by decide) ?_
            refine p_iadd k171_56 ?_
            refine p_istore_n (ls' := [(0, _), (1, _), (2, _), (3, _)]) k171_57 rfl ?_
            refine p_iincN (ls1 := [(0, _), (1, _), (2, _), (3, _)]) k171_58 rfl rfl ?_
            refine p_goto (tgt := 4) k171_61 (by decide) ?_
            refine EvP.mono (ih (k + 1) _ _ (by omega)) (fun r t hq => ?_)
            obtain ⟨x, rfl, rfl, g9, rfl⟩ := hq
            exact ⟨_, rfl, by show fld (fTod I cb ce q) j (k + 1) _ = fld (fTod I cb ce q) j (k + 1) _; congr 1; unfold fTod; first | rw [if_pos hw0] | rw [if_neg hw0, if_pos (Or.inl c23), hcl] | rw [if_neg hw0, if_pos (Or.inr (by rw [hcl]; exact c38)), hcl] | rw [if_neg hw0, if_neg (fun z => z.elim c23 (fun z => c38 (by rw [hcl] at z; exact z)))], g9, rfl⟩
          · skip
            refine p_aload_n k171_41 rfl ?_
            refine p_aload_n k171_42 rfl ?_
            refine p_getRv k171_43 (s_98 S) f_12_26_12 (r_98_5 S) ?_
            refine p_iload_n k171_46 rfl ?_
            refine p_ialdN k171_47 (s_101 S) (by omega) (by decide) (show upc I 120 g 101 k = nI a from hka) ?_
            refine p_iload_n k171_48 rfl ?_
            refine p_cV2i k171_49 (s_98 S) c_12_341_12 rfl rfl (Nat.le_of_ble_eq_true rfl) (M_deed2 S M g (a := a) (hh := k) (by omega) (by omega)) (fun x1 m1 hq => ?_)
            obtain ⟨rfl, g, rfl⟩ := hq
            refine p_goto (tgt := 56) k171_52 (by decide) ?_
            refine p_iadd k171_56 ?_
            refine p_istore_n (ls' := [(0, _), (1, _), (2, _), (3, _)]) k171_57 rfl ?_
            refine p_iincN (ls1 := [(0, _), (1, _), (2, _), (3, _)]) k171_58 rfl rfl ?_
            refine p_goto (tgt := 4) k171_61 (by decide) ?_
            refine EvP.mono (ih (k + 1) _ _ (by omega)) (fun r t hq => ?_)
            obtain ⟨x, rfl, rfl, g9, rfl⟩ := hq
            exact ⟨_, rfl, by show fld (fTod I cb ce q) j (k + 1) _ = fld (fTod I cb ce q) j (k + 1) _; congr 1; unfold fTod; first | rw [if_pos hw0] | rw [if_neg hw0, if_pos (Or.inl c23), hcl] | rw [if_neg hw0, if_pos (Or.inr (by rw [hcl]; exact c38)), hcl] | rw [if_neg hw0, if_neg (fun z => z.elim c23 (fun z => c38 (by rw [hcl] at z; exact z)))], g9, rfl⟩
  exact L nh 0 (nI 0) g (by omega)

