/-! the class: item, shift, judge -/
theorem TPR.item {I R : Nat → Nat → Int32} {J : Nat → Nat → Int64} {JT : Nat → Int64} (H : TPR I J R JT) {t i : Nat} (ht : t < 6) (hi : i < 60) (v : Int64) : TPR I (upc J (52 + 9 * t) (upc (J (52 + 9 * t)) i v)) R (upc JT (60 * t + i) v) := by
  intro u hu
  obtain ⟨h1, h2, h3⟩ := H u hu
  refine ⟨h1, h2, fun j hj => ?_⟩
  by_cases e : u = t
  · subst e
    rw [upc_eq]
    by_cases ej : j = i
    · subst ej; rw [upc_eq, upc_eq]
    · rw [upc_ne _ _ ej, upc_ne _ _ (by omega)]; exact h3 j hj
  · rw [upc_ne _ _ (by omega), upc_ne _ _ (by omega)]; exact h3 j hj
theorem TFR.item {I : Nat → Nat → Int32} {J : Nat → Nat → Int64} {t : Nat} (ht : t < 6) {g : Nat → Int64} : TFR I I J (upc J (52 + 9 * t) g) := ⟨fun _ _ => rfl, fun c hc => upc_ne _ _ (hc t ht)⟩
set_option maxRecDepth 100000 in
set_option maxHeartbeats 4000000 in
theorem C_item {d : Nat} {I : Nat → Nat → Int32} {J : Nat → Nat → Int64} {K : Nat → Nat → Option Nat} {h : List xSh} (S : St K h) {R0 : Nat → Nat → Int32} {JR : Nat → Nat → Int64} (H : TPR I J R0 (JR 151)) (HI : TPI R0) (v w : Int32) (z : Int64) : EvP (d + 2) 98 0 [(0, .ref (0)), (1, .int (v)), (2, .int (w)), (3, .long (z))] [] (I, J, K, h) (QI (fun x m => x = (itemM R0 JR v w z).1 ∧ ∃ J2, m = (I, J2, K, h) ∧ TPR I J2 R0 ((itemM R0 JR v w z).2 151) ∧ TFR I I J J2)) := by
  refine p_iload_n k98_0 rfl ?_
  refine p_cS1i k98_1 c_11_290 rfl (Nat.le_of_ble_eq_true rfl) (C_isTape S (v)) (fun x1 m1 hq => ?_)
  obtain ⟨rfl, rfl⟩ := hq
  refine p_if_neB (tgt := 9) k98_4 (by decide) (fun cq4 => ?_) (fun cq4 => ?_)
  · skip
    obtain ⟨t, ht, rfl⟩ := ixB_of (n := 6) (by omega) cq4
    have hct := nI_clamp (n := t) (by omega)
    have hTt := TPS_t S ht
    obtain ⟨n, hn60, hne⟩ := (HI.1 t ht).2
    obtain ⟨q0, q1, q2⟩ := H t ht
    refine p_aload_n k98_9 rfl ?_
    refine p_getRv k98_10 (s_0 S) f_11_56_11 (r_0_9 S) ?_
    refine p_iload_n k98_13 rfl ?_
    refine p_aaldNj k98_14 (s_38 S) xaty_5 (by omega) (by decide) hTt.2.2.2 ?_
    refine p_astore (ls' := [(0, _), (1, _), (2, _), (3, _), (5, _)]) k98_15 rfl ?_
    refine p_aload k98_17 rfl ?_
    refine p_getIv k98_19 hTt.1 f_11_293_5 q0 ?_
    refine p_iconst (v := (-1)) k98_22 (by decide) ?_
    refine p_icmp_ne (tgt := 29) k98_23 (by decide) (fun cq23 => ?_) (fun cq23 => ?_)
    · skip
      obtain ⟨s0, hs5, hs0⟩ := (HI.1 t ht).1.resolve_left cq23
      refine p_aload k98_29 rfl ?_
      refine p_iload_n k98_31 rfl ?_
      refine p_iconst (v := nI 1) k98_32 (by decide) ?_
      refine p_cV2i k98_33 hTt.1 c_11_296_5 rfl rfl (Nat.le_of_ble_eq_true rfl) (C_spans S hTt.1 (q1.trans hne) hn60 w (nI 1)) (fun x1 m1 hq => ?_)
      obtain ⟨rfl, rfl⟩ := hq
      refine p_if_neB (tgt := 42) k98_36 (by decide) (fun cq36 => ?_) (fun cq36 => ?_)
      · skip
        have hix := cq36
        rw [sp_1] at hix
        obtain ⟨i, hi, rfl⟩ := ixB_of (by omega) hix
        have hci := nI_clamp (n := i) (by omega)
        refine p_aload k98_42 rfl ?_
        refine p_getRv k98_44 hTt.1 f_11_299_5 hTt.2.2.1 ?_
        refine p_iload_n k98_47 rfl ?_
        refine p_aload k98_48 rfl ?_
        refine p_lload_n k98_50 rfl ?_
        refine p_cV1Ll k98_51 hTt.1 c_11_332_5 (Nat.le_of_ble_eq_true rfl) rfl (Nat.le_of_ble_eq_true rfl) (C_asItem S hTt.1 (q0.trans hs0) hs5 z) (fun x1 m1 hq => ?_)
        obtain ⟨rfl, rfl⟩ := hq
        refine p_lastN k98_54 hTt.2.1 (by omega) (by decide) ?_
        refine p_iconst (v := nI 1) k98_55 (by decide) ?_
        refine p_ireturn k98_56 rt_98 ?_
        rw [show itemM R0 JR (nI t) (nI i) z = (nI 1, upc JR 151 (upc (JR 151) (60 * t + i) (narM (nI s0) z))) from by unfold itemM; rw [if_neg (by rw [cq4]; decide), hct, if_neg (fun y => cq23 ((srt_lt HI ht).1 (i_lt0 y))), hne, inB_ix hn60, if_neg (by rw [hix]; decide), hci, hs0]]
        exact ⟨rfl, _, rfl, H.item ht (by omega) _, TFR.item ht⟩
      · skip
        refine p_bipush (v := (-13)) k98_39 (by decide) ?_
        refine p_ireturn k98_41 rt_98 ?_
        rw [show itemM R0 JR (nI t) w z = (-13, JR) from by unfold itemM; rw [if_neg (by rw [cq4]; decide), hct, if_neg (fun y => cq23 ((srt_lt HI ht).1 (i_lt0 y))), hne, inB_ix hn60, if_pos (by rw [← sp_1]; exact cq36)]]
        exact ⟨rfl, _, rfl, H, TFR.refl _ _⟩
    · skip
      refine p_bipush (v := (-11)) k98_26 (by decide) ?_
      refine p_ireturn k98_28 rt_98 ?_
      rw [show itemM R0 JR (nI t) w z = (-11, JR) from by unfold itemM; rw [if_neg (by rw [cq4]; decide), hct, if_pos (fun y => i_ge0 y ((srt_lt HI ht).2 cq23))]]
      exact ⟨rfl, _, rfl, H, TFR.refl _ _⟩
  · skip
    refine p_iconst (v := (-1)) k98_7 (by decide) ?_
    refine p_ireturn k98_8 rt_98 ?_
    rw [show itemM R0 JR v w z = (-1, JR) from by unfold itemM; rw [if_pos cq4]]
    exact ⟨rfl, _, rfl, H, TFR.refl _ _⟩

theorem TPR.shift {I R : Nat → Nat → Int32} {J : Nat → Nat → Int64} {JT : Nat → Int64} (H : TPR I J R JT) {t o i p q : Nat} (ht : t < 6) (ho : o < 6) (hi : i + q ≤ 60) (hp : p + q ≤ 60) : TPR I (upc J (52 + 9 * o) (va_cpy (J (52 + 9 * t)) (J (52 + 9 * o)) i p q)) R (shJ JT (60 * t + i) (60 * o + p) q) := by
  intro u hu
  obtain ⟨h1, h2, h3⟩ := H u hu
  refine ⟨h1, h2, fun j hj => ?_⟩
  by_cases e : u = o
  · subst e
    rw [upc_eq]
    unfold va_cpy shJ
    by_cases hc : p ≤ j ∧ j < p + q
    · rw [if_pos hc, if_pos (by omega), (H t ht).2.2 _ (by omega)]
      congr 1
      omega
    · rw [if_neg hc, if_neg (by omega)]; exact h3 j hj
  · rw [upc_ne _ _ (by omega)]
    unfold shJ
    rw [if_neg (by omega)]
    exact h3 j hj
theorem sp_of {w n : Int32} {m : Nat} (hm : m ≤ 60) (h : spB w n m = true) : ∃ i q, w = nI i ∧ n = nI q ∧ i + q ≤ m := by
  have h2 := of_decide_eq_true h
  refine ⟨w.toInt.toNat, n.toInt.toNat, ?_, ?_, by omega⟩
  · rw [i_eq, nI_t (by omega)]; omega
  · rw [i_eq, nI_t (by omega)]; omega
theorem sh_iff {w w2 n : Int32} {m m2 : Nat} (hm : m ≤ 60) (hm2 : m2 ≤ 60) : (n < 0 ∨ w < 0 ∨ w2 < 0 ∨ nI m - n < w ∨ ¬ w2 ≤ nI m2 - n) ↔ (spB w n m = false ∨ spB w2 n m2 = false) := by
  unfold spB
  rw [decide_eq_false_iff_not, decide_eq_false_iff_not]
  have h0 : (0 : Int32).toInt = 0 := rfl
  have hb := Int32.toInt_lt n
  rw [i_lt, i_lt, i_lt, i_lt, i_le, h0, Int32.toInt_sub, Int32.toInt_sub, nI_t (by omega), nI_t (by omega)]
  by_cases hn : n.toInt < 0
  · exact ⟨fun _ => Or.inl (fun z => by omega), fun _ => Or.inl hn⟩
  · rw [Int.bmod_eq_of_le (by omega) (by omega), Int.bmod_eq_of_le (by omega) (by omega)]
    omega
set_option maxRecDepth 100000 in
set_option maxHeartbeats 4000000 in
theorem C_shift {d : Nat} {I : Nat → Nat → Int32} {J : Nat → Nat → Int64} {K : Nat → Nat → Option Nat} {h : List xSh} (S : St K h) {R0 : Nat → Nat → Int32} {JR : Nat → Nat → Int64} (H : TPR I J R0 (JR 151)) (HI : TPI R0) (v w v2 w2 n : Int32) : EvP (d + 2) 100 0 [(0, .ref (0)), (1, .int (v)), (2, .int (w)), (3, .int (v2)), (4, .int (w2)), (5, .int (n))] [] (I, J, K, h) (QI (fun x m => x = (shfM R0 JR v w v2 w2 n).1 ∧ ∃ J2, m = (I, J2, K, h) ∧ TPR I J2 R0 ((shfM R0 JR v w v2 w2 n).2 151) ∧ TFR I I J J2)) := by
  refine p_iload_n k100_0 rfl ?_
  refine p_cS1i k100_1 c_11_290 rfl (Nat.le_of_ble_eq_true rfl) (C_isTape S (v)) (fun x1 m1 hq => ?_)
  obtain ⟨rfl, rfl⟩ := hq
  refine p_if_eqB (tgt := 14) k100_4 (by decide) (fun cq4 => ?_) (fun cq4 => ?_)
  · skip
    refine p_iconst (v := (-1)) k100_14 (by decide) ?_
    refine p_ireturn k100_15 rt_100 ?_
    rw [show shfM R0 JR v w v2 w2 n = (-1, JR) from by unfold shfM; rw [if_pos (by first | exact Or.inl cq4 | exact Or.inr cq11)]]
    exact ⟨rfl, _, rfl, H, TFR.refl _ _⟩
  · skip
    refine p_iload_n k100_7 rfl ?_
    refine p_cS1i k100_8 c_11_290 rfl (Nat.le_of_ble_eq_true rfl) (C_isTape S (v2)) (fun x1 m1 hq => ?_)
    obtain ⟨rfl, rfl⟩ := hq
    refine p_if_neB (tgt := 16) k100_11 (by decide) (fun cq11 => ?_) (fun cq11 => ?_)
    · skip
      obtain ⟨t, ht, rfl⟩ := ixB_of (n := 6) (by omega) cq4
      have hct := nI_clamp (n := t) (by omega)
      have hTt := TPS_t S ht
      obtain ⟨o, ho, rfl⟩ := ixB_of (n := 6) (by omega) cq11
      have hco := nI_clamp (n := o) (by omega)
      have hTo := TPS_t S ho
      obtain ⟨n1, hn1, hne1⟩ := (HI.1 t ht).2
      obtain ⟨n2, hn2, hne2⟩ := (HI.1 o ho).2
      obtain ⟨q0, q1, q2⟩ := H t ht
      obtain ⟨r0, r1, r2⟩ := H o ho
      have h1 : ¬ (ixB (nI t) 6 = false ∨ ixB (nI o) 6 = false) := by rw [cq4, cq11]; decide
      have hlt := srt_lt HI ht
      have hlo : ¬ 0 ≤ R0 149 o ↔ R0 149 o = -1 := ⟨fun z => (srt_lt HI ho).1 (i_lt0 z), fun z y => i_ge0 y ((srt_lt HI ho).2 z)⟩
      refine p_aload_n k100_16 rfl ?_
      refine p_getRv k100_17 (s_0 S) f_11_56_11 (r_0_9 S) ?_
      refine p_iload_n k100_20 rfl ?_
      refine p_aaldNj k100_21 (s_38 S) xaty_5 (by omega) (by decide) hTt.2.2.2 ?_
      refine p_astore (ls' := [(0, _), (1, _), (2, _), (3, _), (4, _), (5, _), (6, _)]) k100_22 rfl ?_
      refine p_aload_n k100_24 rfl ?_
      refine p_getRv k100_25 (s_0 S) f_11_56_11 (r_0_9 S) ?_
      refine p_iload_n k100_28 rfl ?_
      refine p_aaldNj k100_29 (s_38 S) xaty_5 (by omega) (by decide) hTo.2.2.2 ?_
      refine p_astore (ls' := [(0, _), (1, _), (2, _), (3, _), (4, _), (5, _), (6, _), (7, _)]) k100_30 rfl ?_
      refine p_aload k100_32 rfl ?_
      refine p_getIv k100_34 hTt.1 f_11_293_5 q0 ?_
      refine p_iconst (v := (-1)) k100_37 (by decide) ?_
      refine p_icmp_eq (tgt := 50) k100_38 (by decide) (fun cq38 => ?_) (fun cq38 => ?_)
      · skip
        refine p_bipush (v := (-11)) k100_50 (by decide) ?_
        refine p_ireturn k100_52 rt_100 ?_
        rw [show shfM R0 JR (nI t) w (nI o) w2 n = (-11, JR) from by unfold shfM; rw [if_neg h1, hct, hco, if_pos (by first | exact Or.inl (hlt.2 cq38) | exact Or.inr (hlo.2 cq47))]]
        exact ⟨rfl, _, rfl, H, TFR.refl _ _⟩
      · skip
        refine p_aload k100_41 rfl ?_
        refine p_getIv k100_43 hTo.1 f_11_293_5 r0 ?_
        refine p_iconst (v := (-1)) k100_46 (by decide) ?_
        refine p_icmp_ne (tgt := 53) k100_47 (by decide) (fun cq47 => ?_) (fun cq47 => ?_)
        · skip
          refine p_aload k100_53 rfl ?_
          refine p_getIv k100_55 hTt.1 f_11_293_5 q0 ?_
          refine p_aload k100_58 rfl ?_
          refine p_getIv k100_60 hTo.1 f_11_293_5 r0 ?_
          refine p_icmp_eq (tgt := 69) k100_63 (by decide) (fun cq63 => ?_) (fun cq63 => ?_)
          · skip
            refine p_aload k100_69 rfl ?_
            refine p_iload_n k100_71 rfl ?_
            refine p_iload k100_72 rfl ?_
            refine p_cV2i k100_74 hTt.1 c_11_296_5 rfl rfl (Nat.le_of_ble_eq_true rfl) (C_spans S hTt.1 (q1.trans hne1) hn1 w n) (fun x1 m1 hq => ?_)
            obtain ⟨rfl, rfl⟩ := hq
            refine p_if_eqB (tgt := 92) k100_77 (by decide) (fun cq77 => ?_) (fun cq77 => ?_)
            · skip
              refine p_bipush (v := (-13)) k100_92 (by decide) ?_
              refine p_ireturn k100_94 rt_100 ?_
              rw [show shfM R0 JR (nI t) w (nI o) w2 n = (-13, JR) from by unfold shfM; rw [if_neg h1, hct, hco, if_neg (fun z => z.elim (fun z => cq38 (hlt.1 z)) (fun z => cq47 (hlo.1 z))), if_neg ((fun f => f cq63 : ¬ ¬ _)), hne1, hne2, if_pos ((sh_iff hn1 hn2).2 (by first | exact Or.inl cq77 | exact Or.inr cq89))]]
              exact ⟨rfl, _, rfl, H, TFR.refl _ _⟩
            · skip
              refine p_aload k100_80 rfl ?_
              refine p_iload k100_82 rfl ?_
              refine p_iload k100_84 rfl ?_
              refine p_cV2i k100_86 hTo.1 c_11_296_5 rfl rfl (Nat.le_of_ble_eq_true rfl) (C_spans S hTo.1 (r1.trans hne2) hn2 w2 n) (fun x1 m1 hq => ?_)
              obtain ⟨rfl, rfl⟩ := hq
              refine p_if_neB (tgt := 95) k100_89 (by decide) (fun cq89 => ?_) (fun cq89 => ?_)
              · skip
                have hS9 : shfM R0 JR (nI t) w (nI o) w2 n = (n, upc JR 151 (shJ (JR 151) (60 * t + w.toNatClampNeg) (60 * o + w2.toNatClampNeg) n.toNatClampNeg)) := by unfold shfM; rw [if_neg h1, hct, hco, if_neg (fun z => z.elim (fun z => cq38 (hlt.1 z)) (fun z => cq47 (hlo.1 z))), if_neg ((fun f => f cq63 : ¬ ¬ _)), hne1, hne2, if_neg (fun z => ((sh_iff hn1 hn2).1 z).elim (fun z => by rw [cq77] at z; cases z) (fun z => by rw [cq89] at z; cases z))]
                obtain ⟨i, q, rfl, rfl, hiq⟩ := sp_of hn1 cq77
                obtain ⟨p, qq, rfl, hqq, hpq⟩ := sp_of hn2 cq89
                have e9 : qq = q := nI_inj (by omega) (by omega) hqq.symm
                subst e9
                have hci := nI_clamp (n := i) (by omega)
                have hcp := nI_clamp (n := p) (by omega)
                have hcq := nI_clamp (n := qq) (by omega)
                rw [hci, hcp, hcq] at hS9
                refine p_aload k100_95 rfl ?_
                refine p_getRv k100_97 hTt.1 f_11_299_5 hTt.2.2.1 ?_
                refine p_iload_n k100_100 rfl ?_
                refine p_aload k100_101 rfl ?_
                refine p_getRv k100_103 hTo.1 f_11_299_5 hTo.2.2.1 ?_
                refine p_iload k100_106 rfl ?_
                refine p_iload k100_108 rfl ?_
                refine p_cpyl k100_110 (by decide) (Nat.le_of_ble_eq_true rfl) hTt.2.1 hTo.2.1 (opt_neg (by omega)) (opt_neg (by omega)) (opt_neg (by omega)) (by rw [hci, hcq]; omega) (by rw [hcp, hcq]; omega) ?_
                rw [hci, hcp, hcq]
                refine p_iload k100_113 rfl ?_
                refine p_ireturn k100_115 rt_100 ?_
                rw [hS9]
                exact ⟨rfl, _, rfl, H.shift ht ho (by omega) (by omega), TFR.item ho⟩
              · skip
                refine p_bipush (v := (-13)) k100_92 (by decide) ?_
                refine p_ireturn k100_94 rt_100 ?_
                rw [show shfM R0 JR (nI t) w (nI o) w2 n = (-13, JR) from by unfold shfM; rw [if_neg h1, hct, hco, if_neg (fun z => z.elim (fun z => cq38 (hlt.1 z)) (fun z => cq47 (hlo.1 z))), if_neg ((fun f => f cq63 : ¬ ¬ _)), hne1, hne2, if_pos ((sh_iff hn1 hn2).2 (by first | exact Or.inl cq77 | exact Or.inr cq89))]]
                exact ⟨rfl, _, rfl, H, TFR.refl _ _⟩
          · skip
            refine p_bipush (v := (-12)) k100_66 (by decide) ?_
            refine p_ireturn k100_68 rt_100 ?_
            rw [show shfM R0 JR (nI t) w (nI o) w2 n = (-12, JR) from by unfold shfM; rw [if_neg h1, hct, hco, if_neg (fun z => z.elim (fun z => cq38 (hlt.1 z)) (fun z => cq47 (hlo.1 z))), if_pos cq63]]
            exact ⟨rfl, _, rfl, H, TFR.refl _ _⟩
        · skip
          refine p_bipush (v := (-11)) k100_50 (by decide) ?_
          refine p_ireturn k100_52 rt_100 ?_
          rw [show shfM R0 JR (nI t) w (nI o) w2 n = (-11, JR) from by unfold shfM; rw [if_neg h1, hct, hco, if_pos (by first | exact Or.inl (hlt.2 cq38) | exact Or.inr (hlo.2 cq47))]]
          exact ⟨rfl, _, rfl, H, TFR.refl _ _⟩
    · skip
      refine p_iconst (v := (-1)) k100_14 (by decide) ?_
      refine p_ireturn k100_15 rt_100 ?_
      rw [show shfM R0 JR v w v2 w2 n = (-1, JR) from by unfold shfM; rw [if_pos (by first | exact Or.inl cq4 | exact Or.inr cq11)]]
      exact ⟨rfl, _, rfl, H, TFR.refl _ _⟩

theorem jc {w : Int32} {n k : Nat} {P : Prop} (hn : n ≤ 60) (hk : k < 6) (hP : P → n = 0) : (P ∨ w < 0 ∨ ¬ w ≤ nI n - nI k - nI 1) ↔ spB w (nI (k + 1)) n = false := by
  unfold spB
  rw [decide_eq_false_iff_not, i_lt, i_le, nI_s2 hn (by omega), nI_t (by omega), show (0 : Int32).toInt = 0 from rfl]
  constructor
  · rintro (z | z | z)
    · have := hP z; omega
    · omega
    · omega
  · intro z
    by_cases h1 : w.toInt < 0
    · exact Or.inr (Or.inl h1)
    · exact Or.inr (Or.inr (by omega))
theorem srt0 {R : Nat → Nat → Int32} (HI : TPI R) {t : Nat} (ht : t < 6) : (¬ R 149 t ≤ 0) ↔ ¬ (R 149 t = 0 ∨ R 149 t = -1) := by
  rcases (HI.1 t ht).1 with e | ⟨s, hs, e⟩
  · rw [e]; exact ⟨fun z => absurd (by decide) z, fun z => absurd (Or.inr rfl) z⟩
  · rw [e]
    rcases (show s = 0 ∨ s = 1 ∨ s = 2 ∨ s = 3 ∨ s = 4 by omega) with rfl | rfl | rfl | rfl | rfl <;> decide
set_option maxRecDepth 100000 in
set_option maxHeartbeats 4000000 in
theorem C_judge {d : Nat} {I : Nat → Nat → Int32} {J : Nat → Nat → Int64} {K : Nat → Nat → Option Nat} {h : List xSh} (S : St K h) {R0 : Nat → Nat → Int32} {nh na dd cb ce tw : Nat} (C : CR I K h R0 na tw) (M : MI R0 nh na dd cb ce) (Q : AR R0 nh na dd) {JR : Nat → Nat → Int64} (H : TPR I J R0 (JR 151)) (HI : TPI R0) (v w : Int32) : EvP (d + 2) 90 0 [(0, .ref (0)), (1, .int (v)), (2, .int (w))] [] (I, J, K, h) (QI (fun x t => x = judM R0 JR nh v w ∧ t = (I, J, K, h))) := by
  have hnh6 := M.nh6
  have hna6 := M.na6
  refine p_iload_n k90_0 rfl ?_
  refine p_cS1i k90_1 c_11_290 rfl (Nat.le_of_ble_eq_true rfl) (C_isTape S (v)) (fun x1 m1 hq => ?_)
  obtain ⟨rfl, rfl⟩ := hq
  refine p_if_neB (tgt := 9) k90_4 (by decide) (fun cq4 => ?_) (fun cq4 => ?_)
  · skip
    obtain ⟨t, ht, rfl⟩ := ixB_of (n := 6) (by omega) cq4
    have hct := nI_clamp (n := t) (by omega)
    have hTt := TPS_t S ht
    obtain ⟨n, hn60, hne⟩ := (HI.1 t ht).2
    obtain ⟨q0, q1, q2⟩ := H t ht
    refine p_aload_n k90_9 rfl ?_
    refine p_getRv k90_10 (s_0 S) f_11_56_11 (r_0_9 S) ?_
    refine p_iload_n k90_13 rfl ?_
    refine p_aaldNj k90_14 (s_38 S) xaty_5 (by omega) (by decide) hTt.2.2.2 ?_
    refine p_astore_n (ls' := [(0, _), (1, _), (2, _), (3, _)]) k90_15 rfl ?_
    refine p_aload_n k90_16 rfl ?_
    refine p_getIv k90_17 hTt.1 f_11_293_5 q0 ?_
    refine p_if_eq (tgt := 34) k90_20 (by decide) (fun cq20 => ?_) (fun cq20 => ?_)
    · skip
      refine p_iconst (v := nI 0) k90_34 (by decide) ?_
      refine p_istore (ls' := [(0, _), (1, _), (2, _), (3, _), (4, _)]) k90_35 rfl ?_
      have hs0 : judM R0 JR nh (nI t) w = judL R0 JR t w nh 0 := by unfold judM; rw [if_neg (by rw [cq4]; decide), hct, if_neg (fun z => (srt0 HI ht).1 z (by first | exact Or.inl cq20 | exact Or.inr cq28))]
      have L : ∀ (j : Nat) (k : Nat), k + j = nh → judM R0 JR nh (nI t) w = judL R0 JR t w j k → EvP (d + 2) 90 37 [(0, .ref (0)), (1, .int (nI (t))), (2, .int (w)), (3, .ref (51 + 9 * t)), (4, .int (nI (k)))] [] (I, J, K, h) (QI (fun x m => x = judM R0 JR nh (nI t) w ∧ m = (I, J, K, h))) := by
        intro j
        induction j with
        | zero =>
          intro k hk
          intro hs
          refine p_iload k90_37 rfl ?_
          refine p_aload_n k90_39 rfl ?_
          refine p_getRv k90_40 (s_0 S) f_11_14_11 (r_0_0 S) ?_
          refine p_getIv k90_43 (s_1 S) f_11_89_3 (show _ = nI nh from C.heads.trans M.nh) ?_
          refine p_icmp_geN (tgt := 100) k90_46 (by decide) (by omega) (by omega) (fun _ => ?_) (fun c => False.elim (by omega))
          refine p_bipush (v := (-5)) k90_100 (by decide) ?_
          refine p_ireturn k90_102 rt_90 ?_
          exact ⟨hs.symm, rfl⟩
        | succ j ih =>
          intro k hk
          intro hs
          refine p_iload k90_37 rfl ?_
          refine p_aload_n k90_39 rfl ?_
          refine p_getRv k90_40 (s_0 S) f_11_14_11 (r_0_0 S) ?_
          refine p_getIv k90_43 (s_1 S) f_11_89_3 (show _ = nI nh from C.heads.trans M.nh) ?_
          refine p_icmp_geN (tgt := 100) k90_46 (by decide) (by omega) (by omega) (fun c => False.elim (by omega)) (fun _ => ?_)
          refine p_aload_n k90_49 rfl ?_
          refine p_iload_n k90_50 rfl ?_
          refine p_iload k90_51 rfl ?_
          refine p_iconst (v := nI 1) k90_53 (by decide) ?_
          refine p_iaddN k90_54 ?_
          refine p_cV2i k90_55 hTt.1 c_11_296_5 rfl rfl (Nat.le_of_ble_eq_true rfl) (C_spans S hTt.1 (q1.trans hne) hn60 w (nI (k + 1))) (fun x1 m1 hq => ?_)
          obtain ⟨rfl, rfl⟩ := hq
          refine p_if_neB (tgt := 67) k90_58 (by decide) (fun cq58 => ?_) (fun cq58 => ?_)
          · skip
            have hng : ¬ (R0 149 t < 0 ∨ w < 0 ∨ ¬ w ≤ R0 150 t - nI k - nI 1) := by rw [hne, jc hn60 (by omega) (len0 HI ht hne hn60), cq58]; decide
            obtain ⟨i, e, rfl, he, hin⟩ := sp_of hn60 cq58
            have he2 := nI_inj (by omega) (by omega) he
            subst he2
            have hci := nI_clamp (n := i) (by omega)
            refine p_aload_n k90_67 rfl ?_
            refine p_getRv k90_68 hTt.1 f_11_299_5 hTt.2.2.1 ?_
            refine p_iload_n k90_71 rfl ?_
            refine p_iload k90_72 rfl ?_
            refine p_iaddN k90_74 ?_
            refine p_laldN k90_75 hTt.2.1 (by omega) (by decide) (q2 (i + k) (by omega)) ?_
            refine p_aload_n k90_76 rfl ?_
            refine p_getRv k90_77 (s_0 S) f_11_14_11 (r_0_0 S) ?_
            refine p_getRv k90_80 (s_1 S) f_11_98_3 (r_1_3 S) ?_
            refine p_iload k90_83 rfl ?_
            refine p_ialdN k90_85 (s_4 S) (by omega) (by decide) (congrFun C.a4 k) ?_
            refine p_i2l k90_86 ?_
            refine p_lcmp k90_87 ?_
            refine p_if_eq (tgt := 94) k90_88 (by decide) (fun cq88 => ?_) (fun cq88 => ?_)
            · skip
              refine p_iincN (ls1 := [(0, _), (1, _), (2, _), (3, _), (4, _)]) k90_94 rfl rfl ?_
              refine p_goto (tgt := 37) k90_97 (by decide) ?_
              refine ih (k + 1) (by omega) (by rw [hs]; exact (if_neg hng).trans (if_pos (by rw [hci, Nat.add_assoc]; exact cq88)))
            · skip
              refine p_iload k90_91 rfl ?_
              refine p_ireturn k90_93 rt_90 ?_
              exact ⟨by rw [hs]; exact ((if_neg hng).trans (if_neg (by rw [hci, Nat.add_assoc]; exact cq88))).symm, rfl⟩
          · skip
            refine p_bipush (v := nI 100) k90_61 (by decide) ?_
            refine p_iload k90_63 rfl ?_
            refine p_iaddN k90_65 ?_
            refine p_ireturn k90_66 rt_90 ?_
            exact ⟨by rw [hs]; exact (if_pos (by rw [hne, jc hn60 (by omega) (len0 HI ht hne hn60)]; exact cq58)).symm, rfl⟩
      exact L nh 0 (by omega) hs0
    · skip
      refine p_aload_n k90_23 rfl ?_
      refine p_getIv k90_24 hTt.1 f_11_293_5 q0 ?_
      refine p_iconst (v := (-1)) k90_27 (by decide) ?_
      refine p_icmp_eq (tgt := 34) k90_28 (by decide) (fun cq28 => ?_) (fun cq28 => ?_)
      · skip
        refine p_iconst (v := nI 0) k90_34 (by decide) ?_
        refine p_istore (ls' := [(0, _), (1, _), (2, _), (3, _), (4, _)]) k90_35 rfl ?_
        have hs0 : judM R0 JR nh (nI t) w = judL R0 JR t w nh 0 := by unfold judM; rw [if_neg (by rw [cq4]; decide), hct, if_neg (fun z => (srt0 HI ht).1 z (by first | exact Or.inl cq20 | exact Or.inr cq28))]
        have L : ∀ (j : Nat) (k : Nat), k + j = nh → judM R0 JR nh (nI t) w = judL R0 JR t w j k → EvP (d + 2) 90 37 [(0, .ref (0)), (1, .int (nI (t))), (2, .int (w)), (3, .ref (51 + 9 * t)), (4, .int (nI (k)))] [] (I, J, K, h) (QI (fun x m => x = judM R0 JR nh (nI t) w ∧ m = (I, J, K, h))) := by
          intro j
          induction j with
          | zero =>
            intro k hk
            intro hs
            refine p_iload k90_37 rfl ?_
            refine p_aload_n k90_39 rfl ?_
            refine p_getRv k90_40 (s_0 S) f_11_14_11 (r_0_0 S) ?_
            refine p_getIv k90_43 (s_1 S) f_11_89_3 (show _ = nI nh from C.heads.trans M.nh) ?_
            refine p_icmp_geN (tgt := 100) k90_46 (by decide) (by omega) (by omega) (fun _ => ?_) (fun c => False.elim (by omega))
            refine p_bipush (v := (-5)) k90_100 (by decide) ?_
            refine p_ireturn k90_102 rt_90 ?_
            exact ⟨hs.symm, rfl⟩
          | succ j ih =>
            intro k hk
            intro hs
            refine p_iload k90_37 rfl ?_
            refine p_aload_n k90_39 rfl ?_
            refine p_getRv k90_40 (s_0 S) f_11_14_11 (r_0_0 S) ?_
            refine p_getIv k90_43 (s_1 S) f_11_89_3 (show _ = nI nh from C.heads.trans M.nh) ?_
            refine p_icmp_geN (tgt := 100) k90_46 (by decide) (by omega) (by omega) (fun c => False.elim (by omega)) (fun _ => ?_)
            refine p_aload_n k90_49 rfl ?_
            refine p_iload_n k90_50 rfl ?_
            refine p_iload k90_51 rfl ?_
            refine p_iconst (v := nI 1) k90_53 (by decide) ?_
            refine p_iaddN k90_54 ?_
            refine p_cV2i k90_55 hTt.1 c_11_296_5 rfl rfl (Nat.le_of_ble_eq_true rfl) (C_spans S hTt.1 (q1.trans hne) hn60 w (nI (k + 1))) (fun x1 m1 hq => ?_)
            obtain ⟨rfl, rfl⟩ := hq
            refine p_if_neB (tgt := 67) k90_58 (by decide) (fun cq58 => ?_) (fun cq58 => ?_)
            · skip
              have hng : ¬ (R0 149 t < 0 ∨ w < 0 ∨ ¬ w ≤ R0 150 t - nI k - nI 1) := by rw [hne, jc hn60 (by omega) (len0 HI ht hne hn60), cq58]; decide
              obtain ⟨i, e, rfl, he, hin⟩ := sp_of hn60 cq58
              have he2 := nI_inj (by omega) (by omega) he
              subst he2
              have hci := nI_clamp (n := i) (by omega)
              refine p_aload_n k90_67 rfl ?_
              refine p_getRv k90_68 hTt.1 f_11_299_5 hTt.2.2.1 ?_
              refine p_iload_n k90_71 rfl ?_
              refine p_iload k90_72 rfl ?_
              refine p_iaddN k90_74 ?_
              refine p_laldN k90_75 hTt.2.1 (by omega) (by decide) (q2 (i + k) (by omega)) ?_
              refine p_aload_n k90_76 rfl ?_
              refine p_getRv k90_77 (s_0 S) f_11_14_11 (r_0_0 S) ?_
              refine p_getRv k90_80 (s_1 S) f_11_98_3 (r_1_3 S) ?_
              refine p_iload k90_83 rfl ?_
              refine p_ialdN k90_85 (s_4 S) (by omega) (by decide) (congrFun C.a4 k) ?_
              refine p_i2l k90_86 ?_
              refine p_lcmp k90_87 ?_
              refine p_if_eq (tgt := 94) k90_88 (by decide) (fun cq88 => ?_) (fun cq88 => ?_)
              · skip
                refine p_iincN (ls1 := [(0, _), (1, _), (2, _), (3, _), (4, _)]) k90_94 rfl rfl ?_
                refine p_goto (tgt := 37) k90_97 (by decide) ?_
                refine ih (k + 1) (by omega) (by rw [hs]; exact (if_neg hng).trans (if_pos (by rw [hci, Nat.add_assoc]; exact cq88)))
              · skip
                refine p_iload k90_91 rfl ?_
                refine p_ireturn k90_93 rt_90 ?_
                exact ⟨by rw [hs]; exact ((if_neg hng).trans (if_neg (by rw [hci, Nat.add_assoc]; exact cq88))).symm, rfl⟩
            · skip
              refine p_bipush (v := nI 100) k90_61 (by decide) ?_
              refine p_iload k90_63 rfl ?_
              refine p_iaddN k90_65 ?_
              refine p_ireturn k90_66 rt_90 ?_
              exact ⟨by rw [hs]; exact (if_pos (by rw [hne, jc hn60 (by omega) (len0 HI ht hne hn60)]; exact cq58)).symm, rfl⟩
        exact L nh 0 (by omega) hs0
      · skip
        refine p_bipush (v := (-12)) k90_31 (by decide) ?_
        refine p_ireturn k90_33 rt_90 ?_
        exact ⟨by unfold judM; rw [if_neg (by rw [cq4]; decide), hct, if_pos ((srt0 HI ht).2 (fun z => z.elim cq20 cq28))], rfl⟩
  · skip
    refine p_iconst (v := (-1)) k90_7 (by decide) ?_
    refine p_ireturn k90_8 rt_90 ?_
    exact ⟨by unfold judM; rw [if_pos cq4], rfl⟩

