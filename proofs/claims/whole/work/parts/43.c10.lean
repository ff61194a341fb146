/-! the class: tapes -/
/-- the cells of tape t -/
def TPS (K : Nat → Nat → Option Nat) (h : List xSh) (t : Nat) : Prop := h[51 + 9 * t]? = some (.inl 5) ∧ h[52 + 9 * t]? = some (.inr (.long, 60)) ∧ K (51 + 9 * t) 2 = some (52 + 9 * t) ∧ K 38 t = some (51 + 9 * t)
theorem TPS_t {K : Nat → Nat → Option Nat} {h : List xSh} (S : St K h) {t : Nat} (ht : t < 6) : TPS K h t := by
  rcases (show t = 0 ∨ t = 1 ∨ t = 2 ∨ t = 3 ∨ t = 4 ∨ t = 5 by omega) with rfl | rfl | rfl | rfl | rfl | rfl
  · exact ⟨s_51 S, s_52 S, r_51_2 S, r_38_0 S⟩
  · exact ⟨s_60 S, s_61 S, r_60_2 S, r_38_1 S⟩
  · exact ⟨s_69 S, s_70 S, r_69_2 S, r_38_2 S⟩
  · exact ⟨s_78 S, s_79 S, r_78_2 S, r_38_3 S⟩
  · exact ⟨s_87 S, s_88 S, r_87_2 S, r_38_4 S⟩
  · exact ⟨s_96 S, s_97 S, r_96_2 S, r_38_5 S⟩
/-- the tapes of both -/
def TPR (I : Nat → Nat → Int32) (J : Nat → Nat → Int64) (R : Nat → Nat → Int32) (JT : Nat → Int64) : Prop := ∀ t, t < 6 → I (51 + 9 * t) 0 = R 149 t ∧ I (51 + 9 * t) 1 = R 150 t ∧ ∀ i, i < 60 → J (52 + 9 * t) i = JT (60 * t + i)
def TPI (R : Nat → Nat → Int32) : Prop := TP R ∧ ∀ t, t < 6 → R 149 t = -1 → R 150 t = nI 0
def spB (v q : Int32) (n : Nat) : Bool := decide (0 ≤ v.toInt ∧ 0 ≤ q.toInt ∧ v.toInt + q.toInt ≤ n)
theorem sp_y {v q : Int32} {n : Nat} (hn : n ≤ 60) (cq1 : ¬ v < 0) (cq2 : ¬ q < 0) (cq3 : ¬ nI n < v) (cq4 : ¬ nI n - v < q) : spB v q n = true := by
  have h0 : (0 : Int32).toInt = 0 := rfl
  rw [i_lt] at cq1 cq2 cq3
  rw [nI_t (by omega)] at cq3
  rw [i_lt, Int32.toInt_sub, nI_t (by omega), Int.bmod_eq_of_le (by omega) (by omega)] at cq4
  exact decide_eq_true ⟨by omega, by omega, by omega⟩
theorem sp_n1 {v q : Int32} {n : Nat} (cq1 : v < 0) : spB v q n = false := by
  have h0 : (0 : Int32).toInt = 0 := rfl
  rw [i_lt] at cq1
  exact decide_eq_false (fun z => by omega)
theorem sp_n2 {v q : Int32} {n : Nat} (cq1 : q < 0) : spB v q n = false := by
  have h0 : (0 : Int32).toInt = 0 := rfl
  rw [i_lt] at cq1
  exact decide_eq_false (fun z => by omega)
theorem sp_n3 {v q : Int32} {n : Nat} (hn : n ≤ 60) (cq2 : ¬ q < 0) (cq3 : nI n < v) : spB v q n = false := by
  have h0 : (0 : Int32).toInt = 0 := rfl
  rw [i_lt] at cq2 cq3
  rw [nI_t (by omega)] at cq3
  exact decide_eq_false (fun z => by omega)
theorem sp_n4 {v q : Int32} {n : Nat} (hn : n ≤ 60) (cq1 : ¬ v < 0) (cq3 : ¬ nI n < v) (cq4 : nI n - v < q) : spB v q n = false := by
  have h0 : (0 : Int32).toInt = 0 := rfl
  rw [i_lt] at cq1 cq3
  rw [nI_t (by omega)] at cq3
  rw [i_lt, Int32.toInt_sub, nI_t (by omega), Int.bmod_eq_of_le (by omega) (by omega)] at cq4
  exact decide_eq_false (fun z => by omega)
theorem sp_1 {v : Int32} {n : Nat} : spB v (nI 1) n = ixB v n := by
  unfold spB ixB
  rw [nI_t (by decide)]
  congr 1
  exact propext ⟨fun z => ⟨z.1, by omega⟩, fun z => ⟨z.1, by omega, by omega⟩⟩
set_option maxRecDepth 100000 in
set_option maxHeartbeats 4000000 in
theorem C_spans {d : Nat} {I : Nat → Nat → Int32} {J : Nat → Nat → Int64} {K : Nat → Nat → Option Nat} {h : List xSh} (S : St K h) {b n : Nat} (hb : h[b]? = some (.inl 5)) (hn : I b 1 = nI n) (hn60 : n ≤ 60) (v q : Int32) : EvP d 23 0 [(0, .ref (b)), (1, .int (v)), (2, .int (q))] [] (I, J, K, h) (QI (fun x t => x = bI (spB v q n) ∧ t = (I, J, K, h))) := by
  refine p_iload_n k23_0 rfl ?_
  refine p_if_lt (tgt := 30) k23_1 (by decide) (fun cq1 => ?_) (fun cq1 => ?_)
  · skip
    refine p_iconst (v := bI false) k23_30 (by decide) ?_
    refine p_returnB k23_31 rt_23 ?_
    exact ⟨by first | rw [sp_y hn60 cq1 cq5 cq13 cq23] | rw [sp_n1 cq1] | rw [sp_n2 cq5] | rw [sp_n3 hn60 cq5 cq13] | rw [sp_n4 hn60 cq1 cq13 cq23], rfl⟩
  · skip
    refine p_iload_n k23_4 rfl ?_
    refine p_if_lt (tgt := 30) k23_5 (by decide) (fun cq5 => ?_) (fun cq5 => ?_)
    · skip
      refine p_iconst (v := bI false) k23_30 (by decide) ?_
      refine p_returnB k23_31 rt_23 ?_
      exact ⟨by first | rw [sp_y hn60 cq1 cq5 cq13 cq23] | rw [sp_n1 cq1] | rw [sp_n2 cq5] | rw [sp_n3 hn60 cq5 cq13] | rw [sp_n4 hn60 cq1 cq13 cq23], rfl⟩
    · skip
      refine p_iload_n k23_8 rfl ?_
      refine p_aload_n k23_9 rfl ?_
      refine p_getIv k23_10 hb f_5_15_5 hn ?_
      refine p_icmp_gt (tgt := 30) k23_13 (by decide) (fun cq13 => ?_) (fun cq13 => ?_)
      · skip
        refine p_iconst (v := bI false) k23_30 (by decide) ?_
        refine p_returnB k23_31 rt_23 ?_
        exact ⟨by first | rw [sp_y hn60 cq1 cq5 cq13 cq23] | rw [sp_n1 cq1] | rw [sp_n2 cq5] | rw [sp_n3 hn60 cq5 cq13] | rw [sp_n4 hn60 cq1 cq13 cq23], rfl⟩
      · skip
        refine p_iload_n k23_16 rfl ?_
        refine p_aload_n k23_17 rfl ?_
        refine p_getIv k23_18 hb f_5_15_5 hn ?_
        refine p_iload_n k23_21 rfl ?_
        refine p_isub k23_22 ?_
        refine p_icmp_gt (tgt := 30) k23_23 (by decide) (fun cq23 => ?_) (fun cq23 => ?_)
        · skip
          refine p_iconst (v := bI false) k23_30 (by decide) ?_
          refine p_returnB k23_31 rt_23 ?_
          exact ⟨by first | rw [sp_y hn60 cq1 cq5 cq13 cq23] | rw [sp_n1 cq1] | rw [sp_n2 cq5] | rw [sp_n3 hn60 cq5 cq13] | rw [sp_n4 hn60 cq1 cq13 cq23], rfl⟩
        · skip
          refine p_iconst (v := bI true) k23_26 (by decide) ?_
          refine p_goto (tgt := 31) k23_27 (by decide) ?_
          refine p_returnB k23_31 rt_23 ?_
          exact ⟨by first | rw [sp_y hn60 cq1 cq5 cq13 cq23] | rw [sp_n1 cq1] | rw [sp_n2 cq5] | rw [sp_n3 hn60 cq5 cq13] | rw [sp_n4 hn60 cq1 cq13 cq23], rfl⟩

set_option maxRecDepth 100000 in
set_option maxHeartbeats 4000000 in
theorem C_asItem {d : Nat} {I : Nat → Nat → Int32} {J : Nat → Nat → Int64} {K : Nat → Nat → Option Nat} {h : List xSh} (S : St K h) {b s0 : Nat} (hb : h[b]? = some (.inl 5)) (hs0 : I b 0 = nI s0) (hs5 : s0 < 5) (z : Int64) : EvP d 24 0 [(0, .ref (b)), (1, .long (z))] [] (I, J, K, h) (QL (fun x t => x = narM (nI s0) z ∧ t = (I, J, K, h))) := by
  refine p_aload_n k24_0 rfl ?_
  refine p_getIv k24_1 hb f_5_11_5 hs0 ?_
  rcases (show s0 = 0 ∨ s0 = 1 ∨ s0 = 2 ∨ s0 = 3 ∨ s0 = 4 by omega) with rfl | rfl | rfl | rfl | rfl
  · skip
    refine p_tswI (tgt := 40) k24_4 (by decide) (by decide) (by decide) rfl (by decide) ?_
    refine p_lload_n k24_40 rfl ?_
    refine p_l2i k24_41 ?_
    refine p_i2b k24_42 ?_
    refine p_i2l k24_43 ?_
    refine p_lreturn k24_44 rt_24 ?_
    exact ⟨rfl, rfl⟩
  · skip
    refine p_tswI (tgt := 45) k24_4 (by decide) (by decide) (by decide) rfl (by decide) ?_
    refine p_lload_n k24_45 rfl ?_
    refine p_l2i k24_46 ?_
    refine p_i2s k24_47 ?_
    refine p_i2l k24_48 ?_
    refine p_lreturn k24_49 rt_24 ?_
    exact ⟨rfl, rfl⟩
  · skip
    refine p_tswI (tgt := 50) k24_4 (by decide) (by decide) (by decide) rfl (by decide) ?_
    refine p_lload_n k24_50 rfl ?_
    refine p_l2i k24_51 ?_
    refine p_i2l k24_52 ?_
    refine p_lreturn k24_53 rt_24 ?_
    exact ⟨rfl, rfl⟩
  · skip
    refine p_tswI (tgt := 66) k24_4 (by decide) (by decide) (by decide) rfl (by decide) ?_
    refine p_lload_n k24_66 rfl ?_
    refine p_lreturn k24_67 rt_24 ?_
    exact ⟨rfl, rfl⟩
  · skip
    refine p_tswI (tgt := 54) k24_4 (by decide) (by decide) (by decide) rfl (by decide) ?_
    refine p_lload_n k24_54 rfl ?_
    refine p_lconst (v := 0) k24_55 (by decide) ?_
    refine p_lcmp k24_56 ?_
    refine p_if_eq (tgt := 64) k24_57 (by decide) (fun cq57 => ?_) (fun cq57 => ?_)
    · skip
      refine p_lconst (v := 0) k24_64 (by decide) ?_
      refine p_lreturn k24_65 rt_24 ?_
      exact ⟨by show _ = (if lg_cmp z 0 = 0 then (0 : Int64) else 1); first | rw [if_pos cq57] | rw [if_neg cq57], rfl⟩
    · skip
      refine p_lconst (v := 1) k24_60 (by decide) ?_
      refine p_goto (tgt := 65) k24_61 (by decide) ?_
      refine p_lreturn k24_65 rt_24 ?_
      exact ⟨by show _ = (if lg_cmp z 0 = 0 then (0 : Int64) else 1); first | rw [if_pos cq57] | rw [if_neg cq57], rfl⟩

def clr60 (g : Nat → Int64) : Nat → Int64 := fun s => if s < 60 then 0 else g s
set_option maxRecDepth 100000 in
set_option maxHeartbeats 4000000 in
theorem C_lfill {d : Nat} {I : Nat → Nat → Int32} {J : Nat → Nat → Int64} {K : Nat → Nat → Option Nat} {h : List xSh} (S : St K h) {b1 : Nat} (hb1 : h[b1]? = some (.inr (.long, 60))) : EvP d 241 0 [(0, .ref (b1)), (1, .long (0))] [] (I, J, K, h) (QV (fun t => t = (I, upc J b1 (clr60 (J b1)), K, h))) := by
  refine p_iconst (v := nI 0) k241_0 (by decide) ?_
  refine p_istore_n (ls' := [(0, _), (1, _), (3, _)]) k241_1 rfl ?_
  refine p_aload_n k241_2 rfl ?_
  refine p_alen k241_3 hb1 (Or.inl (Or.inr (Or.inl rfl))) ?_
  refine p_istore (ls' := [(0, _), (1, _), (3, _), (4, _)]) k241_4 rfl ?_
  have L : ∀ (j : Nat) (k : Nat) (u : Nat → Int64), k + j = 60 → (∀ s, s < k → u s = 0) → (∀ s, 60 ≤ s → u s = J b1 s) → EvP d 241 6 [(0, .ref (b1)), (1, .long (0)), (3, .int (nI (k))), (4, .int (nI (60)))] [] (I, upc J b1 u, K, h) (QV (fun t => t = (I, upc J b1 (clr60 (J b1)), K, h))) := by
    intro j
    induction j with
    | zero =>
      intro k u hk
      intro hu hv
      have hu2 : u = clr60 (J b1) := by
            funext s
            unfold clr60
            by_cases e : s < 60
            · rw [if_pos e]; exact hu s (by omega)
            · rw [if_neg e]; exact hv s (by omega)
      subst hu2
      refine p_iload_n k241_6 rfl ?_
      refine p_iload k241_7 rfl ?_
      refine p_icmp_geN (tgt := 22) k241_9 (by decide) (by omega) (by omega) (fun _ => ?_) (fun c => False.elim (by omega))
      refine p_return k241_22 rt_241 ?_
      exact rfl
    | succ j ih =>
      intro k u hk
      intro hu hv
      refine p_iload_n k241_6 rfl ?_
      refine p_iload k241_7 rfl ?_
      refine p_icmp_geN (tgt := 22) k241_9 (by decide) (by omega) (by omega) (fun c => False.elim (by omega)) (fun _ => ?_)
      refine p_aload_n k241_12 rfl ?_
      refine p_iload_n k241_13 rfl ?_
      refine p_lload_n k241_14 rfl ?_
      refine p_lastN k241_15 hb1 (by omega) (by decide) ?_
      refine p_iincN (ls1 := [(0, _), (1, _), (3, _), (4, _)]) k241_16 rfl rfl ?_
      refine p_goto (tgt := 6) k241_19 (by decide) ?_
      rw [upc_uu, upc_eq]
      refine ih (k + 1) _ (by omega) (fun s hs => ?_) (fun s hs => (upc_ne _ _ (by omega)).trans (hv s hs))
      by_cases e : s = k
      · subst e; exact upc_eq _ _ _
      · exact (upc_ne _ _ e).trans (hu s (by omega))
  refine p_selfJ b1 ?_
  exact L 60 0 (J b1) (by omega) (fun s hs => absurd hs (Nat.not_lt_zero _)) (fun s _ => rfl)

set_option maxRecDepth 100000 in
set_option maxHeartbeats 4000000 in
theorem C_begin {d : Nat} {I : Nat → Nat → Int32} {J : Nat → Nat → Int64} {K : Nat → Nat → Option Nat} {h : List xSh} (S : St K h) {b b1 : Nat} (hb : h[b]? = some (.inl 5)) (hb1 : h[b1]? = some (.inr (.long, 60))) (hb2 : K b 2 = some b1) (s n : Int32) : EvP (d + 1) 22 0 [(0, .ref (b)), (1, .int (s)), (2, .int (n))] [] (I, J, K, h) (QV (fun t => t = (s1 (s1 I b 0 s) b 1 n, upc J b1 (clr60 (J b1)), K, h))) := by
  refine p_aload_n k22_0 rfl ?_
  refine p_iload_n k22_1 rfl ?_
  refine p_putIv k22_2 hb g_5_11_5 n_22_5_0 ?_
  refine p_aload_n k22_5 rfl ?_
  refine p_iload_n k22_6 rfl ?_
  refine p_putIv k22_7 hb g_5_15_5 n_22_5_1 ?_
  refine p_aload_n k22_10 rfl ?_
  refine p_getRv k22_11 hb f_5_18_5 hb2 ?_
  refine p_lconst (v := 0) k22_14 (by decide) ?_
  refine p_cS2Lv k22_15 c_5_22 (Nat.le_of_ble_eq_true rfl) rfl rfl (Nat.le_of_ble_eq_true rfl) (C_lfill S hb1) (fun m1 hq => ?_)
  obtain rfl := hq
  refine p_return k22_18 rt_22 ?_
  exact rfl

/-- what a call on tapes leaves as it was -/
def TFR (I I2 : Nat → Nat → Int32) (J J2 : Nat → Nat → Int64) : Prop := (∀ c, (∀ t, t < 6 → c ≠ 51 + 9 * t) → I2 c = I c) ∧ ∀ c, (∀ t, t < 6 → c ≠ 52 + 9 * t) → J2 c = J c
theorem TFR.refl (I : Nat → Nat → Int32) (J : Nat → Nat → Int64) : TFR I I J J := ⟨fun _ _ => rfl, fun _ _ => rfl⟩
theorem TPR.tape {I R : Nat → Nat → Int32} {J : Nat → Nat → Int64} {JT : Nat → Int64} (H : TPR I J R JT) {t : Nat} (ht : t < 6) (w z : Int32) : TPR (s1 (s1 I (51 + 9 * t) 0 w) (51 + 9 * t) 1 z) (upc J (52 + 9 * t) (clr60 (J (52 + 9 * t)))) (s1 (s1 R 149 t w) 150 t z) (clr JT (60 * t)) := by
  intro u hu
  obtain ⟨h1, h2, h3⟩ := H u hu
  by_cases e : u = t
  · subst e
    refine ⟨?_, ?_, fun i hi => ?_⟩
    · show s1 (s1 I (51 + 9 * u) 0 w) (51 + 9 * u) 1 z (51 + 9 * u) 0 = upc (R 149) u w u
      unfold s1
      rw [upc_eq, upc_eq, upc_ne _ _ (by decide), upc_eq, upc_eq]
    · show s1 (s1 I (51 + 9 * u) 0 w) (51 + 9 * u) 1 z (51 + 9 * u) 1 = upc _ u z u
      unfold s1
      rw [upc_eq, upc_eq, upc_eq]
    · rw [upc_eq]
      unfold clr60 clr
      rw [if_pos hi, if_pos (by omega)]
  · refine ⟨?_, ?_, fun i hi => ?_⟩
    · unfold s1
      rw [upc_ne _ _ (by omega), upc_ne _ _ (by omega), h1]
      exact (upc_ne _ _ e).symm
    · unfold s1
      rw [upc_ne _ _ (by omega), upc_ne _ _ (by omega), h2]
      exact (upc_ne _ _ e).symm
    · rw [upc_ne _ _ (by omega), h3 i hi]
      unfold clr
      rw [if_neg (by omega)]
theorem TFR.tape {I : Nat → Nat → Int32} {J : Nat → Nat → Int64} {t : Nat} (ht : t < 6) {w z : Int32} {g : Nat → Int64} : TFR I (s1 (s1 I (51 + 9 * t) 0 w) (51 + 9 * t) 1 z) J (upc J (52 + 9 * t) g) := ⟨fun c hc => by unfold s1; rw [upc_ne _ _ (hc t ht), upc_ne _ _ (hc t ht)], fun c hc => upc_ne _ _ (hc t ht)⟩
theorem in_m1 {w : Int32} : inB w (-1) (nI 4) = true ↔ (w = -1 ∨ inB w (nI 0) (nI 4) = true) := by
  rw [inB_iff, inB_iff, nI_t (by decide), nI_t (by decide), show (-1 : Int32).toInt = -1 from rfl, i_eq, show (-1 : Int32).toInt = -1 from rfl]
  omega
theorem in_lt0 {w : Int32} (h : inB w (nI 0) (nI 4) = true) : ¬ w < 0 := by
  rw [inB_iff, nI_t (by decide)] at h
  rw [i_lt, show (0 : Int32).toInt = 0 from rfl]
  omega
set_option maxRecDepth 100000 in
set_option maxHeartbeats 4000000 in
theorem C_tape {d : Nat} {I : Nat → Nat → Int32} {J : Nat → Nat → Int64} {K : Nat → Nat → Option Nat} {h : List xSh} (S : St K h) {R0 : Nat → Nat → Int32} {JR : Nat → Nat → Int64} (H : TPR I J R0 (JR 151)) (HI : TPI R0) (v w z : Int32) : EvP (d + 2) 97 0 [(0, .ref (0)), (1, .int (v)), (2, .int (w)), (3, .int (z))] [] (I, J, K, h) (QI (fun x m => x = (tapeM R0 JR v w z).1 ∧ ∃ I2 J2, m = (I2, J2, K, h) ∧ TPR I2 J2 (tapeM R0 JR v w z).2.1 ((tapeM R0 JR v w z).2.2 151) ∧ TFR I I2 J J2)) := by
  refine p_iload_n k97_0 rfl ?_
  refine p_cS1i k97_1 c_11_290 rfl (Nat.le_of_ble_eq_true rfl) (C_isTape S (v)) (fun x1 m1 hq => ?_)
  obtain ⟨rfl, rfl⟩ := hq
  refine p_if_neB (tgt := 9) k97_4 (by decide) (fun cq4 => ?_) (fun cq4 => ?_)
  · skip
    obtain ⟨t, ht, rfl⟩ := ixB_of (n := 6) (by omega) cq4
    have hct := nI_clamp (n := t) (by omega)
    have hTt := TPS_t S ht
    refine p_iload_n k97_9 rfl ?_
    refine p_iconst (v := (-1)) k97_10 (by decide) ?_
    refine p_icmp_ne (tgt := 27) k97_11 (by decide) (fun cq11 => ?_) (fun cq11 => ?_)
    · skip
      refine p_iload_n k97_27 rfl ?_
      refine p_iconst (v := nI 0) k97_28 (by decide) ?_
      refine p_iconst (v := nI 4) k97_29 (by decide) ?_
      refine p_cS3i k97_30 c_11_101 rfl rfl rfl (Nat.le_of_ble_eq_true rfl) (C_within S (w) (nI (0)) (nI (4))) (fun x1 m1 hq => ?_)
      obtain ⟨rfl, rfl⟩ := hq
      refine p_if_eqB (tgt := 42) k97_33 (by decide) (fun cq33 => ?_) (fun cq33 => ?_)
      · skip
        refine p_bipush (v := (-2)) k97_42 (by decide) ?_
        refine p_ireturn k97_44 rt_97 ?_
        rw [show tapeM R0 JR (nI t) w z = (-2, R0, JR) from by unfold tapeM; rw [if_neg (by rw [cq4]; decide), if_pos (by first | exact Or.inr ⟨in_lt0 cq33, cq39⟩ | exact Or.inl (Bool.eq_false_iff.mpr (fun y => (in_m1.mp y).elim cq11 (fun y => by rw [cq33] at y; cases y))))]]
        exact ⟨rfl, _, _, rfl, H, TFR.refl _ _⟩
      · skip
        refine p_iload_n k97_36 rfl ?_
        refine p_bipush (v := nI 60) k97_37 (by decide) ?_
        refine p_icmp_le (tgt := 45) k97_39 (by decide) (fun cq39 => ?_) (fun cq39 => ?_)
        · skip
          refine p_iload_n k97_45 rfl ?_
          refine p_if_ge (tgt := 52) k97_46 (by decide) (fun cq46 => ?_) (fun cq46 => ?_)
          · skip
            refine p_aload_n k97_52 rfl ?_
            refine p_getRv k97_53 (s_0 S) f_11_56_11 (r_0_9 S) ?_
            refine p_iload_n k97_56 rfl ?_
            refine p_aaldNj k97_57 (s_38 S) xaty_5 (by omega) (by decide) hTt.2.2.2 ?_
            refine p_iload_n k97_58 rfl ?_
            refine p_iload_n k97_59 rfl ?_
            refine p_cV2v k97_60 hTt.1 c_11_328_5 rfl rfl (Nat.le_of_ble_eq_true rfl) (C_begin S hTt.1 hTt.2.1 hTt.2.2.1 w z) (fun m1 hq => ?_)
            obtain rfl := hq
            refine p_iconst (v := nI 1) k97_63 (by decide) ?_
            refine p_ireturn k97_64 rt_97 ?_
            rw [show tapeM R0 JR (nI t) w z = (nI 1, s1 (s1 R0 149 t w) 150 t z, upc JR 151 (clr (JR 151) (60 * t))) from by unfold tapeM; rw [if_neg (by rw [cq4]; decide), hct, if_neg (fun y => y.elim (fun y => by rw [in_m1.mpr (Or.inr cq33)] at y; cases y) (fun y => y.2 cq39)), if_neg (fun y => y.2 cq46), if_neg (in_lt0 cq33)]]
            exact ⟨rfl, _, _, rfl, H.tape ht _ _, TFR.tape ht⟩
          · skip
            refine p_bipush (v := (-14)) k97_49 (by decide) ?_
            refine p_ireturn k97_51 rt_97 ?_
            rw [show tapeM R0 JR (nI t) w z = (-14, R0, JR) from by unfold tapeM; rw [if_neg (by rw [cq4]; decide), if_neg (fun y => y.elim (fun y => by rw [in_m1.mpr (Or.inr cq33)] at y; cases y) (fun y => y.2 cq39)), if_pos ⟨in_lt0 cq33, cq46⟩]]
            exact ⟨rfl, _, _, rfl, H, TFR.refl _ _⟩
        · skip
          refine p_bipush (v := (-2)) k97_42 (by decide) ?_
          refine p_ireturn k97_44 rt_97 ?_
          rw [show tapeM R0 JR (nI t) w z = (-2, R0, JR) from by unfold tapeM; rw [if_neg (by rw [cq4]; decide), if_pos (by first | exact Or.inr ⟨in_lt0 cq33, cq39⟩ | exact Or.inl (Bool.eq_false_iff.mpr (fun y => (in_m1.mp y).elim cq11 (fun y => by rw [cq33] at y; cases y))))]]
          exact ⟨rfl, _, _, rfl, H, TFR.refl _ _⟩
    · skip
      refine p_aload_n k97_14 rfl ?_
      refine p_getRv k97_15 (s_0 S) f_11_56_11 (r_0_9 S) ?_
      refine p_iload_n k97_18 rfl ?_
      refine p_aaldNj k97_19 (s_38 S) xaty_5 (by omega) (by decide) hTt.2.2.2 ?_
      refine p_iload_n k97_20 rfl ?_
      refine p_iconst (v := nI 0) k97_21 (by decide) ?_
      refine p_cV2v k97_22 hTt.1 c_11_328_5 rfl rfl (Nat.le_of_ble_eq_true rfl) (C_begin S hTt.1 hTt.2.1 hTt.2.2.1 w (nI 0)) (fun m1 hq => ?_)
      obtain rfl := hq
      refine p_iconst (v := nI 1) k97_25 (by decide) ?_
      refine p_ireturn k97_26 rt_97 ?_
      rw [show tapeM R0 JR (nI t) w z = (nI 1, s1 (s1 R0 149 t w) 150 t (nI 0), upc JR 151 (clr (JR 151) (60 * t))) from by unfold tapeM; rw [if_neg (by rw [cq4]; decide), hct, if_neg (fun y => y.elim (fun y => by rw [in_m1.mpr (Or.inl cq11)] at y; cases y) (fun y => y.1 (by rw [cq11]; decide))), if_neg (fun y => y.1 (by rw [cq11]; decide)), if_pos (by rw [cq11]; decide)]]
      exact ⟨rfl, _, _, rfl, H.tape ht _ _, TFR.tape ht⟩
  · skip
    refine p_iconst (v := (-1)) k97_7 (by decide) ?_
    refine p_ireturn k97_8 rt_97 ?_
    rw [show tapeM R0 JR v w z = (-1, R0, JR) from by unfold tapeM; rw [if_pos cq4]]
    exact ⟨rfl, _, _, rfl, H, TFR.refl _ _⟩

theorem len0 {R : Nat → Nat → Int32} (HI : TPI R) {t n : Nat} (ht : t < 6) (hn : R 150 t = nI n) (hn60 : n ≤ 60) (h : R 149 t < 0) : n = 0 := by
  rcases (HI.1 t ht).1 with e | ⟨s, hs, e⟩
  · have h2 := HI.2 t ht e
    rw [hn] at h2
    exact nI_inj (by omega) (by omega) h2
  · rw [e] at h; exact absurd h (opt_neg (by omega))
theorem srt_lt {R : Nat → Nat → Int32} (HI : TPI R) {t : Nat} (ht : t < 6) : (R 149 t < 0 ↔ R 149 t = -1) := by
  rcases (HI.1 t ht).1 with e | ⟨s, hs, e⟩
  · rw [e]; exact ⟨fun _ => rfl, fun _ => by decide⟩
  · rw [e]; exact ⟨fun z => absurd z (opt_neg (by omega)), fun z => absurd z (nI_neg (by omega) (by decide))⟩
set_option maxRecDepth 100000 in
set_option maxHeartbeats 4000000 in
theorem C_read {d : Nat} {I : Nat → Nat → Int32} {J : Nat → Nat → Int64} {K : Nat → Nat → Option Nat} {h : List xSh} (S : St K h) {R0 : Nat → Nat → Int32} {JR : Nat → Nat → Int64} (H : TPR I J R0 (JR 151)) (HI : TPI R0) (v w : Int32) : EvP (d + 2) 99 0 [(0, .ref (0)), (1, .int (v)), (2, .int (w))] [] (I, J, K, h) (QL (fun x t => x = readM R0 JR v w ∧ t = (I, J, K, h))) := by
  refine p_iload_n k99_0 rfl ?_
  refine p_cS1i k99_1 c_11_290 rfl (Nat.le_of_ble_eq_true rfl) (C_isTape S (v)) (fun x1 m1 hq => ?_)
  obtain ⟨rfl, rfl⟩ := hq
  refine p_if_eqB (tgt := 35) k99_4 (by decide) (fun cq4 => ?_) (fun cq4 => ?_)
  · skip
    refine p_ldc2 (v := (-9223372036854775808)) k99_35 (by decide) ?_
    refine p_lreturn k99_38 rt_99 ?_
    first | exact ⟨by unfold readM; rw [if_pos (Or.inl cq4)], rfl⟩ | exact ⟨by unfold readM; rw [if_neg (fun y => y.elim (fun y => by rw [cq4] at y; cases y) (fun y => y.elim (fun y => by rw [hct] at y; have := len0 HI ht hne hn60 y; omega) (fun y => by rw [hct, hne, inB_ix hn60, hix] at y; cases y))), hct, hci], rfl⟩ | exact ⟨by unfold readM; rw [if_pos (Or.inr (Or.inr (by rw [hct, hne, inB_ix hn60, ← sp_1]; exact cq18)))], rfl⟩
  · skip
    obtain ⟨t, ht, rfl⟩ := ixB_of (n := 6) (by omega) cq4
    have hct := nI_clamp (n := t) (by omega)
    have hTt := TPS_t S ht
    obtain ⟨n, hn60, hne⟩ := (HI.1 t ht).2
    obtain ⟨q0, q1, q2⟩ := H t ht
    refine p_aload_n k99_7 rfl ?_
    refine p_getRv k99_8 (s_0 S) f_11_56_11 (r_0_9 S) ?_
    refine p_iload_n k99_11 rfl ?_
    refine p_aaldNj k99_12 (s_38 S) xaty_5 (by omega) (by decide) hTt.2.2.2 ?_
    refine p_iload_n k99_13 rfl ?_
    refine p_iconst (v := nI 1) k99_14 (by decide) ?_
    refine p_cV2i k99_15 hTt.1 c_11_296_5 rfl rfl (Nat.le_of_ble_eq_true rfl) (C_spans S hTt.1 (q1.trans hne) hn60 w (nI 1)) (fun x1 m1 hq => ?_)
    obtain ⟨rfl, rfl⟩ := hq
    refine p_if_eqB (tgt := 35) k99_18 (by decide) (fun cq18 => ?_) (fun cq18 => ?_)
    · skip
      refine p_ldc2 (v := (-9223372036854775808)) k99_35 (by decide) ?_
      refine p_lreturn k99_38 rt_99 ?_
      first | exact ⟨by unfold readM; rw [if_pos (Or.inl cq4)], rfl⟩ | exact ⟨by unfold readM; rw [if_neg (fun y => y.elim (fun y => by rw [cq4] at y; cases y) (fun y => y.elim (fun y => by rw [hct] at y; have := len0 HI ht hne hn60 y; omega) (fun y => by rw [hct, hne, inB_ix hn60, hix] at y; cases y))), hct, hci], rfl⟩ | exact ⟨by unfold readM; rw [if_pos (Or.inr (Or.inr (by rw [hct, hne, inB_ix hn60, ← sp_1]; exact cq18)))], rfl⟩
    · skip
      have hix := cq18
      rw [sp_1] at hix
      obtain ⟨i, hi, rfl⟩ := ixB_of (by omega) hix
      have hci := nI_clamp (n := i) (by omega)
      refine p_aload_n k99_21 rfl ?_
      refine p_getRv k99_22 (s_0 S) f_11_56_11 (r_0_9 S) ?_
      refine p_iload_n k99_25 rfl ?_
      refine p_aaldNj k99_26 (s_38 S) xaty_5 (by omega) (by decide) hTt.2.2.2 ?_
      refine p_getRv k99_27 hTt.1 f_11_299_5 hTt.2.2.1 ?_
      refine p_iload_n k99_30 rfl ?_
      refine p_laldN k99_31 hTt.2.1 (by omega) (by decide) (q2 i (by omega)) ?_
      refine p_goto (tgt := 38) k99_32 (by decide) ?_
      refine p_lreturn k99_38 rt_99 ?_
      first | exact ⟨by unfold readM; rw [if_pos (Or.inl cq4)], rfl⟩ | exact ⟨by unfold readM; rw [if_neg (fun y => y.elim (fun y => by rw [cq4] at y; cases y) (fun y => y.elim (fun y => by rw [hct] at y; have := len0 HI ht hne hn60 y; omega) (fun y => by rw [hct, hne, inB_ix hn60, hix] at y; cases y))), hct, hci], rfl⟩ | exact ⟨by unfold readM; rw [if_pos (Or.inr (Or.inr (by rw [hct, hne, inB_ix hn60, ← sp_1]; exact cq18)))], rfl⟩

