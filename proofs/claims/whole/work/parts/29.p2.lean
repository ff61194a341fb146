/-! the reference reads: emits, whole, settle, place, takesTest -/
/-- codes come behind -/
def ems (g : Nat → Int32) : Nat → List Int32 → (Nat → Int32)
  | _, [] => g
  | s, x :: L => ems (upc g s x) (s + 1) L
theorem ems_app (L1 L2 : List Int32) : ∀ (g : Nat → Int32) (s : Nat), ems g s (L1 ++ L2) = ems (ems g s L1) (s + L1.length) L2 := by
  induction L1 with
  | nil => intro g s; rfl
  | cons x L1 ih =>
    intro g s
    show ems (upc g s x) (s + 1) (L1 ++ L2) = ems (ems (upc g s x) (s + 1) L1) (s + (L1.length + 1)) L2
    rw [ih, show s + 1 + L1.length = s + (L1.length + 1) by omega]
theorem ems_lo (L : List Int32) : ∀ (g : Nat → Int32) (s k : Nat), k < s → ems g s L k = g k := by
  induction L with
  | nil => intro g s k _; rfl
  | cons x L ih =>
    intro g s k h
    show ems (upc g s x) (s + 1) L k = g k
    rw [ih _ _ _ (by omega), upc_ne _ _ (by omega)]
theorem ems_at (L : List Int32) : ∀ (g : Nat → Int32) (s k : Nat), k < L.length → ems g s L (s + k) = L.getD k 0 := by
  induction L with
  | nil => intro g s k h; cases h
  | cons x L ih =>
    intro g s k h
    show ems (upc g s x) (s + 1) L (s + k) = (x :: L).getD k 0
    cases k with
    | zero =>
      rw [ems_lo _ _ _ _ (by omega)]
      exact upc_eq _ _ _
    | succ k =>
      rw [show s + (k + 1) = s + 1 + k by omega, ih _ _ _ (by have h' : k + 1 < L.length + 1 := h; omega)]
      rfl
set_option maxRecDepth 100000 in
set_option maxHeartbeats 4000000 in
theorem M_emits {d : Nat} {I : Nat → Nat → Int32} {J : Nat → Nat → Int64} {K : Nat → Nat → Option Nat} {h : List xSh} (S : St K h) {P V W O : Int32} {g u : Nat → Int32} {s : Nat} (hs : s < 600) (x : Int32) : EvP d 149 0 [(0, .ref (98)), (1, .int (x))] [] (eI I (P) (V) (nI s) (W) (O) (g) (u), J, K, h) (QV (fun t => t = (eI I (P) (V) (nI (s + 1)) (W) (O) (upc g s x) (u), J, K, h))) := by
  refine p_aload_n k149_0 rfl ?_
  refine p_getRv k149_1 (s_98 S) f_12_89_12 (r_98_26 S) ?_
  refine p_aload_n k149_4 rfl ?_
  refine p_getIv k149_5 (s_98 S) f_12_95_12 rfl ?_
  refine p_iload_n k149_8 rfl ?_
  refine p_iastN k149_9 (s_117 S) (by omega) (by decide) ?_
  rw [e117]
  refine p_aload_n k149_10 rfl ?_
  refine p_dup k149_11 rfl ?_
  refine p_getIv k149_12 (s_98 S) f_12_95_12 rfl ?_
  refine p_iconst (v := nI 1) k149_15 (by decide) ?_
  refine p_iaddN k149_16 ?_
  refine p_putIv k149_17 (s_98 S) g_12_95_12 n_149_12_28 ?_
  rw [e28]
  refine p_return k149_20 rt_149 ?_
  exact rfl

set_option maxRecDepth 100000 in
set_option maxHeartbeats 4000000 in
theorem M_whole {d : Nat} {I : Nat → Nat → Int32} {J : Nat → Nat → Int64} {K : Nat → Nat → Option Nat} {h : List xSh} (S : St K h) {P V : Int32} {g0 u : Nat → Int32} {s0 w0 o0 k0 : Nat} (hs : s0 + k0 ≤ 600) (hw : w0 + k0 ≤ 101) (ho : o0 + k0 ≤ 101) (hu0 : ∀ i, i < k0 → u (w0 + i) = nI 33) (hW : 0 < w0 → u (w0 - 1) ≠ nI 33) : EvP (d + 1) 150 0 [(0, .ref (98))] [] (eI I (P) (V) (nI s0) (nI (w0 + k0)) (nI (o0 + k0)) (g0) (u), J, K, h) (QV (fun t => t = (eI I (P) (V) (nI (s0 + k0)) (nI w0) (nI o0) (ems g0 s0 (List.replicate k0 (-33))) (u), J, K, h))) := by
  have L : ∀ (j : Nat) (s : Nat) (g : Nat → Int32), s + j = s0 + k0 → s0 ≤ s → (∀ i, i < j → u (w0 + i) = nI 33) → ems g s (List.replicate j (-33)) = ems g0 s0 (List.replicate k0 (-33)) → EvP (d + 1) 150 0 [(0, .ref (98))] [] (eI I (P) (V) (nI s) (nI (w0 + j)) (nI (o0 + j)) (g) (u), J, K, h) (QV (fun t => t = (eI I (P) (V) (nI (s0 + k0)) (nI w0) (nI o0) (ems g0 s0 (List.replicate k0 (-33))) (u), J, K, h))) := by
    intro j
    induction j with
    | zero =>
      intro s g hk
      intro hss hu hg
      · skip
        replace hg : g = ems g0 s0 (List.replicate k0 (-33)) := hg
        obtain rfl : s = s0 + k0 := by omega
        subst hg
        have hw0 : w0 + 0 = w0 := rfl
        by_cases hz : w0 = 0
        · skip
          subst hz
          refine p_aload_n k150_0 rfl ?_
          refine p_getIv k150_1 (s_98 S) f_12_98_12 (show _ = nI 0 from rfl) ?_
          refine p_if_leN (tgt := 52) k150_4 (by decide) (by omega) (fun _ => ?_) (fun c => False.elim (by omega))
          refine p_return k150_52 rt_150 ?_
          exact rfl
        · skip
          refine p_aload_n k150_0 rfl ?_
          refine p_getIv k150_1 (s_98 S) f_12_98_12 (show _ = nI w0 from rfl) ?_
          refine p_if_leN (tgt := 52) k150_4 (by decide) (by omega) (fun c => False.elim (by omega)) (fun _ => ?_)
          refine p_aload_n k150_7 rfl ?_
          refine p_getRv k150_8 (s_98 S) f_12_92_12 (r_98_27 S) ?_
          refine p_aload_n k150_11 rfl ?_
          refine p_getIv k150_12 (s_98 S) f_12_98_12 (show _ = nI w0 from rfl) ?_
          refine p_iconst (v := nI 1) k150_15 (by decide) ?_
          refine p_isubN (by omega) k150_16 ?_
          refine p_ialdN k150_17 (s_118 S) (by omega) (by decide) (show _ = u (w0 - 1) from rfl) ?_
          refine p_bipush (v := nI 33) k150_18 (by decide) ?_
          refine p_icmp_ne (tgt := 52) k150_20 (by decide) (fun _ => ?_) (fun c => False.elim (by exact hW (by omega) c))
          refine p_return k150_52 rt_150 ?_
          exact rfl
    | succ j ih =>
      intro s g hk
      intro hss hu hg
      refine p_aload_n k150_0 rfl ?_
      refine p_getIv k150_1 (s_98 S) f_12_98_12 rfl ?_
      refine p_if_leN (tgt := 52) k150_4 (by decide) (by omega) (fun c => False.elim (by omega)) (fun _ => ?_)
      refine p_aload_n k150_7 rfl ?_
      refine p_getRv k150_8 (s_98 S) f_12_92_12 (r_98_27 S) ?_
      refine p_aload_n k150_11 rfl ?_
      refine p_getIv k150_12 (s_98 S) f_12_98_12 rfl ?_
      refine p_iconst (v := nI 1) k150_15 (by decide) ?_
      refine p_isubN (by omega) k150_16 ?_
      refine p_ialdN k150_17 (s_118 S) (by omega) (by decide) (show u (w0 + (j + 1) - 1) = nI 33 from by rw [show w0 + (j + 1) - 1 = w0 + j by omega]; exact hu j (by omega)) ?_
      refine p_bipush (v := nI 33) k150_18 (by decide) ?_
      refine p_icmp_neN (tgt := 52) k150_20 (by decide) (by omega) (by omega) (fun c => False.elim (by omega)) (fun _ => ?_)
      refine p_aload_n k150_23 rfl ?_
      refine p_bipush (v := (-33)) k150_24 (by decide) ?_
      refine p_cV1v k150_26 (s_98 S) c_12_280_12 rfl (Nat.le_of_ble_eq_true rfl) (M_emits S (s := s) (by omega) _) (fun m1 hq => ?_)
      obtain rfl := hq
      refine p_aload_n k150_29 rfl ?_
      refine p_dup k150_30 rfl ?_
      refine p_getIv k150_31 (s_98 S) f_12_98_12 rfl ?_
      refine p_iconst (v := nI 1) k150_34 (by decide) ?_
      refine p_isubN (by omega) k150_35 ?_
      refine p_putIv k150_36 (s_98 S) g_12_98_12 n_150_12_29 ?_
      rw [e29, show w0 + (j + 1) - 1 = w0 + j by omega]
      refine p_aload_n k150_39 rfl ?_
      refine p_dup k150_40 rfl ?_
      refine p_getIv k150_41 (s_98 S) f_12_101_12 rfl ?_
      refine p_iconst (v := nI 1) k150_44 (by decide) ?_
      refine p_isubN (by omega) k150_45 ?_
      refine p_putIv k150_46 (s_98 S) g_12_101_12 n_150_12_30 ?_
      rw [e30, show o0 + (j + 1) - 1 = o0 + j by omega]
      refine p_goto (tgt := 0) k150_49 (by decide) ?_
      exact ih (s + 1) _ (by omega) (by omega) (fun i hi => hu i (by omega)) hg
  exact L k0 s0 g0 rfl (Nat.le_refl _) hu0 rfl

/-- the signs that wait, the latest first -/
def stk (u : Nat → Int32) (w : Nat) : List Nat → Prop
  | [] => True
  | a :: R => u (w + R.length) = nI a ∧ stk u w R
def ngL (L : List Nat) : List Int32 := L.map (fun a => -nI a)
set_option maxRecDepth 100000 in
set_option maxHeartbeats 4000000 in
theorem M_settle {d : Nat} {I : Nat → Nat → Int32} {J : Nat → Nat → Int64} {K : Nat → Nat → Option Nat} {h : List xSh} (S : St K h) {P V O : Int32} {g0 u : Nat → Int32} {s0 w0 sg : Nat} (hsg : sg < 128) (L0 : List Nat) (hs : s0 + L0.length ≤ 600) (hw : w0 + L0.length ≤ 101) (hk0 : ∀ a ∈ L0, a = 38 ∨ (a = 124 ∧ sg ≠ 38)) (hu0 : stk u w0 L0) (hW : 0 < w0 → u (w0 - 1) ≠ nI 38 ∧ (u (w0 - 1) = nI 124 → sg = 38)) : EvP (d + 1) 151 0 [(0, .ref (98)), (1, .int (nI (sg)))] [] (eI I (P) (V) (nI s0) (nI (w0 + L0.length)) (O) (g0) (u), J, K, h) (QV (fun t => t = (eI I (P) (V) (nI (s0 + L0.length)) (nI w0) (O) (ems g0 s0 (ngL L0)) (u), J, K, h))) := by
  have L : ∀ (R : List Nat) (s : Nat) (g : Nat → Int32), s + R.length = s0 + L0.length → (∀ a ∈ R, a = 38 ∨ (a = 124 ∧ sg ≠ 38)) → stk u w0 R → ems g s (ngL R) = ems g0 s0 (ngL L0) → w0 + R.length ≤ 101 → EvP (d + 1) 151 0 [(0, .ref (98)), (1, .int (nI (sg)))] [] (eI I (P) (V) (nI s) (nI (w0 + R.length)) (O) (g) (u), J, K, h) (QV (fun t => t = (eI I (P) (V) (nI (s0 + L0.length)) (nI w0) (O) (ems g0 s0 (ngL L0)) (u), J, K, h))) := by
    intro R
    induction R with
    | nil =>
      intro s g hs2 hk hu hg hw1
      replace hg : g = ems g0 s0 (ngL L0) := hg
      obtain rfl : s = s0 + L0.length := hs2
      subst hg
      by_cases hz : w0 = 0
      · skip
        subst hz
        refine p_aload_n k151_0 rfl ?_
        refine p_getIv k151_1 (s_98 S) f_12_98_12 (show _ = nI 0 from rfl) ?_
        refine p_if_leN (tgt := 72) k151_4 (by decide) (by omega) (fun _ => ?_) (fun c => False.elim (by omega))
        refine p_return k151_72 rt_151 ?_
        exact rfl
      · skip
        obtain ⟨hW1, hW2⟩ := hW (by omega)
        refine p_aload_n k151_0 rfl ?_
        refine p_getIv k151_1 (s_98 S) f_12_98_12 (show _ = nI w0 from rfl) ?_
        refine p_if_leN (tgt := 72) k151_4 (by decide) (by omega) (fun c => False.elim (by omega)) (fun _ => ?_)
        refine p_aload_n k151_7 rfl ?_
        refine p_getRv k151_8 (s_98 S) f_12_92_12 (r_98_27 S) ?_
        refine p_aload_n k151_11 rfl ?_
        refine p_getIv k151_12 (s_98 S) f_12_98_12 (show _ = nI w0 from rfl) ?_
        refine p_iconst (v := nI 1) k151_15 (by decide) ?_
        refine p_isubN (by omega) k151_16 ?_
        refine p_ialdN k151_17 (s_118 S) (by omega) (by decide) (show _ = u (w0 - 1) from rfl) ?_
        refine p_bipush (v := nI 38) k151_18 (by decide) ?_
        refine p_icmp_eq (tgt := 45) k151_20 (by decide) (fun c => False.elim (by exact hW1 c)) (fun _ => ?_)
        refine p_aload_n k151_23 rfl ?_
        refine p_getRv k151_24 (s_98 S) f_12_92_12 (r_98_27 S) ?_
        refine p_aload_n k151_27 rfl ?_
        refine p_getIv k151_28 (s_98 S) f_12_98_12 (show _ = nI w0 from rfl) ?_
        refine p_iconst (v := nI 1) k151_31 (by decide) ?_
        refine p_isubN (by omega) k151_32 ?_
        refine p_ialdN k151_33 (s_118 S) (by omega) (by decide) (show _ = u (w0 - 1) from rfl) ?_
        refine p_bipush (v := nI 124) k151_34 (by decide) ?_
        refine p_icmp_ne (tgt := 72) k151_36 (by decide) (fun cq36 => ?_) (fun cq36 => ?_)
        · skip
          refine p_return k151_72 rt_151 ?_
          exact rfl
        · skip
          refine p_iload_n k151_39 rfl ?_
          refine p_bipush (v := nI 38) k151_40 (by decide) ?_
          refine p_icmp_eqN (tgt := 72) k151_42 (by decide) (by omega) (by omega) (fun _ => ?_) (fun c => False.elim (by exact c (hW2 cq36)))
          refine p_return k151_72 rt_151 ?_
          exact rfl
    | cons a R ih =>
      intro s g hs2 hk hu hg hw1
      have hs2 : s + (R.length + 1) = s0 + L0.length := hs2
      have hw1 : w0 + (R.length + 1) ≤ 101 := hw1
      replace ih := fun s g h1 h2 h3 h4 => ih s g h1 h2 h3 h4 (by omega)
      rcases hk a (List.mem_cons_self ..) with ha | ⟨ha, hsg⟩
      · skip
        subst ha
        refine p_aload_n k151_0 rfl ?_
        refine p_getIv k151_1 (s_98 S) f_12_98_12 (show _ = nI (w0 + (R.length + 1)) from rfl) ?_
        refine p_if_leN (tgt := 72) k151_4 (by decide) (by omega) (fun c => False.elim (by omega)) (fun _ => ?_)
        refine p_aload_n k151_7 rfl ?_
        refine p_getRv k151_8 (s_98 S) f_12_92_12 (r_98_27 S) ?_
        refine p_aload_n k151_11 rfl ?_
        refine p_getIv k151_12 (s_98 S) f_12_98_12 (show _ = nI (w0 + (R.length + 1)) from rfl) ?_
        refine p_iconst (v := nI 1) k151_15 (by decide) ?_
        refine p_isubN (by omega) k151_16 ?_
        refine p_ialdN k151_17 (s_118 S) (by omega) (by decide) (show u (w0 + (R.length + 1) - 1) = nI 38 from by rw [show w0 + (R.length + 1) - 1 = w0 + R.length by omega]; exact hu.1) ?_
        refine p_bipush (v := nI 38) k151_18 (by decide) ?_
        refine p_icmp_eqN (tgt := 45) k151_20 (by decide) (by omega) (by omega) (fun _ => ?_) (fun c => False.elim (by omega))
        refine p_aload_n k151_45 rfl ?_
        refine p_dup k151_46 rfl ?_
        refine p_getIv k151_47 (s_98 S) f_12_98_12 (show _ = nI (w0 + (R.length + 1)) from rfl) ?_
        refine p_iconst (v := nI 1) k151_50 (by decide) ?_
        refine p_isubN (by omega) k151_51 ?_
        refine p_putIv k151_52 (s_98 S) g_12_98_12 n_151_12_29 ?_
        rw [e29, show w0 + (R.length + 1) - 1 = w0 + R.length by omega]
        refine p_aload_n k151_55 rfl ?_
        refine p_aload_n k151_56 rfl ?_
        refine p_getRv k151_57 (s_98 S) f_12_92_12 (r_98_27 S) ?_
        refine p_aload_n k151_60 rfl ?_
        refine p_getIv k151_61 (s_98 S) f_12_98_12 rfl ?_
        refine p_ialdN k151_64 (s_118 S) (by omega) (by decide) (show u (w0 + R.length) = nI 38 from hu.1) ?_
        refine p_ineg k151_65 ?_
        refine p_cV1v k151_66 (s_98 S) c_12_280_12 rfl (Nat.le_of_ble_eq_true rfl) (M_emits S (s := s) (by omega) _) (fun m1 hq => ?_)
        obtain rfl := hq
        refine p_goto (tgt := 0) k151_69 (by decide) ?_
        exact ih (s + 1) _ (by omega) (fun b hb => hk b (List.mem_cons_of_mem _ hb)) hu.2 hg
      · skip
        subst ha
        refine p_aload_n k151_0 rfl ?_
        refine p_getIv k151_1 (s_98 S) f_12_98_12 (show _ = nI (w0 + (R.length + 1)) from rfl) ?_
        refine p_if_leN (tgt := 72) k151_4 (by decide) (by omega) (fun c => False.elim (by omega)) (fun _ => ?_)
        refine p_aload_n k151_7 rfl ?_
        refine p_getRv k151_8 (s_98 S) f_12_92_12 (r_98_27 S) ?_
        refine p_aload_n k151_11 rfl ?_
        refine p_getIv k151_12 (s_98 S) f_12_98_12 (show _ = nI (w0 + (R.length + 1)) from rfl) ?_
        refine p_iconst (v := nI 1) k151_15 (by decide) ?_
        refine p_isubN (by omega) k151_16 ?_
        refine p_ialdN k151_17 (s_118 S) (by omega) (by decide) (show u (w0 + (R.length + 1) - 1) = nI 124 from by rw [show w0 + (R.length + 1) - 1 = w0 + R.length by omega]; exact hu.1) ?_
        refine p_bipush (v := nI 38) k151_18 (by decide) ?_
        refine p_icmp_eqN (tgt := 45) k151_20 (by decide) (by omega) (by omega) (fun c => False.elim (by omega)) (fun _ => ?_)
        refine p_aload_n k151_23 rfl ?_
        refine p_getRv k151_24 (s_98 S) f_12_92_12 (r_98_27 S) ?_
        refine p_aload_n k151_27 rfl ?_
        refine p_getIv k151_28 (s_98 S) f_12_98_12 (show _ = nI (w0 + (R.length + 1)) from rfl) ?_
        refine p_iconst (v := nI 1) k151_31 (by decide) ?_
        refine p_isubN (by omega) k151_32 ?_
        refine p_ialdN k151_33 (s_118 S) (by omega) (by decide) (show u (w0 + (R.length + 1) - 1) = nI 124 from by rw [show w0 + (R.length + 1) - 1 = w0 + R.length by omega]; exact hu.1) ?_
        refine p_bipush (v := nI 124) k151_34 (by decide) ?_
        refine p_icmp_neN (tgt := 72) k151_36 (by decide) (by omega) (by omega) (fun c => False.elim (by omega)) (fun _ => ?_)
        refine p_iload_n k151_39 rfl ?_
        refine p_bipush (v := nI 38) k151_40 (by decide) ?_
        refine p_icmp_eqN (tgt := 72) k151_42 (by decide) (by omega) (by omega) (fun c => False.elim (by omega)) (fun _ => ?_)
        refine p_aload_n k151_45 rfl ?_
        refine p_dup k151_46 rfl ?_
        refine p_getIv k151_47 (s_98 S) f_12_98_12 (show _ = nI (w0 + (R.length + 1)) from rfl) ?_
        refine p_iconst (v := nI 1) k151_50 (by decide) ?_
        refine p_isubN (by omega) k151_51 ?_
        refine p_putIv k151_52 (s_98 S) g_12_98_12 n_151_12_29 ?_
        rw [e29, show w0 + (R.length + 1) - 1 = w0 + R.length by omega]
        refine p_aload_n k151_55 rfl ?_
        refine p_aload_n k151_56 rfl ?_
        refine p_getRv k151_57 (s_98 S) f_12_92_12 (r_98_27 S) ?_
        refine p_aload_n k151_60 rfl ?_
        refine p_getIv k151_61 (s_98 S) f_12_98_12 rfl ?_
        refine p_ialdN k151_64 (s_118 S) (by omega) (by decide) (show u (w0 + R.length) = nI 124 from hu.1) ?_
        refine p_ineg k151_65 ?_
        refine p_cV1v k151_66 (s_98 S) c_12_280_12 rfl (Nat.le_of_ble_eq_true rfl) (M_emits S (s := s) (by omega) _) (fun m1 hq => ?_)
        obtain rfl := hq
        refine p_goto (tgt := 0) k151_69 (by decide) ?_
        exact ih (s + 1) _ (by omega) (fun b hb => hk b (List.mem_cons_of_mem _ hb)) hu.2 hg
  exact L L0 s0 g0 rfl hk0 hu0 rfl hw

theorem lk_no {z : Int} (h : z ≠ 97 ∧ z ≠ 100 ∧ z ≠ 101 ∧ z ≠ 107 ∧ z ≠ 116 ∧ z ≠ 117) : Op.lookupswitch.offset (#[(97, 59), (100, 69), (101, 61), (107, 63), (116, 65), (117, 67)] : Array (Int × Int)).toList 71 z = 71 := by
  obtain ⟨h1, h2, h3, h4, h5, h6⟩ := h
  simp [Op.lookupswitch.offset, Ne.symm h1, Ne.symm h2, Ne.symm h3, Ne.symm h4, Ne.symm h5, Ne.symm h6]
set_option maxRecDepth 100000 in
set_option maxHeartbeats 4000000 in
theorem M_place {d : Nat} {I : Nat → Nat → Int32} {J : Nat → Nat → Int64} {K : Nat → Nat → Option Nat} {h : List xSh} (S : St K h) {x : Nat} (hx : x < 128) : EvP d 152 0 [(0, .ref (98)), (1, .int (nI (x)))] [] (I, J, K, h) (QI (fun z t => z = optI (-1) (ltN x) ∧ t = (I, J, K, h))) := by
  refine p_iload_n k152_0 rfl ?_
  by_cases h97 : x = 97
  · skip
    subst h97
    refine p_lookup (off := 59) (tgt := 60) k152_1 (by decide) (by rw [nI_t (by decide)]; decide) (by decide) ?_
    refine p_iconst (v := nI 0) k152_60 (by decide) ?_
    refine p_ireturn k152_61 rt_152 ?_
    exact ⟨rfl, rfl⟩
  · skip
    by_cases h101 : x = 101
    · skip
      subst h101
      refine p_lookup (off := 61) (tgt := 62) k152_1 (by decide) (by rw [nI_t (by decide)]; decide) (by decide) ?_
      refine p_iconst (v := nI 1) k152_62 (by decide) ?_
      refine p_ireturn k152_63 rt_152 ?_
      exact ⟨rfl, rfl⟩
    · skip
      by_cases h107 : x = 107
      · skip
        subst h107
        refine p_lookup (off := 63) (tgt := 64) k152_1 (by decide) (by rw [nI_t (by decide)]; decide) (by decide) ?_
        refine p_iconst (v := nI 2) k152_64 (by decide) ?_
        refine p_ireturn k152_65 rt_152 ?_
        exact ⟨rfl, rfl⟩
      · skip
        by_cases h116 : x = 116
        · skip
          subst h116
          refine p_lookup (off := 65) (tgt := 66) k152_1 (by decide) (by rw [nI_t (by decide)]; decide) (by decide) ?_
          refine p_iconst (v := nI 3) k152_66 (by decide) ?_
          refine p_ireturn k152_67 rt_152 ?_
          exact ⟨rfl, rfl⟩
        · skip
          by_cases h117 : x = 117
          · skip
            subst h117
            refine p_lookup (off := 67) (tgt := 68) k152_1 (by decide) (by rw [nI_t (by decide)]; decide) (by decide) ?_
            refine p_iconst (v := nI 4) k152_68 (by decide) ?_
            refine p_ireturn k152_69 rt_152 ?_
            exact ⟨rfl, rfl⟩
          · skip
            by_cases h100 : x = 100
            · skip
              subst h100
              refine p_lookup (off := 69) (tgt := 70) k152_1 (by decide) (by rw [nI_t (by decide)]; decide) (by decide) ?_
              refine p_iconst (v := nI 5) k152_70 (by decide) ?_
              refine p_ireturn k152_71 rt_152 ?_
              exact ⟨rfl, rfl⟩
            · skip
              refine p_lookup (off := 71) (tgt := 72) k152_1 (by decide) (lk_no (by rw [nI_t (by omega)]; omega)) (by decide) ?_
              refine p_iconst (v := (-1)) k152_72 (by decide) ?_
              refine p_ireturn k152_73 rt_152 ?_
              exact ⟨by unfold ltN; rw [if_neg h97, if_neg h101, if_neg h107, if_neg h116, if_neg h117, if_neg h100]; rfl, rfl⟩

set_option maxRecDepth 100000 in
set_option maxHeartbeats 4000000 in
theorem M_place1 {d : Nat} {I : Nat → Nat → Int32} {J : Nat → Nat → Int64} {K : Nat → Nat → Option Nat} {h : List xSh} (S : St K h)  : EvP d 152 0 [(0, .ref (98)), (1, .int ((-1)))] [] (I, J, K, h) (QI (fun z t => z = -1 ∧ t = (I, J, K, h))) := by
  refine p_iload_n k152_0 rfl ?_
  refine p_lookup (off := 71) (tgt := 72) k152_1 (by decide) (by decide) (by decide) ?_
  refine p_iconst (v := (-1)) k152_72 (by decide) ?_
  refine p_ireturn k152_73 rt_152 ?_
  exact ⟨rfl, rfl⟩

theorem ltN_200 : ltN 200 = none := rfl
theorem M_place2 {d : Nat} {I : Nat → Nat → Int32} {J : Nat → Nat → Int64} {K : Nat → Nat → Option Nat} {h : List xSh} (S : St K h) {c : Nat → Nat} {n p : Nat} (hc : CT c n) : EvP d 152 0 [(0, .ref 98), (1, .int (nx c n p))] [] (I, J, K, h) (QI (fun z t => z = optI (-1) (ltN (c p)) ∧ t = (I, J, K, h))) := by
  unfold nx
  by_cases hp : p < n
  · rw [if_pos hp]; exact M_place S ((hc p).2 hp)
  · rw [if_neg hp, (hc p).1 (by omega), ltN_200]; exact M_place1 S
theorem opt_neg {f : Nat} (hf : f < 100) : ¬ nI f < 0 := by
  rw [i_lt, nI_t (by omega)]
  show ¬ (f : Int) < 0
  omega
set_option maxRecDepth 100000 in
set_option maxHeartbeats 4000000 in
theorem M_testL {d : Nat} {I : Nat → Nat → Int32} {J : Nat → Nat → Int64} {K : Nat → Nat → Option Nat} {h : List xSh} (S : St K h) {c : Nat → Nat} {n p : Nat} {V Sg W O : Int32} {g u : Nat → Int32} (X : TX I c n) (hp : p ≤ 100) (hF : ltN (c p) = none) : EvP (d + 3) 153 0 [(0, .ref (98))] [] (eI I (nI p) (V) (Sg) (W) (O) (g) (u), J, K, h) (QI (fun x t => x = bI false ∧ t = (eI I (nI p) (V) (Sg) (W) (O) (g) (u), J, K, h))) := by
  have hn100 := X.2.1
  refine p_aload_n k153_0 rfl ?_
  refine p_aload_n k153_1 rfl ?_
  refine p_cV0i k153_2 (s_98 S) c_12_269_12 (Nat.le_of_ble_eq_true rfl) (M_next S (p := p) X (by omega)) (fun x1 m1 hq => ?_)
  obtain ⟨rfl, rfl⟩ := hq
  refine p_cV1i k153_5 (s_98 S) c_12_284_12 rfl (Nat.le_of_ble_eq_true rfl) (M_place2 S X.2.2.1) (fun x1 m1 hq => ?_)
  obtain ⟨rfl, rfl⟩ := hq
  rw [hF]
  show EvP _ _ _ _ [.int (-1)] _ _
  refine p_istore_n (ls' := [(0, _), (1, _)]) k153_8 rfl ?_
  refine p_iload_n k153_9 rfl ?_
  refine p_if_ge (tgt := 15) k153_10 (by decide) (fun c => False.elim (by exact absurd c (by decide))) (fun _ => ?_)
  refine p_iconst (v := bI false) k153_13 (by decide) ?_
  refine p_returnB k153_14 rt_153 ?_
  exact ⟨rfl, rfl⟩

set_option maxRecDepth 100000 in
set_option maxHeartbeats 4000000 in
theorem M_testS {d : Nat} {I : Nat → Nat → Int32} {J : Nat → Nat → Int64} {K : Nat → Nat → Option Nat} {h : List xSh} (S : St K h) {c : Nat → Nat} {n p : Nat} {V Sg W O : Int32} {g u : Nat → Int32} (X : TX I c n) (hp : p ≤ 100) {f : Nat} (hF : ltN (c p) = some f) (hS : ¬ (60 ≤ c (p + 1) ∧ c (p + 1) ≤ 62)) : EvP (d + 3) 153 0 [(0, .ref (98))] [] (eI I (nI p) (V) (Sg) (W) (O) (g) (u), J, K, h) (QI (fun x t => x = bI false ∧ t = (eI I (nI (p + 1)) (V) (Sg) (W) (O) (g) (u), J, K, h))) := by
  have hn100 := X.2.1
  have hf5 := (ltN_some hF).1
  have hpn := X.2.2.1.lt (p := p) (by have := (ltN_some hF).2.2; omega)
  refine p_aload_n k153_0 rfl ?_
  refine p_aload_n k153_1 rfl ?_
  refine p_cV0i k153_2 (s_98 S) c_12_269_12 (Nat.le_of_ble_eq_true rfl) (M_next S (p := p) X (by omega)) (fun x1 m1 hq => ?_)
  obtain ⟨rfl, rfl⟩ := hq
  refine p_cV1i k153_5 (s_98 S) c_12_284_12 rfl (Nat.le_of_ble_eq_true rfl) (M_place2 S X.2.2.1) (fun x1 m1 hq => ?_)
  obtain ⟨rfl, rfl⟩ := hq
  rw [hF]
  show EvP _ _ _ _ [.int (nI f)] _ _
  refine p_istore_n (ls' := [(0, _), (1, _)]) k153_8 rfl ?_
  refine p_iload_n k153_9 rfl ?_
  refine p_if_geN (tgt := 15) k153_10 (by decide) (by omega) ?_
  refine p_aload_n k153_15 rfl ?_
  refine p_dup k153_16 rfl ?_
  refine p_getIv k153_17 (s_98 S) f_12_62_12 rfl ?_
  refine p_iconst (v := nI 1) k153_20 (by decide) ?_
  refine p_iaddN k153_21 ?_
  refine p_putIv k153_22 (s_98 S) g_12_62_12 n_153_12_17 ?_
  rw [e17]
  refine p_aload_n k153_25 rfl ?_
  refine p_cV0i k153_26 (s_98 S) c_12_269_12 (Nat.le_of_ble_eq_true rfl) (M_next S (p := p + 1) X (by omega)) (fun x1 m1 hq => ?_)
  obtain ⟨rfl, rfl⟩ := hq
  refine p_istore_n (ls' := [(0, _), (1, _), (2, _)]) k153_29 rfl ?_
  refine p_aload_n k153_30 rfl ?_
  refine p_iload_n k153_31 rfl ?_
  refine p_bipush (v := nI 60) k153_32 (by decide) ?_
  refine p_bipush (v := nI 62) k153_34 (by decide) ?_
  refine p_cV3i k153_36 (s_98 S) c_12_248_12 rfl rfl rfl (Nat.le_of_ble_eq_true rfl) (M_in S _ _ _) (fun x1 m1 hq => ?_)
  obtain ⟨rfl, rfl⟩ := hq
  refine p_if_neB (tgt := 44) k153_39 (by decide) (fun c => False.elim (by exact hS ((nx_in X.2.2.1 (by omega) (by omega)).mp c))) (fun _ => ?_)
  refine p_iconst (v := bI false) k153_42 (by decide) ?_
  refine p_returnB k153_43 rt_153 ?_
  exact ⟨rfl, rfl⟩

set_option maxRecDepth 100000 in
set_option maxHeartbeats 4000000 in
theorem M_testN {d : Nat} {I : Nat → Nat → Int32} {J : Nat → Nat → Int64} {K : Nat → Nat → Option Nat} {h : List xSh} (S : St K h) {c : Nat → Nat} {n p : Nat} {V Sg W O : Int32} {g u : Nat → Int32} (X : TX I c n) (hp : p ≤ 100) {f : Nat} (hF : ltN (c p) = some f) (hS : 60 ≤ c (p + 1) ∧ c (p + 1) ≤ 62) (hN : isD (c (p + 2)) = false) : EvP (d + 3) 153 0 [(0, .ref (98))] [] (eI I (nI p) (V) (Sg) (W) (O) (g) (u), J, K, h) (QI (fun x t => x = bI false ∧ t = (eI I (nI (p + 2)) (V) (Sg) (W) (O) (g) (u), J, K, h))) := by
  have hn100 := X.2.1
  have hf5 := (ltN_some hF).1
  have hpn := X.2.2.1.lt (p := p) (by have := (ltN_some hF).2.2; omega)
  have hp1n := X.2.2.1.lt (p := p + 1) (by omega)
  refine p_aload_n k153_0 rfl ?_
  refine p_aload_n k153_1 rfl ?_
  refine p_cV0i k153_2 (s_98 S) c_12_269_12 (Nat.le_of_ble_eq_true rfl) (M_next S (p := p) X (by omega)) (fun x1 m1 hq => ?_)
  obtain ⟨rfl, rfl⟩ := hq
  refine p_cV1i k153_5 (s_98 S) c_12_284_12 rfl (Nat.le_of_ble_eq_true rfl) (M_place2 S X.2.2.1) (fun x1 m1 hq => ?_)
  obtain ⟨rfl, rfl⟩ := hq
  rw [hF]
  show EvP _ _ _ _ [.int (nI f)] _ _
  refine p_istore_n (ls' := [(0, _), (1, _)]) k153_8 rfl ?_
  refine p_iload_n k153_9 rfl ?_
  refine p_if_geN (tgt := 15) k153_10 (by decide) (by omega) ?_
  refine p_aload_n k153_15 rfl ?_
  refine p_dup k153_16 rfl ?_
  refine p_getIv k153_17 (s_98 S) f_12_62_12 rfl ?_
  refine p_iconst (v := nI 1) k153_20 (by decide) ?_
  refine p_iaddN k153_21 ?_
  refine p_putIv k153_22 (s_98 S) g_12_62_12 n_153_12_17 ?_
  rw [e17]
  refine p_aload_n k153_25 rfl ?_
  refine p_cV0i k153_26 (s_98 S) c_12_269_12 (Nat.le_of_ble_eq_true rfl) (M_next S (p := p + 1) X (by omega)) (fun x1 m1 hq => ?_)
  obtain ⟨rfl, rfl⟩ := hq
  refine p_istore_n (ls' := [(0, _), (1, _), (2, _)]) k153_29 rfl ?_
  refine p_aload_n k153_30 rfl ?_
  refine p_iload_n k153_31 rfl ?_
  refine p_bipush (v := nI 60) k153_32 (by decide) ?_
  refine p_bipush (v := nI 62) k153_34 (by decide) ?_
  refine p_cV3i k153_36 (s_98 S) c_12_248_12 rfl rfl rfl (Nat.le_of_ble_eq_true rfl) (M_in S _ _ _) (fun x1 m1 hq => ?_)
  obtain ⟨rfl, rfl⟩ := hq
  refine p_if_neB (tgt := 44) k153_39 (by decide) (fun _ => ?_) (fun c => False.elim (by rw [(nx_in X.2.2.1 (by omega) (by omega)).mpr hS] at c; cases c))
  refine p_aload_n k153_44 rfl ?_
  refine p_dup k153_45 rfl ?_
  refine p_getIv k153_46 (s_98 S) f_12_62_12 rfl ?_
  refine p_iconst (v := nI 1) k153_49 (by decide) ?_
  refine p_iaddN k153_50 ?_
  refine p_putIv k153_51 (s_98 S) g_12_62_12 n_153_12_17 ?_
  rw [e17]
  refine p_aload_n k153_54 rfl ?_
  refine p_cV0i k153_55 (s_98 S) c_12_287_12 (Nat.le_of_ble_eq_true rfl) (M_takesNumberN S (p := p + 2) X (by omega) hN) (fun x1 m1 hq => ?_)
  obtain ⟨rfl, rfl⟩ := hq
  refine p_if_neB (tgt := 63) k153_58 (by decide) (fun c => False.elim (by cases c)) (fun _ => ?_)
  refine p_iconst (v := bI false) k153_61 (by decide) ?_
  refine p_returnB k153_62 rt_153 ?_
  exact ⟨rfl, rfl⟩

set_option maxRecDepth 100000 in
set_option maxHeartbeats 4000000 in
theorem M_testY {d : Nat} {I : Nat → Nat → Int32} {J : Nat → Nat → Int64} {K : Nat → Nat → Option Nat} {h : List xSh} (S : St K h) {c : Nat → Nat} {n p : Nat} {V : Int32} {g u : Nat → Int32} (X : TX I c n) (hp : p ≤ 100) {f q v : Nat} (hF : ltN (c p) = some f) (hS : 60 ≤ c (p + 1) ∧ c (p + 1) ≤ 62) (hN : pNum c (p + 2) = (q, some v)) {s0 w0 o0 k0 : Nat} (hs : s0 + 1 + k0 ≤ 600) (hw : w0 + k0 ≤ 101) (ho : o0 + k0 ≤ 101) (hu0 : ∀ i, i < k0 → u (w0 + i) = nI 33) (hW : 0 < w0 → u (w0 - 1) ≠ nI 33) : EvP (d + 3) 153 0 [(0, .ref (98))] [] (eI I (nI p) (V) (nI s0) (nI (w0 + k0)) (nI (o0 + k0)) (g) (u), J, K, h) (QI (fun x t => x = bI true ∧ t = (eI I (nI q) (nI v) (nI (s0 + 1 + k0)) (nI w0) (nI o0) (ems g s0 (nI (1000 * f + 100 * (c (p + 1) - 60) + v) :: List.replicate k0 (-33))) (u), J, K, h))) := by
  have hn100 := X.2.1
  have hf5 := (ltN_some hF).1
  have hpn := X.2.2.1.lt (p := p) (by have := (ltN_some hF).2.2; omega)
  have hp1n := X.2.2.1.lt (p := p + 1) (by omega)
  have hv100 := (pNum_some X.2.2.1 hN).2.2.2
  refine p_aload_n k153_0 rfl ?_
  refine p_aload_n k153_1 rfl ?_
  refine p_cV0i k153_2 (s_98 S) c_12_269_12 (Nat.le_of_ble_eq_true rfl) (M_next S (p := p) X (by omega)) (fun x1 m1 hq => ?_)
  obtain ⟨rfl, rfl⟩ := hq
  refine p_cV1i k153_5 (s_98 S) c_12_284_12 rfl (Nat.le_of_ble_eq_true rfl) (M_place2 S X.2.2.1) (fun x1 m1 hq => ?_)
  obtain ⟨rfl, rfl⟩ := hq
  rw [hF]
  show EvP _ _ _ _ [.int (nI f)] _ _
  refine p_istore_n (ls' := [(0, _), (1, _)]) k153_8 rfl ?_
  refine p_iload_n k153_9 rfl ?_
  refine p_if_geN (tgt := 15) k153_10 (by decide) (by omega) ?_
  refine p_aload_n k153_15 rfl ?_
  refine p_dup k153_16 rfl ?_
  refine p_getIv k153_17 (s_98 S) f_12_62_12 rfl ?_
  refine p_iconst (v := nI 1) k153_20 (by decide) ?_
  refine p_iaddN k153_21 ?_
  refine p_putIv k153_22 (s_98 S) g_12_62_12 n_153_12_17 ?_
  rw [e17]
  refine p_aload_n k153_25 rfl ?_
  refine p_cV0i k153_26 (s_98 S) c_12_269_12 (Nat.le_of_ble_eq_true rfl) (M_next S (p := p + 1) X (by omega)) (fun x1 m1 hq => ?_)
  obtain ⟨rfl, rfl⟩ := hq
  refine p_istore_n (ls' := [(0, _), (1, _), (2, _)]) k153_29 rfl ?_
  refine p_aload_n k153_30 rfl ?_
  refine p_iload_n k153_31 rfl ?_
  refine p_bipush (v := nI 60) k153_32 (by decide) ?_
  refine p_bipush (v := nI 62) k153_34 (by decide) ?_
  refine p_cV3i k153_36 (s_98 S) c_12_248_12 rfl rfl rfl (Nat.le_of_ble_eq_true rfl) (M_in S _ _ _) (fun x1 m1 hq => ?_)
  obtain ⟨rfl, rfl⟩ := hq
  refine p_if_neB (tgt := 44) k153_39 (by decide) (fun _ => ?_) (fun c => False.elim (by rw [(nx_in X.2.2.1 (by omega) (by omega)).mpr hS] at c; cases c))
  refine p_aload_n k153_44 rfl ?_
  refine p_dup k153_45 rfl ?_
  refine p_getIv k153_46 (s_98 S) f_12_62_12 rfl ?_
  refine p_iconst (v := nI 1) k153_49 (by decide) ?_
  refine p_iaddN k153_50 ?_
  refine p_putIv k153_51 (s_98 S) g_12_62_12 n_153_12_17 ?_
  rw [e17]
  refine p_aload_n k153_54 rfl ?_
  refine p_cV0i k153_55 (s_98 S) c_12_287_12 (Nat.le_of_ble_eq_true rfl) (M_takesNumber S (p := p + 2) X (by omega) hN) (fun x1 m1 hq => ?_)
  obtain ⟨rfl, rfl⟩ := hq
  refine p_if_neB (tgt := 63) k153_58 (by decide) (fun _ => ?_) (fun c => False.elim (by cases c))
  rw [nx_lt (show p + 1 < n by omega)]
  refine p_aload_n k153_63 rfl ?_
  refine p_sipush (v := nI 1000) k153_64 (by decide) ?_
  refine p_iload_n k153_67 rfl ?_
  refine p_imulN k153_68 ?_
  refine p_bipush (v := nI 100) k153_69 (by decide) ?_
  refine p_iload_n k153_71 rfl ?_
  refine p_bipush (v := nI 60) k153_72 (by decide) ?_
  refine p_isubN (by omega) k153_74 ?_
  refine p_imulN k153_75 ?_
  refine p_iaddN k153_76 ?_
  refine p_aload_n k153_77 rfl ?_
  refine p_getIv k153_78 (s_98 S) f_12_65_12 rfl ?_
  refine p_iaddN k153_81 ?_
  refine p_cV1v k153_82 (s_98 S) c_12_280_12 rfl (Nat.le_of_ble_eq_true rfl) (M_emits S (s := s0) (by omega) _) (fun m1 hq => ?_)
  obtain rfl := hq
  refine p_aload_n k153_85 rfl ?_
  refine p_cV0v k153_86 (s_98 S) c_12_290_12 (Nat.le_of_ble_eq_true rfl) (M_whole S (s0 := s0 + 1) (w0 := w0) (o0 := o0) (k0 := k0) (by omega) hw ho hu0 hW) (fun m1 hq => ?_)
  obtain rfl := hq
  refine p_iconst (v := bI true) k153_89 (by decide) ?_
  refine p_returnB k153_90 rt_153 ?_
  exact ⟨rfl, rfl⟩

