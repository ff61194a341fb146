/-! the reference reads: next, takes, takesWord, takesNumber, emits, whole, settle, place, takesTest -/
/-- the fields that reading changes: at, digits, signs, waiting, open -/
def eF (f : Nat → Int32) (P V Sg W O : Int32) : Nat → Int32 := upc (upc (upc (upc (upc f 17 P) 18 V) 28 Sg) 29 W) 30 O
/-- a memory while it reads: these fields, the signs, what waits -/
def eI (I : Nat → Nat → Int32) (P V Sg W O : Int32) (g u : Nat → Int32) : Nat → Nat → Int32 := upc (upc (upc I 98 (eF (I 98) P V Sg W O)) 117 g) 118 u
theorem eF_17 {f : Nat → Int32} {P V Sg W O x : Int32} : upc (eF f P V Sg W O) 17 x = eF f x V Sg W O := by
  unfold eF
  rw [upc_sw _ (show 30 ≠ 17 by decide), upc_sw _ (show 29 ≠ 17 by decide), upc_sw _ (show 28 ≠ 17 by decide), upc_sw _ (show 18 ≠ 17 by decide), upc_uu]
theorem e17 {I : Nat → Nat → Int32} {P V Sg W O x : Int32} {g u : Nat → Int32} : upc (eI I P V Sg W O g u) 98 (upc (eI I P V Sg W O g u 98) 17 x) = eI I x V Sg W O g u := by
  rw [show eI I P V Sg W O g u 98 = eF (I 98) P V Sg W O from rfl, eF_17]
  unfold eI
  rw [upc_sw _ (show 118 ≠ 98 by decide), upc_sw _ (show 117 ≠ 98 by decide), upc_uu]
theorem eF_18 {f : Nat → Int32} {P V Sg W O x : Int32} : upc (eF f P V Sg W O) 18 x = eF f P x Sg W O := by
  unfold eF
  rw [upc_sw _ (show 30 ≠ 18 by decide), upc_sw _ (show 29 ≠ 18 by decide), upc_sw _ (show 28 ≠ 18 by decide), upc_uu]
theorem e18 {I : Nat → Nat → Int32} {P V Sg W O x : Int32} {g u : Nat → Int32} : upc (eI I P V Sg W O g u) 98 (upc (eI I P V Sg W O g u 98) 18 x) = eI I P x Sg W O g u := by
  rw [show eI I P V Sg W O g u 98 = eF (I 98) P V Sg W O from rfl, eF_18]
  unfold eI
  rw [upc_sw _ (show 118 ≠ 98 by decide), upc_sw _ (show 117 ≠ 98 by decide), upc_uu]
theorem eF_28 {f : Nat → Int32} {P V Sg W O x : Int32} : upc (eF f P V Sg W O) 28 x = eF f P V x W O := by
  unfold eF
  rw [upc_sw _ (show 30 ≠ 28 by decide), upc_sw _ (show 29 ≠ 28 by decide), upc_uu]
theorem e28 {I : Nat → Nat → Int32} {P V Sg W O x : Int32} {g u : Nat → Int32} : upc (eI I P V Sg W O g u) 98 (upc (eI I P V Sg W O g u 98) 28 x) = eI I P V x W O g u := by
  rw [show eI I P V Sg W O g u 98 = eF (I 98) P V Sg W O from rfl, eF_28]
  unfold eI
  rw [upc_sw _ (show 118 ≠ 98 by decide), upc_sw _ (show 117 ≠ 98 by decide), upc_uu]
theorem eF_29 {f : Nat → Int32} {P V Sg W O x : Int32} : upc (eF f P V Sg W O) 29 x = eF f P V Sg x O := by
  unfold eF
  rw [upc_sw _ (show 30 ≠ 29 by decide), upc_uu]
theorem e29 {I : Nat → Nat → Int32} {P V Sg W O x : Int32} {g u : Nat → Int32} : upc (eI I P V Sg W O g u) 98 (upc (eI I P V Sg W O g u 98) 29 x) = eI I P V Sg x O g u := by
  rw [show eI I P V Sg W O g u 98 = eF (I 98) P V Sg W O from rfl, eF_29]
  unfold eI
  rw [upc_sw _ (show 118 ≠ 98 by decide), upc_sw _ (show 117 ≠ 98 by decide), upc_uu]
theorem eF_30 {f : Nat → Int32} {P V Sg W O x : Int32} : upc (eF f P V Sg W O) 30 x = eF f P V Sg W x := by
  unfold eF
  rw [upc_uu]
theorem e30 {I : Nat → Nat → Int32} {P V Sg W O x : Int32} {g u : Nat → Int32} : upc (eI I P V Sg W O g u) 98 (upc (eI I P V Sg W O g u 98) 30 x) = eI I P V Sg W x g u := by
  rw [show eI I P V Sg W O g u 98 = eF (I 98) P V Sg W O from rfl, eF_30]
  unfold eI
  rw [upc_sw _ (show 118 ≠ 98 by decide), upc_sw _ (show 117 ≠ 98 by decide), upc_uu]
theorem e117 {I : Nat → Nat → Int32} {P V Sg W O x : Int32} {g u : Nat → Int32} {k : Nat} : upc (eI I P V Sg W O g u) 117 (upc (eI I P V Sg W O g u 117) k x) = eI I P V Sg W O (upc g k x) u := by
  rw [show eI I P V Sg W O g u 117 = g from rfl]
  unfold eI
  rw [upc_sw _ (show 118 ≠ 117 by decide), upc_uu]
theorem e118 {I : Nat → Nat → Int32} {P V Sg W O x : Int32} {g u : Nat → Int32} {k : Nat} : upc (eI I P V Sg W O g u) 118 (upc (eI I P V Sg W O g u 118) k x) = eI I P V Sg W O g (upc u k x) := by
  rw [show eI I P V Sg W O g u 118 = u from rfl]
  unfold eI
  rw [upc_uu]
theorem e_c {I : Nat → Nat → Int32} {P V Sg W O : Int32} {g u : Nat → Int32} {c : Nat} {f : Nat → Int32} (h1 : c ≠ 98) (h2 : c ≠ 117) (h3 : c ≠ 118) : upc (eI I P V Sg W O g u) c f = eI (upc I c f) P V Sg W O g u := by
  unfold eI
  rw [upc_sw _ (Ne.symm h3), upc_sw _ (Ne.symm h2), upc_sw _ (Ne.symm h1), upc_ne _ _ (Ne.symm h1)]
theorem eI_self (I : Nat → Nat → Int32) : eI I (I 98 17) (I 98 18) (I 98 28) (I 98 29) (I 98 30) (I 117) (I 118) = I := by
  unfold eI eF
  rw [upc_self (I 98) 17, upc_self (I 98) 18, upc_self (I 98) 28, upc_self (I 98) 29, upc_self (I 98) 30, upc_self I 98, upc_self I 117, upc_self I 118]
/-- the text: n bytes, c their values -/
def TX (I : Nat → Nat → Int32) (c : Nat → Nat) (n : Nat) : Prop := I 98 16 = nI n ∧ n ≤ 100 ∧ CT c n ∧ ∀ p, p < n → I 110 p = nI (c p)
/-- the next sign: -1 behind the last -/
def nx (c : Nat → Nat) (n p : Nat) : Int32 := if p < n then nI (c p) else -1
theorem nx_eq {c : Nat → Nat} {n p k : Nat} (hc : CT c n) (hk : k < 128) : nx c n p = nI k ↔ c p = k := by
  unfold nx
  by_cases h : p < n
  · rw [if_pos h]
    have h1 := (hc p).2 h
    exact ⟨fun z => nI_inj (by omega) (by omega) z, fun z => by rw [z]⟩
  · rw [if_neg h]
    have h1 := (hc p).1 (by omega)
    exact ⟨fun z => absurd (congrArg Int32.toInt z) (by rw [nI_t (by omega)]; show ¬ (-1 : Int) = k; omega), fun z => by omega⟩
theorem nx_in {c : Nat → Nat} {n p a b : Nat} (hc : CT c n) (ha : a < 128) (hb : b < 128) : inB (nx c n p) (nI a) (nI b) = true ↔ a ≤ c p ∧ c p ≤ b := by
  unfold nx
  by_cases h : p < n
  · rw [if_pos h]
    have h1 := (hc p).2 h
    rw [inB_iff, nI_t (show c p < 2 ^ 31 by omega), nI_t (show b < 2 ^ 31 by omega)]
    rw [nI_t (show a < 2 ^ 31 by omega)]
    omega
  · rw [if_neg h]
    have h1 := (hc p).1 (by omega)
    rw [inB_iff, nI_t (show a < 2 ^ 31 by omega), show (-1 : Int32).toInt = -1 from rfl]
    omega
set_option maxRecDepth 100000 in
set_option maxHeartbeats 4000000 in
theorem M_next {d : Nat} {I : Nat → Nat → Int32} {J : Nat → Nat → Int64} {K : Nat → Nat → Option Nat} {h : List xSh} (S : St K h) {c : Nat → Nat} {n p : Nat} {V Sg W O : Int32} {g u : Nat → Int32} (X : TX I c n) (hp : p ≤ 100)  : EvP d 144 0 [(0, .ref (98))] [] (eI I (nI p) (V) (Sg) (W) (O) (g) (u), J, K, h) (QI (fun x t => x = nx c n p ∧ t = (eI I (nI p) (V) (Sg) (W) (O) (g) (u), J, K, h))) := by
  have hn100 := X.2.1
  refine p_aload_n k144_0 rfl ?_
  refine p_getIv k144_1 (s_98 S) f_12_62_12 rfl ?_
  refine p_aload_n k144_4 rfl ?_
  refine p_getIv k144_5 (s_98 S) f_12_59_12 (show _ = nI n from X.1) ?_
  refine p_icmp_geN (tgt := 23) k144_8 (by decide) (by omega) (by omega) (fun cq8 => ?_) (fun cq8 => ?_)
  · skip
    refine p_iconst (v := (-1)) k144_23 (by decide) ?_
    refine p_ireturn k144_24 rt_144 ?_
    exact ⟨by unfold nx; first | rw [if_pos cq8] | rw [if_neg (Nat.not_lt.mpr cq8)], rfl⟩
  · skip
    refine p_aload_n k144_11 rfl ?_
    refine p_getRv k144_12 (s_98 S) f_12_68_12 (r_98_19 S) ?_
    refine p_aload_n k144_15 rfl ?_
    refine p_getIv k144_16 (s_98 S) f_12_62_12 rfl ?_
    refine p_ialdN k144_19 (s_110 S) (by omega) (by decide) (show _ = nI (c p) from X.2.2.2 p (by omega)) ?_
    refine p_goto (tgt := 24) k144_20 (by decide) ?_
    refine p_ireturn k144_24 rt_144 ?_
    exact ⟨by unfold nx; first | rw [if_pos cq8] | rw [if_neg (Nat.not_lt.mpr cq8)], rfl⟩

set_option maxRecDepth 100000 in
set_option maxHeartbeats 4000000 in
theorem M_takes {d : Nat} {I : Nat → Nat → Int32} {J : Nat → Nat → Int64} {K : Nat → Nat → Option Nat} {h : List xSh} (S : St K h) {c : Nat → Nat} {n p : Nat} {V Sg W O : Int32} {g u : Nat → Int32} (X : TX I c n) (hp : p ≤ 100) {k : Nat} (hk : k < 128) : EvP (d + 1) 145 0 [(0, .ref (98)), (1, .int (nI (k)))] [] (eI I (nI p) (V) (Sg) (W) (O) (g) (u), J, K, h) (QI (fun x t => x = bI (decide (c p = k)) ∧ t = (eI I (nI (if c p = k then p + 1 else p)) (V) (Sg) (W) (O) (g) (u), J, K, h))) := by
  have hn100 := X.2.1
  refine p_aload_n k145_0 rfl ?_
  refine p_cV0i k145_1 (s_98 S) c_12_269_12 (Nat.le_of_ble_eq_true rfl) (M_next S (p := p) X (by omega)) (fun x1 m1 hq => ?_)
  obtain ⟨rfl, rfl⟩ := hq
  refine p_iload_n k145_4 rfl ?_
  refine p_icmp_eq (tgt := 10) k145_5 (by decide) (fun cq5 => ?_) (fun cq5 => ?_)
  · skip
    refine p_aload_n k145_10 rfl ?_
    refine p_dup k145_11 rfl ?_
    refine p_getIv k145_12 (s_98 S) f_12_62_12 rfl ?_
    refine p_iconst (v := nI 1) k145_15 (by decide) ?_
    refine p_iaddN k145_16 ?_
    refine p_putIv k145_17 (s_98 S) g_12_62_12 n_145_12_17 ?_
    rw [e17]
    refine p_iconst (v := bI true) k145_20 (by decide) ?_
    refine p_returnB k145_21 rt_145 ?_
    exact ⟨by rw [decide_eq_true ((nx_eq X.2.2.1 hk).mp cq5)], by rw [if_pos ((nx_eq X.2.2.1 hk).mp cq5)]⟩
  · skip
    refine p_iconst (v := bI false) k145_8 (by decide) ?_
    refine p_returnB k145_9 rt_145 ?_
    exact ⟨by rw [decide_eq_false (fun z => cq5 ((nx_eq X.2.2.1 hk).mpr z))], by rw [if_neg (fun z => cq5 ((nx_eq X.2.2.1 hk).mpr z))]⟩

theorem pn1 {c : Nat → Nat} {n p k : Nat} (hc : CT c n) (hk : k < 128) (h : c p = k) : p < n := hc.lt (by omega)
/-- the words' letters -/
def ltrN (i : Nat) : Nat := [115, 117, 105, 116, 103, 97, 108, 108, 109, 111, 116, 104, 119, 111, 114, 107].getD i 0
def litR (f : Nat) : Nat → Nat → List Nat
  | 0, _ => [32]
  | j + 1, k => ltrN (f + k) :: litR f j (k + 1)
theorem ltr_lt {i : Nat} (hi : i < 16) : ltrN i < 128 := by
  have H : ∀ i : Fin 16, ltrN i.val < 128 := by decide
  exact H ⟨i, hi⟩
theorem pLit1 {c : Nat → Nat} {x p : Nat} : pLit c [x] p = (if c p = x then p + 1 else p, decide (c p = x)) := by
  show (if c p = x then (p + 1, true) else (p, false)) = _
  by_cases h : c p = x
  · rw [if_pos h, if_pos h, decide_eq_true h]
  · rw [if_neg h, if_neg h, decide_eq_false h]
set_option maxRecDepth 100000 in
set_option maxHeartbeats 4000000 in
theorem M_takesWord {d : Nat} {I : Nat → Nat → Int32} {J : Nat → Nat → Int64} {K : Nat → Nat → Option Nat} {h : List xSh} (S : St K h) {c : Nat → Nat} {n p0 : Nat} {V Sg W O : Int32} {g u : Nat → Int32} (X : TX I c n) (hp0 : p0 ≤ n) {f : Nat} (hf : f + 4 ≤ 16) (hL : ∀ i, i < 16 → I 119 i = nI (ltrN i)) : EvP (d + 2) 146 0 [(0, .ref (98)), (1, .int (nI (f))), (2, .int (nI (4)))] [] (eI I (nI p0) (V) (Sg) (W) (O) (g) (u), J, K, h) (QI (fun x t => x = bI (pLit c (litR f 4 0) p0).2 ∧ t = (eI I (nI (pLit c (litR f 4 0) p0).1) (V) (Sg) (W) (O) (g) (u), J, K, h))) := by
  have hn100 := X.2.1
  refine p_iconst (v := nI 0) k146_0 (by decide) ?_
  refine p_istore_n (ls' := [(0, _), (1, _), (2, _), (3, _)]) k146_1 rfl ?_
  have L : ∀ (j : Nat) (k p : Nat), k + j = 4 → p ≤ n → pLit c (litR f j k) p = pLit c (litR f 4 0) p0 → EvP (d + 2) 146 2 [(0, .ref (98)), (1, .int (nI (f))), (2, .int (nI (4))), (3, .int (nI (k)))] [] (eI I (nI p) (V) (Sg) (W) (O) (g) (u), J, K, h) (QI (fun x t => x = bI (pLit c (litR f 4 0) p0).2 ∧ t = (eI I (nI (pLit c (litR f 4 0) p0).1) (V) (Sg) (W) (O) (g) (u), J, K, h))) := by
    intro j
    induction j with
    | zero =>
      intro k p hk
      intro hpn hl
      refine p_iload_n k146_2 rfl ?_
      refine p_iload_n k146_3 rfl ?_
      refine p_icmp_geN (tgt := 30) k146_4 (by decide) (by omega) (by omega) (fun _ => ?_) (fun c => False.elim (by omega))
      refine p_aload_n k146_30 rfl ?_
      refine p_bipush (v := nI 32) k146_31 (by decide) ?_
      refine p_cV1i k146_33 (s_98 S) c_12_273_12 rfl (Nat.le_of_ble_eq_true rfl) (M_takes S (p := p) (k := 32) X (by omega) (by omega)) (fun x1 m1 hq => ?_)
      obtain ⟨rfl, rfl⟩ := hq
      refine p_returnB k146_36 rt_146 ?_
      exact ⟨by rw [← hl, show litR f 0 k = [32] from rfl, pLit1], by rw [← hl, show litR f 0 k = [32] from rfl, pLit1]⟩
    | succ j ih =>
      intro k p hk
      intro hpn hl
      refine p_iload_n k146_2 rfl ?_
      refine p_iload_n k146_3 rfl ?_
      refine p_icmp_geN (tgt := 30) k146_4 (by decide) (by omega) (by omega) (fun c => False.elim (by omega)) (fun _ => ?_)
      refine p_aload_n k146_7 rfl ?_
      refine p_aload_n k146_8 rfl ?_
      refine p_getRv k146_9 (s_98 S) f_12_104_12 (r_98_31 S) ?_
      refine p_iload_n k146_12 rfl ?_
      refine p_iload_n k146_13 rfl ?_
      refine p_iaddN k146_14 ?_
      refine p_ialdN k146_15 (s_119 S) (by omega) (by decide) (show _ = nI (ltrN (f + k)) from hL (f + k) (by omega)) ?_
      refine p_cV1i k146_16 (s_98 S) c_12_273_12 rfl (Nat.le_of_ble_eq_true rfl) (M_takes S (p := p) (k := ltrN (f + k)) X (by omega) (by exact ltr_lt (by omega))) (fun x1 m1 hq => ?_)
      obtain ⟨rfl, rfl⟩ := hq
      refine p_if_neB (tgt := 24) k146_19 (by decide) (fun cq19 => ?_) (fun cq19 => ?_)
      · skip
        refine p_iincN (ls1 := [(0, _), (1, _), (2, _), (3, _)]) k146_24 rfl rfl ?_
        refine p_goto (tgt := 2) k146_27 (by decide) ?_
        have cq19 := of_decide_eq_true cq19
        have hpn := pn1 X.2.2.1 (ltr_lt (by omega)) cq19
        rw [if_pos cq19]
        exact ih (k + 1) (p + 1) (by omega) (by omega) ((if_pos cq19).symm.trans hl)
      · skip
        refine p_iconst (v := bI false) k146_22 (by decide) ?_
        refine p_returnB k146_23 rt_146 ?_
        have cq19 := of_decide_eq_false cq19
        have hl2 : (p, false) = pLit c (litR f 4 0) p0 := (if_neg cq19).symm.trans hl
        exact ⟨by rw [← hl2], by rw [← hl2, if_neg cq19]⟩
  exact L 4 0 p0 (by omega) hp0 rfl

set_option maxRecDepth 100000 in
set_option maxHeartbeats 4000000 in
theorem M_isDigit {d : Nat} {I : Nat → Nat → Int32} {J : Nat → Nat → Int64} {K : Nat → Nat → Option Nat} {h : List xSh} (S : St K h) {c : Nat → Nat} {n p : Nat} {V Sg W O : Int32} {g u : Nat → Int32} (X : TX I c n) (hp : p ≤ 100)  : EvP (d + 1) 147 0 [(0, .ref (98))] [] (eI I (nI p) (V) (Sg) (W) (O) (g) (u), J, K, h) (QI (fun x t => x = bI (isD (c p)) ∧ t = (eI I (nI p) (V) (Sg) (W) (O) (g) (u), J, K, h))) := by
  have hn100 := X.2.1
  refine p_aload_n k147_0 rfl ?_
  refine p_aload_n k147_1 rfl ?_
  refine p_cV0i k147_2 (s_98 S) c_12_269_12 (Nat.le_of_ble_eq_true rfl) (M_next S (p := p) X (by omega)) (fun x1 m1 hq => ?_)
  obtain ⟨rfl, rfl⟩ := hq
  refine p_bipush (v := nI 48) k147_5 (by decide) ?_
  refine p_bipush (v := nI 57) k147_7 (by decide) ?_
  refine p_cV3i k147_9 (s_98 S) c_12_248_12 rfl rfl rfl (Nat.le_of_ble_eq_true rfl) (M_in S (nx c n p) (nI 48) (nI 57)) (fun x1 m1 hq => ?_)
  obtain ⟨rfl, rfl⟩ := hq
  rw [show inB (nx c n p) (nI 48) (nI 57) = isD (c p) from by rw [Bool.eq_iff_iff, nx_in X.2.2.1 (by omega) (by omega), isD_iff]]
  refine p_returnB k147_12 rt_147 ?_
  exact ⟨rfl, rfl⟩

set_option maxRecDepth 100000 in
set_option maxHeartbeats 4000000 in
theorem M_takesNumberN {d : Nat} {I : Nat → Nat → Int32} {J : Nat → Nat → Int64} {K : Nat → Nat → Option Nat} {h : List xSh} (S : St K h) {c : Nat → Nat} {n p : Nat} {V Sg W O : Int32} {g u : Nat → Int32} (X : TX I c n) (hp : p ≤ 100) (hN : isD (c p) = false) : EvP (d + 2) 148 0 [(0, .ref (98))] [] (eI I (nI p) (V) (Sg) (W) (O) (g) (u), J, K, h) (QI (fun x t => x = bI false ∧ t = (eI I (nI p) (V) (Sg) (W) (O) (g) (u), J, K, h))) := by
  have hn100 := X.2.1
  refine p_aload_n k148_0 rfl ?_
  refine p_cV0i k148_1 (s_98 S) c_12_276_12 (Nat.le_of_ble_eq_true rfl) (M_isDigit S (p := p) X (by omega)) (fun x1 m1 hq => ?_)
  obtain ⟨rfl, rfl⟩ := hq
  refine p_if_neB (tgt := 9) k148_4 (by decide) (fun c => False.elim (by rw [hN] at c; cases c)) (fun _ => ?_)
  refine p_iconst (v := bI false) k148_7 (by decide) ?_
  refine p_returnB k148_8 rt_148 ?_
  exact ⟨rfl, rfl⟩

theorem dg_add {d a : Nat} (h1 : 48 ≤ a) : nI (10 * d) + nI a - nI 48 = nI (10 * d + (a - 48)) := by
  rw [nI_add, pk_sub (by omega)]
  congr 1
  omega
theorem nx_lt {c : Nat → Nat} {n p : Nat} (h : p < n) : nx c n p = nI (c p) := if_pos h
set_option maxRecDepth 100000 in
set_option maxHeartbeats 4000000 in
theorem M_takesNumber {d : Nat} {I : Nat → Nat → Int32} {J : Nat → Nat → Int64} {K : Nat → Nat → Option Nat} {h : List xSh} (S : St K h) {c : Nat → Nat} {n p : Nat} {V Sg W O : Int32} {g u : Nat → Int32} (X : TX I c n) (hp : p ≤ 100) {q v : Nat} (hN : pNum c p = (q, some v)) : EvP (d + 2) 148 0 [(0, .ref (98))] [] (eI I (nI p) (V) (Sg) (W) (O) (g) (u), J, K, h) (QI (fun x t => x = bI true ∧ t = (eI I (nI q) (nI v) (Sg) (W) (O) (g) (u), J, K, h))) := by
  have hn100 := X.2.1
  have hD : isD (c p) = true := by
    cases e : isD (c p) with
    | true => rfl
    | false => unfold pNum at hN; rw [e, if_neg (by decide)] at hN; cases hN
  have hd1 := isD_iff.mp hD
  have hl1 := X.2.2.1.lt (p := p) (by omega)
  refine p_aload_n k148_0 rfl ?_
  refine p_cV0i k148_1 (s_98 S) c_12_276_12 (Nat.le_of_ble_eq_true rfl) (M_isDigit S (p := p) X (by omega)) (fun x1 m1 hq => ?_)
  obtain ⟨rfl, rfl⟩ := hq
  refine p_if_neB (tgt := 9) k148_4 (by decide) (fun _ => ?_) (fun c => False.elim (by rw [hD] at c; cases c))
  refine p_aload_n k148_9 rfl ?_
  refine p_iconst (v := nI 0) k148_10 (by decide) ?_
  refine p_putIv k148_11 (s_98 S) g_12_65_12 n_148_12_18 ?_
  rw [e18]
  refine p_iconst (v := nI 0) k148_14 (by decide) ?_
  refine p_istore_n (ls' := [(0, _), (1, _)]) k148_15 rfl ?_
  refine p_iload_n k148_16 rfl ?_
  refine p_iconst (v := nI 2) k148_17 (by decide) ?_
  refine p_icmp_geN (tgt := 63) k148_18 (by decide) (by omega) (by omega) (fun c => False.elim (by omega)) (fun _ => ?_)
  refine p_aload_n k148_21 rfl ?_
  refine p_cV0i k148_22 (s_98 S) c_12_276_12 (Nat.le_of_ble_eq_true rfl) (M_isDigit S (p := p) X (by omega)) (fun x1 m1 hq => ?_)
  obtain ⟨rfl, rfl⟩ := hq
  refine p_if_eqB (tgt := 63) k148_25 (by decide) (fun c => False.elim (by rw [hD] at c; cases c)) (fun _ => ?_)
  refine p_aload_n k148_28 rfl ?_
  refine p_bipush (v := nI 10) k148_29 (by decide) ?_
  refine p_aload_n k148_31 rfl ?_
  refine p_getIv k148_32 (s_98 S) f_12_65_12 rfl ?_
  refine p_imulN k148_35 ?_
  refine p_aload_n k148_36 rfl ?_
  refine p_cV0i k148_37 (s_98 S) c_12_269_12 (Nat.le_of_ble_eq_true rfl) (M_next S (p := p) X (by omega)) (fun x1 m1 hq => ?_)
  obtain ⟨rfl, rfl⟩ := hq
  rw [nx_lt (show p < n by omega)]
  refine p_iaddN k148_40 ?_
  refine p_bipush (v := nI 48) k148_41 (by decide) ?_
  refine p_isub k148_43 ?_
  refine p_toI (z := (nI (0 + (c p - 48)))) (by rw [show nI (10 * 0 + c p) - nI 48 = nI 0 + nI (c p) - nI 48 by rw [nI_add]]; exact dg_add (d := 0) (by omega)) ?_
  refine p_putIv k148_44 (s_98 S) g_12_65_12 n_148_12_18 ?_
  rw [e18]
  refine p_aload_n k148_47 rfl ?_
  refine p_dup k148_48 rfl ?_
  refine p_getIv k148_49 (s_98 S) f_12_62_12 rfl ?_
  refine p_iconst (v := nI 1) k148_52 (by decide) ?_
  refine p_iaddN k148_53 ?_
  refine p_putIv k148_54 (s_98 S) g_12_62_12 n_148_12_17 ?_
  rw [e17]
  refine p_iincN (ls1 := [(0, _), (1, _)]) k148_57 rfl rfl ?_
  refine p_goto (tgt := 16) k148_60 (by decide) ?_
  refine p_iload_n k148_16 rfl ?_
  refine p_iconst (v := nI 2) k148_17 (by decide) ?_
  refine p_icmp_geN (tgt := 63) k148_18 (by decide) (by omega) (by omega) (fun c => False.elim (by omega)) (fun _ => ?_)
  refine p_aload_n k148_21 rfl ?_
  refine p_cV0i k148_22 (s_98 S) c_12_276_12 (Nat.le_of_ble_eq_true rfl) (M_isDigit S (p := (p + 1)) X (by omega)) (fun x1 m1 hq => ?_)
  obtain ⟨rfl, rfl⟩ := hq
  refine p_if_eqB (tgt := 63) k148_25 (by decide) (fun cq25 => ?_) (fun cq25 => ?_)
  · skip
    refine p_iconst (v := bI true) k148_63 (by decide) ?_
    refine p_returnB k148_64 rt_148 ?_
    have hN2 : pNum c p = (p + 1, some (c p - 48)) := by unfold pNum; rw [if_pos hD, if_neg (by rw [cq25]; decide)]
    rw [hN] at hN2
    cases hN2
    exact ⟨rfl, by rw [Nat.zero_add]⟩
  · skip
    refine p_aload_n k148_28 rfl ?_
    refine p_bipush (v := nI 10) k148_29 (by decide) ?_
    refine p_aload_n k148_31 rfl ?_
    refine p_getIv k148_32 (s_98 S) f_12_65_12 rfl ?_
    refine p_imulN k148_35 ?_
    refine p_aload_n k148_36 rfl ?_
    refine p_cV0i k148_37 (s_98 S) c_12_269_12 (Nat.le_of_ble_eq_true rfl) (M_next S (p := (p + 1)) X (by omega)) (fun x1 m1 hq => ?_)
    obtain ⟨rfl, rfl⟩ := hq
    have hd2 := isD_iff.mp cq25
    have hl2 := X.2.2.1.lt (p := p + 1) (by omega)
    rw [nx_lt (show (p + 1) < n by omega)]
    refine p_iaddN k148_40 ?_
    refine p_bipush (v := nI 48) k148_41 (by decide) ?_
    refine p_isub k148_43 ?_
    refine p_toI (z := (nI (10 * (0 + (c p - 48)) + (c (p + 1) - 48)))) (by rw [show nI (10 * (0 + (c p - 48)) + c (p + 1)) - nI 48 = nI (10 * (0 + (c p - 48))) + nI (c (p + 1)) - nI 48 by rw [nI_add]]; exact dg_add (by omega)) ?_
    refine p_putIv k148_44 (s_98 S) g_12_65_12 n_148_12_18 ?_
    rw [e18]
    refine p_aload_n k148_47 rfl ?_
    refine p_dup k148_48 rfl ?_
    refine p_getIv k148_49 (s_98 S) f_12_62_12 rfl ?_
    refine p_iconst (v := nI 1) k148_52 (by decide) ?_
    refine p_iaddN k148_53 ?_
    refine p_putIv k148_54 (s_98 S) g_12_62_12 n_148_12_17 ?_
    rw [e17]
    refine p_iincN (ls1 := [(0, _), (1, _)]) k148_57 rfl rfl ?_
    refine p_goto (tgt := 16) k148_60 (by decide) ?_
    refine p_iload_n k148_16 rfl ?_
    refine p_iconst (v := nI 2) k148_17 (by decide) ?_
    refine p_icmp_geN (tgt := 63) k148_18 (by decide) (by omega) (by omega) (fun _ => ?_) (fun c => False.elim (by omega))
    refine p_iconst (v := bI true) k148_63 (by decide) ?_
    refine p_returnB k148_64 rt_148 ?_
    have hN2 : pNum c p = (p + 2, some (10 * (c p - 48) + (c (p + 1) - 48))) := by unfold pNum; rw [if_pos hD, if_pos cq25]
    rw [hN] at hN2
    cases hN2
    exact ⟨rfl, by rw [Nat.zero_add]⟩

