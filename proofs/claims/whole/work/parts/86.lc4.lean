/-! the law: class, then reference: act -/
theorem ss_len (k i : Nat) (v x : Int32) : (ssA k i v x).2.length ≤ 2 := by
  unfold ssA
  split <;> exact Nat.le_of_ble_eq_true rfl
theorem hd_len (k i : Nat) (v x : Int32) : (hdA k i v x).2.length ≤ 3 := Nat.succ_le_succ (ss_len k i v x)
theorem td_len (k i : Nat) (v x : Int32) : (tdA k i v x).2.length ≤ 4 := Nat.succ_le_succ (hd_len k i v x)
theorem da_len (k i : Nat) (v x : Int32) : (daA k i v x).2.length ≤ 5 := by
  unfold daA
  split
  · exact Nat.le_succ_of_le (td_len 1 i v x)
  · exact Nat.succ_le_succ (td_len 4 i v (x + nI 1))
  · show ((hdA 6 i v x).2 ++ [10]).length + 1 ≤ 5
    rw [List.length_append]
    have := hd_len 6 i v x
    show _ + 1 + 1 ≤ 5
    omega
  · have := hd_len k i v x
    omega
theorem ht_len (k i : Nat) (v x : Int32) : (htA k i v x).2.length ≤ 6 := Nat.succ_le_succ (da_len k i v x)
theorem ta_len (k i : Nat) (v x : Int32) : (taA k i v x).2.length ≤ 12 := by
  unfold taA
  split
  · show ((htA 3 i v x).2 ++ (daA 3 i v (nI 1)).2).length + 1 ≤ 12
    rw [List.length_append]
    have := ht_len 3 i v x
    have := da_len 3 i v (nI 1)
    omega
  · have := ht_len 5 i v (x - nI i)
    show (htA 5 i v (x - nI i)).2.length + 1 ≤ 12
    omega
  · show ((htA 6 i v x).2 ++ (daA 6 i v (nI 1)).2).length + 1 ≤ 12
    rw [List.length_append]
    have := ht_len 6 i v x
    have := da_len 6 i v (nI 1)
    omega
  · have := ht_len k i v x
    omega
theorem act_len (w : Int32) (k i : Nat) (v x : Int32) : (actA w k i v x).2.length ≤ 12 := by
  unfold actA
  split
  · have := ss_len k i v x; omega
  · split
    · have := da_len k i v x; omega
    · exact ta_len k i v x
theorem nts_c (L : List Nat) : ∀ (P B : Nat → Nat → Int32) (r : Nat), (∀ c, 98 ≤ c → P c = B c) → ∀ c, 98 ≤ c → nts P r L c = nts B r L c := by
  induction L with
  | nil => intro P B r e; exact e
  | cons b L ih =>
    intro P B r e
    refine ih (nt1 P r b) (nt1 B r b) (r + 1) (fun c hc => ?_)
    have e148 := e 148 (by decide)
    have e98 := e 98 (by decide)
    unfold nt1
    simp only [upc, e148, e98, e c hc]
theorem act_j {I I1 : Nat → Nat → Int32} {na : Nat} {v w x : Int32} (e : ∀ c, 98 ≤ c → I1 c = I c) : (actM I1 na v w x).1 = (actM I na v w x).1 ∧ (∀ c, 98 ≤ c → (actM I1 na v w x).2 c = (actM I na v w x).2 c) ∧ (∀ c, c ≠ 98 → c ≠ 148 → (actM I1 na v w x).2 c = I1 c) ∧ (∀ k, k ≠ 72 → (actM I na v w x).2 98 k = I 98 k) ∧ (∀ c, c ≠ 98 → c ≠ 148 → (actM I na v w x).2 c = I c) ∧ ∃ r, r < 100 ∧ (actM I na v w x).2 98 72 = nI r := by
  have e102 := e 102 (by decide)
  have e103 := e 103 (by decide)
  have e98 := e 98 (by decide)
  have es : ∀ c, 98 ≤ c → s1 I1 98 72 (nI 0) c = s1 I 98 72 (nI 0) c := by
    intro c hc
    unfold s1
    simp only [upc, e98, e c hc]
  unfold actM
  by_cases q1 : ixB v na = false ∨ inB w (nI 0) (nI 2) = false
  · rw [if_pos q1, if_pos q1]
    exact ⟨rfl, es, fun c a b => s1_o a, fun k hk => (show s1 I 98 72 (nI 0) 98 k = I 98 k from s1_k hk), fun c a b => s1_o a, 0, by decide, (show s1 I 98 72 (nI 0) 98 72 = nI 0 from s1_e)⟩
  · rw [if_neg q1, if_neg q1, e102, e103]
    have hl := act_len w (I 102 v.toNatClampNeg).toNatClampNeg v.toNatClampNeg (I 103 v.toNatClampNeg) x
    refine ⟨rfl, nts_c _ _ _ 0 es, fun c a b => (nts_at _ _ 0 c a b).trans (s1_o a), fun k hk => (nts_98 _ _ 0 k hk).trans (s1_k hk), fun c a b => (nts_at _ _ 0 c a b).trans (s1_o a), _, ?_, nts_72 _ _ 0 s1_e⟩
    omega
theorem LC_act {d : Nat} {I : Nat → Nat → Int32} {J : Nat → Nat → Int64} {K : Nat → Nat → Option Nat} {h : List xSh} {N n : Nat} {sc : Nat → Int32} (H : INV I J K h N) (hsc : I 1000000 = sc) (hn : I 1000001 0 = nI n) (v : Int32) (w : Int32) (z : Int32) : EvP (d + 20) 93 0 [(0, .ref 0), (1, .int v), (2, .int w), (3, .int z)] [] (I, J, K, h) (QI (fun x t => MID (N + 1) sc n 223 [(0, .ref 98), (1, .int v), (2, .int w), (3, .int z)] x t)) := by
  have H0 := H
  have HD0 := H.2.2.1
  obtain ⟨⟨S, hN⟩, ⟨nh, na, dd, cb, ce, tw, sn, bn, V, C, htw, hkp⟩, ⟨⟨cq9, fd, X9⟩, ⟨hA4, hA27⟩, hLT, ⟨hT1, hT2, r9, hr9, hT3⟩, hTP, hTI⟩, k5, k18⟩ := H
  have M := V.1
  have Q := V.2.1
  have hD := AR.db M Q V.2.2.1
  have hmu := Q.mu
  have hd9 := Q.dd9
  obtain ⟨hsn, hs6⟩ := V.2.2.2.1
  obtain ⟨hbn, hb8⟩ := V.2.2.2.2.1
  have hbk := V.2.2.2.2.2
  refine EvP.mono (C_act (d := d + 12) S C M Q hT2 v w z) (fun r t hq => ?_)
  obtain ⟨x, rfl, hx, I1, rfl, g1, g2, g3⟩ := hq
  have e : ∀ c, 98 ≤ c → I1 c = I c := fun c hc => g3 c (by omega) (by omega)
  obtain ⟨j1, j2, j3, j4, j5, j6⟩ := act_j (I := I) (I1 := I1) (na := na) (v := v) (w := w) (x := z) e
  refine ⟨_, rfl, I1, J, K, h, rfl, S, ⟨by rw [e 1000000 (by decide)]; exact hsc, by rw [e 1000001 (by decide)]; exact hn⟩, fun d2 => ?_⟩
  refine EvP.mono (M_act (d := d2 + 12) S (hi_mi (c_hi e) M) v w z) (fun r t hq => ?_)
  obtain ⟨y, rfl, hy, rfl⟩ := hq
  have F : ∀ c, c ≠ 36 → c ≠ 37 → c ≠ 98 → c ≠ 148 → (actM I1 na v w z).2 c = I c := fun c a b d3 d4 => (j3 c d3 d4).trans (g3 c a b)
  have f98 : ∀ k, k ≠ 72 → (actM I1 na v w z).2 98 k = I 98 k := fun k hk => (congrFun (j2 98 (by decide)) k).trans (j4 k hk)
  refine ⟨_, rfl, hy.trans (j1.trans hx.symm), _, _, K, h, rfl, (INV.side H0 (fun c a b _ d3 d4 _ d5 _ _ _ => F c d3 d4 b d5) (fun k hk => congrFun (F 0 (by decide) (by decide) (by decide) (by decide)) k) (fun k _ hk => f98 k hk) ?_).mono (Nat.le_succ N), by rw [F 1000000 (by decide) (by decide) (by decide) (by decide)]; exact hsc, by rw [F 1000001 (by decide) (by decide) (by decide) (by decide)]; exact hn⟩
  refine ⟨⟨cq9, fd, ?_⟩, ⟨?_, ?_⟩, fun i hi => by rw [F 119 (by decide) (by decide) (by decide) (by decide)]; exact hLT i hi, ⟨?_, ?_, ?_⟩, fun u hu => ?_, ?_⟩
  · unfold TX at X9 ⊢
    rw [f98 16 (by decide), F 110 (by decide) (by decide) (by decide) (by decide)]
    exact X9
  · rw [congrFun (F 0 (by decide) (by decide) (by decide) (by decide)) 4, f98 16 (by decide)]
    exact hA4
  · rw [F 27 (by decide) (by decide) (by decide) (by decide), F 110 (by decide) (by decide) (by decide) (by decide)]
    exact hA27
  · rw [congrFun (j3 36 (by decide) (by decide)) 1, g1, j2 98 (by decide)]
  · rw [j3 37 (by decide) (by decide), g2, j2 148 (by decide)]
  · rw [j2 98 (by decide)]; exact j6
  · rw [F (51 + 9 * u) (by omega) (by omega) (by omega) (by omega), F 149 (by decide) (by decide) (by decide) (by decide), F 150 (by decide) (by decide) (by decide) (by decide)]
    exact hTP u hu
  · unfold TPI TP at hTI ⊢
    rw [F 149 (by decide) (by decide) (by decide) (by decide), F 150 (by decide) (by decide) (by decide) (by decide)]
    exact hTI
