/-! the law: class, then reference: judge, read, tapes, feed -/
theorem LC_judge {d : Nat} {I : Nat → Nat → Int32} {J : Nat → Nat → Int64} {K : Nat → Nat → Option Nat} {h : List xSh} {N n : Nat} {sc : Nat → Int32} (H : INV I J K h N) (hsc : I 1000000 = sc) (hn : I 1000001 0 = nI n) (v : Int32) (w : Int32) : EvP (d + 20) 90 0 [(0, .ref 0), (1, .int v), (2, .int w)] [] (I, J, K, h) (QI (fun x t => MID (N + 1) sc n 212 [(0, .ref 98), (1, .int v), (2, .int w)] x t)) := by
  have H0 := H
  have HD0 := H.2.2.1
  obtain ⟨⟨S, hN⟩, ⟨nh, na, dd, cb, ce, tw, sn, bn, V, C, htw, hkp⟩, ⟨⟨cq9, fd, X9⟩, ⟨hA4, hA27⟩, hLT, ⟨hT1, hT2, r9, hr9, hT3⟩, hTP, hTI⟩, k5, k18⟩ := H
  have M := V.1
  have Q := V.2.1
  have hD := AR.db M Q V.2.2.1
  have hmu := Q.mu
  have hd9 := Q.dd9
  obtain ⟨hsn, hs6⟩ := V.2.2.2.1
  obtain ⟨hbn, hb8⟩ := V.2.2.2.2.1
  have hbk := V.2.2.2.2.2
  refine EvP.mono (C_judge (d := d + 18) S C M Q (JR := J) hTP hTI v w) (fun r t hq => ?_)
  obtain ⟨x, rfl, hx, rfl⟩ := hq
  refine ⟨_, rfl, I, J, K, h, rfl, S, ⟨hsc, hn⟩, fun d2 => ?_⟩
  refine EvP.mono (M_judge (d := d2 + 18) S M hTI.1 v w) (fun r t hq => ?_)
  obtain ⟨y, rfl, hy, rfl⟩ := hq
  exact ⟨_, rfl, hy.trans hx.symm, I, J, K, h, rfl, H0.mono (Nat.le_succ N), hsc, hn⟩
theorem LC_read {d : Nat} {I : Nat → Nat → Int32} {J : Nat → Nat → Int64} {K : Nat → Nat → Option Nat} {h : List xSh} {N n : Nat} {sc : Nat → Int32} (H : INV I J K h N) (hsc : I 1000000 = sc) (hn : I 1000001 0 = nI n) (v : Int32) (w : Int32) : EvP (d + 20) 99 0 [(0, .ref 0), (1, .int v), (2, .int w)] [] (I, J, K, h) (QL (fun x t => MIDL (N + 1) sc n 231 [(0, .ref 98), (1, .int v), (2, .int w)] x t)) := by
  have H0 := H
  have HD0 := H.2.2.1
  obtain ⟨⟨S, hN⟩, ⟨nh, na, dd, cb, ce, tw, sn, bn, V, C, htw, hkp⟩, ⟨⟨cq9, fd, X9⟩, ⟨hA4, hA27⟩, hLT, ⟨hT1, hT2, r9, hr9, hT3⟩, hTP, hTI⟩, k5, k18⟩ := H
  have M := V.1
  have Q := V.2.1
  have hD := AR.db M Q V.2.2.1
  have hmu := Q.mu
  have hd9 := Q.dd9
  obtain ⟨hsn, hs6⟩ := V.2.2.2.1
  obtain ⟨hbn, hb8⟩ := V.2.2.2.2.1
  have hbk := V.2.2.2.2.2
  refine EvP.mono (C_read (d := d + 18) S (R0 := I) (JR := J) hTP hTI v w) (fun r t hq => ?_)
  obtain ⟨x, rfl, hx, rfl⟩ := hq
  refine ⟨_, rfl, I, J, K, h, rfl, S, ⟨hsc, hn⟩, fun d2 => ?_⟩
  refine EvP.mono (M_read (d := d2 + 18) S hTI.1 v w) (fun r t hq => ?_)
  obtain ⟨y, rfl, hy, rfl⟩ := hq
  exact ⟨_, rfl, hy.trans hx.symm, I, J, K, h, rfl, H0.mono (Nat.le_succ N), hsc, hn⟩
theorem item_j {I : Nat → Nat → Int32} {J J2 : Nat → Nat → Int64} {v w : Int32} {z : Int64} (e : J2 151 = J 151) : (itemM I J2 v w z).1 = (itemM I J v w z).1 ∧ (itemM I J2 v w z).2 151 = (itemM I J v w z).2 151 ∧ ∀ c, c ≠ 151 → (itemM I J2 v w z).2 c = J2 c := by
  unfold itemM
  by_cases q1 : ixB v 6 = false
  · rw [if_pos q1, if_pos q1]; exact ⟨rfl, e, fun _ _ => rfl⟩
  · rw [if_neg q1, if_neg q1]
    by_cases q2 : ¬ 0 ≤ I 149 v.toNatClampNeg
    · rw [if_pos q2, if_pos q2]; exact ⟨rfl, e, fun _ _ => rfl⟩
    · rw [if_neg q2, if_neg q2]
      by_cases q3 : inB w (nI 0) (I 150 v.toNatClampNeg - nI 1) = false
      · rw [if_pos q3, if_pos q3]; exact ⟨rfl, e, fun _ _ => rfl⟩
      · rw [if_neg q3, if_neg q3]
        refine ⟨rfl, ?_, fun c hc => upc_ne _ _ hc⟩
        simp only [upc_eq, e]
theorem shf_j {I : Nat → Nat → Int32} {J J2 : Nat → Nat → Int64} {v w v2 w2 n : Int32} (e : J2 151 = J 151) : (shfM I J2 v w v2 w2 n).1 = (shfM I J v w v2 w2 n).1 ∧ (shfM I J2 v w v2 w2 n).2 151 = (shfM I J v w v2 w2 n).2 151 ∧ ∀ c, c ≠ 151 → (shfM I J2 v w v2 w2 n).2 c = J2 c := by
  unfold shfM
  by_cases q1 : ixB v 6 = false ∨ ixB v2 6 = false
  · rw [if_pos q1, if_pos q1]; exact ⟨rfl, e, fun _ _ => rfl⟩
  · rw [if_neg q1, if_neg q1]
    by_cases q2 : I 149 v.toNatClampNeg < 0 ∨ ¬ 0 ≤ I 149 v2.toNatClampNeg
    · rw [if_pos q2, if_pos q2]; exact ⟨rfl, e, fun _ _ => rfl⟩
    · rw [if_neg q2, if_neg q2]
      by_cases q3 : ¬ I 149 v.toNatClampNeg = I 149 v2.toNatClampNeg
      · rw [if_pos q3, if_pos q3]; exact ⟨rfl, e, fun _ _ => rfl⟩
      · rw [if_neg q3, if_neg q3]
        by_cases q4 : n < 0 ∨ w < 0 ∨ w2 < 0 ∨ I 150 v.toNatClampNeg - n < w ∨ ¬ w2 ≤ I 150 v2.toNatClampNeg - n
        · rw [if_pos q4, if_pos q4]; exact ⟨rfl, e, fun _ _ => rfl⟩
        · rw [if_neg q4, if_neg q4]
          refine ⟨rfl, ?_, fun c hc => upc_ne _ _ hc⟩
          simp only [upc_eq, e]
/-- new items on the tapes of both -/
theorem INV.tap {I : Nat → Nat → Int32} {J J2 J3 : Nat → Nat → Int64} {K : Nat → Nat → Option Nat} {h : List xSh} {N : Nat} {JT : Nat → Int64} (H : INV I J K h N) (T : TPR I J2 I JT) (e : J3 151 = JT) (f : ∀ c, c < 151 → J3 c = J2 c) : INV I J3 K h N := by
  obtain ⟨HS, HC, ⟨X, a, L, t, T0, TI⟩, k5, k18⟩ := H
  refine ⟨HS, HC, ⟨X, a, L, t, fun u hu => ?_, TI⟩, k5, k18⟩
  rw [f (52 + 9 * u) (by omega), e]
  exact T u hu
theorem LC_item {d : Nat} {I : Nat → Nat → Int32} {J : Nat → Nat → Int64} {K : Nat → Nat → Option Nat} {h : List xSh} {N n : Nat} {sc : Nat → Int32} (H : INV I J K h N) (hsc : I 1000000 = sc) (hn : I 1000001 0 = nI n) (v : Int32) (w : Int32) (z : Int64) : EvP (d + 20) 98 0 [(0, .ref 0), (1, .int v), (2, .int w), (3, .long z)] [] (I, J, K, h) (QI (fun x t => MID (N + 1) sc n 230 [(0, .ref 98), (1, .int v), (2, .int w), (3, .long z)] x t)) := by
  have H0 := H
  have HD0 := H.2.2.1
  obtain ⟨⟨S, hN⟩, ⟨nh, na, dd, cb, ce, tw, sn, bn, V, C, htw, hkp⟩, ⟨⟨cq9, fd, X9⟩, ⟨hA4, hA27⟩, hLT, ⟨hT1, hT2, r9, hr9, hT3⟩, hTP, hTI⟩, k5, k18⟩ := H
  have M := V.1
  have Q := V.2.1
  have hD := AR.db M Q V.2.2.1
  have hmu := Q.mu
  have hd9 := Q.dd9
  obtain ⟨hsn, hs6⟩ := V.2.2.2.1
  obtain ⟨hbn, hb8⟩ := V.2.2.2.2.1
  have hbk := V.2.2.2.2.2
  refine EvP.mono (C_item (d := d + 18) S (R0 := I) (JR := J) hTP hTI v w z) (fun r t hq => ?_)
  obtain ⟨x, rfl, hx, J2, rfl, T, G⟩ := hq
  obtain ⟨j1, j2, j3⟩ := item_j (I := I) (v := v) (w := w) (z := z) (G.2 151 (fun t ht => by omega))
  refine ⟨_, rfl, I, J2, K, h, rfl, S, ⟨hsc, hn⟩, fun d2 => ?_⟩
  refine EvP.mono (M_item (d := d2 + 18) S hTI.1 v w z) (fun r t hq => ?_)
  obtain ⟨y, rfl, hy, rfl⟩ := hq
  exact ⟨_, rfl, hy.trans (j1.trans hx.symm), I, _, K, h, rfl, (H0.tap T j2 (fun c hc => j3 c (by omega))).mono (Nat.le_succ N), hsc, hn⟩
theorem LC_shift {d : Nat} {I : Nat → Nat → Int32} {J : Nat → Nat → Int64} {K : Nat → Nat → Option Nat} {h : List xSh} {N n : Nat} {sc : Nat → Int32} (H : INV I J K h N) (hsc : I 1000000 = sc) (hn : I 1000001 0 = nI n) (v : Int32) (w : Int32) (v2 : Int32) (w2 : Int32) (z : Int32) : EvP (d + 20) 100 0 [(0, .ref 0), (1, .int v), (2, .int w), (3, .int v2), (4, .int w2), (5, .int z)] [] (I, J, K, h) (QI (fun x t => MID (N + 1) sc n 232 [(0, .ref 98), (1, .int v), (2, .int w), (3, .int v2), (4, .int w2), (5, .int z)] x t)) := by
  have H0 := H
  have HD0 := H.2.2.1
  obtain ⟨⟨S, hN⟩, ⟨nh, na, dd, cb, ce, tw, sn, bn, V, C, htw, hkp⟩, ⟨⟨cq9, fd, X9⟩, ⟨hA4, hA27⟩, hLT, ⟨hT1, hT2, r9, hr9, hT3⟩, hTP, hTI⟩, k5, k18⟩ := H
  have M := V.1
  have Q := V.2.1
  have hD := AR.db M Q V.2.2.1
  have hmu := Q.mu
  have hd9 := Q.dd9
  obtain ⟨hsn, hs6⟩ := V.2.2.2.1
  obtain ⟨hbn, hb8⟩ := V.2.2.2.2.1
  have hbk := V.2.2.2.2.2
  refine EvP.mono (C_shift (d := d + 18) S (R0 := I) (JR := J) hTP hTI v w v2 w2 z) (fun r t hq => ?_)
  obtain ⟨x, rfl, hx, J2, rfl, T, G⟩ := hq
  obtain ⟨j1, j2, j3⟩ := shf_j (I := I) (v := v) (w := w) (v2 := v2) (w2 := w2) (n := z) (G.2 151 (fun t ht => by omega))
  refine ⟨_, rfl, I, J2, K, h, rfl, S, ⟨hsc, hn⟩, fun d2 => ?_⟩
  refine EvP.mono (M_shift (d := d2 + 18) S hTI.1 v w v2 w2 z) (fun r t hq => ?_)
  obtain ⟨y, rfl, hy, g, rfl⟩ := hq
  exact ⟨_, rfl, hy.trans (j1.trans hx.symm), I, _, K, h, rfl, (H0.tap T ((upc_ne _ _ (by decide)).trans j2) (fun c hc => (upc_ne _ _ (by omega)).trans (j3 c (by omega)))).mono (Nat.le_succ N), hsc, hn⟩
theorem tape_j {I I1 : Nat → Nat → Int32} {J J1 : Nat → Nat → Int64} {v w z : Int32} (e : J1 151 = J 151) (i1 : I1 149 = I 149) (i2 : I1 150 = I 150) (TI : TPI I) : (tapeM I1 J1 v w z).1 = (tapeM I J v w z).1 ∧ (tapeM I1 J1 v w z).2.2 151 = (tapeM I J v w z).2.2 151 ∧ (∀ c, c ≠ 151 → (tapeM I1 J1 v w z).2.2 c = J1 c) ∧ (∀ c, c ≠ 149 → c ≠ 150 → (tapeM I1 J1 v w z).2.1 c = I1 c) ∧ (tapeM I1 J1 v w z).2.1 149 = (tapeM I J v w z).2.1 149 ∧ (tapeM I1 J1 v w z).2.1 150 = (tapeM I J v w z).2.1 150 ∧ TPI (tapeM I J v w z).2.1 := by
  unfold tapeM
  by_cases q1 : ixB v 6 = false
  · rw [if_pos q1, if_pos q1]; exact ⟨rfl, e, fun _ _ => rfl, fun _ _ _ => rfl, i1, i2, TI⟩
  · rw [if_neg q1, if_neg q1]
    by_cases q2 : inB w (-1) (nI 4) = false ∨ (¬ w < 0 ∧ ¬ z ≤ nI 60)
    · rw [if_pos q2, if_pos q2]; exact ⟨rfl, e, fun _ _ => rfl, fun _ _ _ => rfl, i1, i2, TI⟩
    · rw [if_neg q2, if_neg q2]
      by_cases q3 : ¬ w < 0 ∧ ¬ 0 ≤ z
      · rw [if_pos q3, if_pos q3]; exact ⟨rfl, e, fun _ _ => rfl, fun _ _ _ => rfl, i1, i2, TI⟩
      · rw [if_neg q3, if_neg q3]
        have w1 : inB w (-1) (nI 4) = true := by
          cases y : inB w (-1) (nI 4)
          · exact absurd (Or.inl y) q2
          · rfl
        refine ⟨rfl, ?_, fun c hc => upc_ne _ _ hc, fun c a b => (s1_o b).trans (s1_o a), ?_, ?_, ?_⟩
        · simp only [upc_eq, e]
        · show upc (I1 149) _ _ = upc (I 149) _ _
          rw [i1]
        · show upc (I1 150) _ _ = upc (I 150) _ _
          rw [i2]
        · have hw : w = -1 ∨ ∃ s, s < 5 ∧ w = nI s := by
            by_cases y : w < 0
            · exact Or.inl (n1_lt0 (of_decide_eq_true w1).1 y)
            · right
              have h2 := (of_decide_eq_true w1).2
              rw [i_lt] at y
              rw [i_le, nI_t (by decide)] at h2
              have h0 : (0 : Int32).toInt = 0 := rfl
              refine ⟨w.toInt.toNat, by omega, ?_⟩
              rw [i_eq, nI_t (by omega)]
              omega
          have hz : ∃ m, m ≤ 60 ∧ (if w < 0 then nI 0 else z) = nI m := by
            by_cases y : w < 0
            · rw [if_pos y]; exact ⟨0, by decide, rfl⟩
            · rw [if_neg y]
              have z1 : z ≤ nI 60 := Decidable.of_not_not (fun z2 => q2 (Or.inr ⟨y, z2⟩))
              have z2 : 0 ≤ z := Decidable.of_not_not (fun z2 => q3 ⟨y, z2⟩)
              rw [i_le, nI_t (by decide)] at z1
              rw [i_le] at z2
              have h0 : (0 : Int32).toInt = 0 := rfl
              refine ⟨z.toInt.toNat, by omega, ?_⟩
              rw [i_eq, nI_t (by omega)]
              omega
          constructor
          · intro t ht
            show (upc (I 149) v.toNatClampNeg w t = -1 ∨ ∃ s, s < 5 ∧ upc (I 149) v.toNatClampNeg w t = nI s) ∧ ∃ n, n ≤ 60 ∧ upc (I 150) v.toNatClampNeg (if w < 0 then nI 0 else z) t = nI n
            by_cases y : t = v.toNatClampNeg
            · rw [y, upc_eq, upc_eq]; exact ⟨hw, hz⟩
            · rw [upc_ne _ _ y, upc_ne _ _ y]; exact TI.1 t ht
          · intro t ht
            show upc (I 149) v.toNatClampNeg w t = -1 → upc (I 150) v.toNatClampNeg (if w < 0 then nI 0 else z) t = nI 0
            by_cases y : t = v.toNatClampNeg
            · rw [y, upc_eq, upc_eq]
              intro y2
              rw [y2, if_pos (by decide)]
            · rw [upc_ne _ _ y, upc_ne _ _ y]; exact TI.2 t ht
theorem LC_tape {d : Nat} {I : Nat → Nat → Int32} {J : Nat → Nat → Int64} {K : Nat → Nat → Option Nat} {h : List xSh} {N n : Nat} {sc : Nat → Int32} (H : INV I J K h N) (hsc : I 1000000 = sc) (hn : I 1000001 0 = nI n) (v : Int32) (w : Int32) (z : Int32) : EvP (d + 20) 97 0 [(0, .ref 0), (1, .int v), (2, .int w), (3, .int z)] [] (I, J, K, h) (QI (fun x t => MID (N + 1) sc n 228 [(0, .ref 98), (1, .int v), (2, .int w), (3, .int z)] x t)) := by
  have H0 := H
  have HD0 := H.2.2.1
  obtain ⟨⟨S, hN⟩, ⟨nh, na, dd, cb, ce, tw, sn, bn, V, C, htw, hkp⟩, ⟨⟨cq9, fd, X9⟩, ⟨hA4, hA27⟩, hLT, ⟨hT1, hT2, r9, hr9, hT3⟩, hTP, hTI⟩, k5, k18⟩ := H
  have M := V.1
  have Q := V.2.1
  have hD := AR.db M Q V.2.2.1
  have hmu := Q.mu
  have hd9 := Q.dd9
  obtain ⟨hsn, hs6⟩ := V.2.2.2.1
  obtain ⟨hbn, hb8⟩ := V.2.2.2.2.1
  have hbk := V.2.2.2.2.2
  refine EvP.mono (C_tape (d := d + 18) S (R0 := I) (JR := J) hTP hTI v w z) (fun r t hq => ?_)
  obtain ⟨x, rfl, hx, I1, J1, rfl, T, G⟩ := hq
  obtain ⟨j1, j2, j3, j4, j5, j6, j7⟩ := tape_j (v := v) (w := w) (z := z) (G.2 151 (fun t ht => by omega)) (G.1 149 (fun t ht => by omega)) (G.1 150 (fun t ht => by omega)) hTI
  refine ⟨_, rfl, I1, J1, K, h, rfl, S, ⟨by rw [G.1 1000000 (fun t ht => by omega)]; exact hsc, by rw [G.1 1000001 (fun t ht => by omega)]; exact hn⟩, fun d2 => ?_⟩
  refine EvP.mono (M_tape (d := d2 + 18) S v w z) (fun r t hq => ?_)
  obtain ⟨y, rfl, hy, rfl⟩ := hq
  have F : ∀ c, c ≠ 149 → c ≠ 150 → (∀ t, t < 6 → c ≠ 51 + 9 * t) → (tapeM I1 J1 v w z).2.1 c = I c := fun c a b e => (j4 c a b).trans (G.1 c e)
  refine ⟨_, rfl, hy.trans (j1.trans hx.symm), _, _, K, h, rfl, (INV.side H0 (fun c _ _ _ _ _ _ _ a b e => F c a b e) (fun k _ => congrFun (F 0 (by decide) (by decide) (fun t ht => by omega)) k) (fun k _ _ => congrFun (F 98 (by decide) (by decide) (fun t ht => by omega)) k) ?_).mono (Nat.le_succ N), by rw [F 1000000 (by decide) (by decide) (fun t ht => by omega)]; exact hsc, by rw [F 1000001 (by decide) (by decide) (fun t ht => by omega)]; exact hn⟩
  obtain ⟨⟨c, fd, X⟩, ⟨a1, a2⟩, L, ⟨t1, t2, t3⟩, _, _⟩ := HD0
  have F0 := F 0 (by decide) (by decide) (fun t ht => by omega)
  have F98 := F 98 (by decide) (by decide) (fun t ht => by omega)
  have F110 := F 110 (by decide) (by decide) (fun t ht => by omega)
  refine ⟨⟨c, fd, ?_⟩, ⟨by rw [F0, F98]; exact a1, by rw [F 27 (by decide) (by decide) (fun t ht => by omega), F110]; exact a2⟩, fun i hi => by rw [F 119 (by decide) (by decide) (fun t ht => by omega)]; exact L i hi, ⟨by rw [F 36 (by decide) (by decide) (fun t ht => by omega), F98]; exact t1, by rw [F 37 (by decide) (by decide) (fun t ht => by omega), F 148 (by decide) (by decide) (fun t ht => by omega)]; exact t2, by rw [F98]; exact t3⟩, fun u hu => ?_, ?_⟩
  · unfold TX at X ⊢
    rw [F98, F110]
    exact X
  · obtain ⟨u1, u2, u3⟩ := T u hu
    rw [j4 (51 + 9 * u) (by omega) (by omega), j5, j6, j3 (52 + 9 * u) (by omega), j2]
    exact ⟨u1, u2, u3⟩
  · unfold TPI TP at j7 ⊢
    rw [j5, j6]
    exact j7
theorem feed_j {I I1 : Nat → Nat → Int32} {fd : Nat} {v : Int32} (e : ∀ c, 98 ≤ c → I1 c = I c) : (feedM I1 fd v).1 = (feedM I fd v).1 ∧ (∀ c, 98 ≤ c → (feedM I1 fd v).2 c = (feedM I fd v).2 c) ∧ (∀ c, c ≠ 98 → c ≠ 110 → (feedM I1 fd v).2 c = I1 c) ∧ (∀ k, k ≠ 16 → (feedM I fd v).2 98 k = I 98 k) ∧ ∀ c, c ≠ 98 → c ≠ 110 → (feedM I fd v).2 c = I c := by
  unfold feedM
  by_cases q1 : inB v (nI 0) (nI 127) = false
  · rw [if_pos q1, if_pos q1]; exact ⟨rfl, e, fun _ _ _ => rfl, fun _ _ => rfl, fun _ _ _ => rfl⟩
  · rw [if_neg q1, if_neg q1]
    by_cases q2 : fd = 100
    · rw [if_pos q2, if_pos q2]; exact ⟨rfl, e, fun _ _ _ => rfl, fun _ _ => rfl, fun _ _ _ => rfl⟩
    · rw [if_neg q2, if_neg q2]
      refine ⟨rfl, fun c hc => ?_, fun c a b => (s1_o a).trans (s1_o b), fun k hk => (show s1 (s1 I 110 fd v) 98 16 (nI (fd + 1)) 98 k = I 98 k from (s1_k hk).trans rfl), fun c a b => (s1_o a).trans (s1_o b)⟩
      have e110 := e 110 (by decide)
      have e98 := e 98 (by decide)
      show s1 (s1 I1 110 fd v) 98 16 (nI (fd + 1)) c = s1 (s1 I 110 fd v) 98 16 (nI (fd + 1)) c
      unfold s1
      simp only [upc, e110, e98, e c hc]
theorem TX.feed {I : Nat → Nat → Int32} {c : Nat → Nat} {fd : Nat} {v : Int32} (X : TX I c fd) : ∃ cq2 fd2, TX (feedM I fd v).2 cq2 fd2 := by
  unfold feedM
  by_cases q1 : inB v (nI 0) (nI 127) = false
  · rw [if_pos q1]; exact ⟨c, fd, X⟩
  · rw [if_neg q1]
    by_cases q2 : fd = 100
    · rw [if_pos q2]; exact ⟨c, fd, X⟩
    · rw [if_neg q2]
      obtain ⟨y, hy, rfl⟩ := inB_of0 (m := 127) (by decide) (by cases z : inB v (nI 0) (nI 127); exact absurd z q1; rfl)
      obtain ⟨x1, x2, x3, x4⟩ := X
      refine ⟨fun p => if p < fd then c p else if p = fd then y else 200, fd + 1, rfl, by omega, fun p => ⟨fun hp => ?_, fun hp => ?_⟩, fun p hp => ?_⟩
      · show (if p < fd then c p else if p = fd then y else 200) = 200
        rw [if_neg (by omega), if_neg (by omega)]
      · show (if p < fd then c p else if p = fd then y else 200) < 128
        by_cases e : p < fd
        · rw [if_pos e]; exact (x3 p).2 e
        · rw [if_neg e, if_pos (by omega)]; omega
      · show upc (I 110) fd (nI y) p = nI (if p < fd then c p else if p = fd then y else 200)
        by_cases e : p < fd
        · rw [if_pos e, upc_ne _ _ (by omega)]; exact x4 p e
        · have e2 : p = fd := by omega
          subst e2
          rw [if_neg e, if_pos rfl, upc_eq]
theorem LC_feed {d : Nat} {I : Nat → Nat → Int32} {J : Nat → Nat → Int64} {K : Nat → Nat → Option Nat} {h : List xSh} {N n : Nat} {sc : Nat → Int32} (H : INV I J K h N) (hsc : I 1000000 = sc) (hn : I 1000001 0 = nI n) (v : Int32) : EvP (d + 20) 64 0 [(0, .ref 0), (1, .int v)] [] (I, J, K, h) (QI (fun x t => MID (N + 1) sc n 143 [(0, .ref 98), (1, .int v)] x t)) := by
  have H0 := H
  have HD0 := H.2.2.1
  obtain ⟨⟨S, hN⟩, ⟨nh, na, dd, cb, ce, tw, sn, bn, V, C, htw, hkp⟩, ⟨⟨cq9, fd, X9⟩, ⟨hA4, hA27⟩, hLT, ⟨hT1, hT2, r9, hr9, hT3⟩, hTP, hTI⟩, k5, k18⟩ := H
  have M := V.1
  have Q := V.2.1
  have hD := AR.db M Q V.2.2.1
  have hmu := Q.mu
  have hd9 := Q.dd9
  obtain ⟨hsn, hs6⟩ := V.2.2.2.1
  obtain ⟨hbn, hb8⟩ := V.2.2.2.2.1
  have hbk := V.2.2.2.2.2
  refine EvP.mono (C_feed (d := d + 19) S (R0 := I) hA27 hA4 X9.1 X9.2.1 v) (fun r t hq => ?_)
  obtain ⟨x, rfl, hx, I1, rfl, g1, g2, g3, g4⟩ := hq
  have e : ∀ c, 98 ≤ c → I1 c = I c := fun c hc => g3 c (by omega) (by omega)
  obtain ⟨j1, j2, j3, j4, j5⟩ := feed_j (I := I) (I1 := I1) (fd := fd) (v := v) e
  refine ⟨_, rfl, I1, J, K, h, rfl, S, ⟨by rw [e 1000000 (by decide)]; exact hsc, by rw [e 1000001 (by decide)]; exact hn⟩, fun d2 => ?_⟩
  refine EvP.mono (M_feed (d := d2 + 19) S (hi_mi (c_hi e) M) (show I1 98 16 = nI fd by rw [e 98 (by decide)]; exact X9.1) X9.2.1 v) (fun r t hq => ?_)
  obtain ⟨y, rfl, hy, rfl⟩ := hq
  have F : ∀ c, c ≠ 0 → c ≠ 98 → c ≠ 27 → c ≠ 110 → (feedM I1 fd v).2 c = I c := fun c a b d3 d4 => (j3 c b d4).trans (g3 c d3 a)
  have f98 : ∀ k, k ≠ 16 → (feedM I1 fd v).2 98 k = I 98 k := fun k hk => (congrFun (j2 98 (by decide)) k).trans (j4 k hk)
  refine ⟨_, rfl, hy.trans (j1.trans hx.symm), _, _, K, h, rfl, (INV.side H0 (fun c a b d3 _ _ d4 _ _ _ _ => F c a b d3 d4) (fun k hk => (congrFun (j3 0 (by decide) (by decide)) k).trans (g4 k hk)) (fun k hk _ => f98 k hk) ?_).mono (Nat.le_succ N), by rw [F 1000000 (by decide) (by decide) (by decide) (by decide)]; exact hsc, by rw [F 1000001 (by decide) (by decide) (by decide) (by decide)]; exact hn⟩
  obtain ⟨cq2, fd2, X2⟩ := X9.feed (v := v)
  refine ⟨⟨cq2, fd2, ?_⟩, ⟨?_, ?_⟩, fun i hi => by rw [F 119 (by decide) (by decide) (by decide) (by decide)]; exact hLT i hi, ⟨by rw [F 36 (by decide) (by decide) (by decide) (by decide), f98 72 (by decide)]; exact hT1, by rw [F 37 (by decide) (by decide) (by decide) (by decide), F 148 (by decide) (by decide) (by decide) (by decide)]; exact hT2, by rw [f98 72 (by decide)]; exact ⟨r9, hr9, hT3⟩⟩, fun u hu => ?_, ?_⟩
  · unfold TX at X2 ⊢
    rw [j2 98 (by decide), j2 110 (by decide)]
    exact X2
  · rw [congrFun (j3 0 (by decide) (by decide)) 4, g2, j2 98 (by decide)]
  · rw [j3 27 (by decide) (by decide), g1, j2 110 (by decide)]
  · rw [F (51 + 9 * u) (by omega) (by omega) (by omega) (by omega), F 149 (by decide) (by decide) (by decide) (by decide), F 150 (by decide) (by decide) (by decide) (by decide)]
    exact hTP u hu
  · unfold TPI TP at hTI ⊢
    rw [F 149 (by decide) (by decide) (by decide) (by decide), F 150 (by decide) (by decide) (by decide) (by decide)]
    exact hTI
