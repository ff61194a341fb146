/-! the law: class, then reference: the scene's mutators -/
/-- A from I1 as B from I -/
def RB3 (I1 I P B : Nat → Nat → Int32) : Prop := (∀ c, 98 ≤ c → P c = B c) ∧ (∀ c, c < 98 → P c = I1 c) ∧ ∀ c, (102 ≤ c ∧ c ≤ 104) ∨ c = 106 → B c = I c
theorem RB3.re {I1 I : Nat → Nat → Int32} (X : hi9 I1 = hi9 I) : RB3 I1 I I1 I := ⟨fun _ hc => hi_c X hc, fun _ _ => rfl, fun _ _ => rfl⟩
theorem RB3.up {I1 I P B : Nat → Nat → Int32} (H : RB3 I1 I P B) {a : Nat} (ha : 98 ≤ a ∧ (a < 102 ∨ a = 105 ∨ 106 < a)) (g : Nat → Int32) : RB3 I1 I (upc P a g) (upc B a g) := by
  refine ⟨fun c hc => ?_, fun c hc => (upc_ne _ _ (by omega)).trans (H.2.1 c hc), fun c hc => (upc_ne _ _ (by omega)).trans (H.2.2 c hc)⟩
  by_cases e : c = a
  · subst e; rw [upc_eq, upc_eq]
  · rw [upc_ne _ _ e, upc_ne _ _ e]; exact H.1 c hc
theorem RB3.s {I1 I P B : Nat → Nat → Int32} (H : RB3 I1 I P B) {a : Nat} (ha : 98 ≤ a ∧ (a < 102 ∨ a = 105 ∨ 106 < a)) (k : Nat) (v : Int32) : RB3 I1 I (s1 P a k v) (s1 B a k v) := by
  unfold s1
  rw [H.1 a ha.1]
  exact H.up ha _
theorem CE.tr2 {I1 I2 R2 : Nat → Nat → Int32} (E : CE I1 R2) (e : ∀ c, c < 98 → I2 c = I1 c) (f : ∀ c, 98 ≤ c → I2 c = R2 c) : CE I2 I2 := by
  have e1 := e 1 (by omega)
  have f98 := f 98 (by omega)
  exact ⟨by rw [e1, f98]; exact E.heads, by rw [e1, f98]; exact E.hats, by rw [e1, f98]; exact E.day, by rw [e1, f98]; exact E.seen, by rw [e1, f98]; exact E.booked, by rw [e1, f98]; exact E.town, by rw [e 2 (by omega), f 99 (by omega)]; exact E.a2, by rw [e 3 (by omega), f 100 (by omega)]; exact E.a3, by rw [e 4 (by omega), f 101 (by omega)]; exact E.a4, by rw [e 6 (by omega), f 105 (by omega)]; exact E.a6, by rw [e 7 (by omega), f 107 (by omega)]; exact E.a7, by rw [e 8 (by omega), f 108 (by omega)]; exact E.a8, by rw [e 9 (by omega), f 109 (by omega)]; exact E.a9, by rw [e 10 (by omega), f 128 (by omega)]; exact E.a10, by rw [e 11 (by omega), f 129 (by omega)]; exact E.a11, by rw [e 12 (by omega), f 131 (by omega)]; exact E.a12, by rw [e 13 (by omega), f 132 (by omega)]; exact E.a13⟩
theorem FRS.hi {I I1 : Nat → Nat → Int32} (F : FRS I I1) : hi9 I1 = hi9 I := c_hi (fun c hc => F.1 c (by omega) (by omega))
/-- a scene's mutator on both -/
theorem INV.mt9 {I I1 I2 R2 : Nat → Nat → Int32} {J : Nat → Nat → Int64} {K : Nat → Nat → Option Nat} {h : List xSh} {N : Nat} {na cb ce tw nh2 dd2 sn2 bn2 : Nat} (H : INV I J K h N) (C : CR I K h I na tw) (ht : I 98 14 = nI tw) (hk : KEPT I K h tw) (E : CE I1 R2) (F : FRS I I1) (B : RB3 I1 I I2 R2) (L : LV I R2) (V : SV R2 nh2 na dd2 cb ce sn2 bn2) : INV I2 J K h N := by
  have f98 : ∀ k, k ≠ 0 → k ≠ 1 → k ≠ 2 → k ≠ 43 → k ≠ 47 → I2 98 k = I 98 k := fun k a b c d e => (congrFun (B.1 98 (by decide)) k).trans (L.2 k a b c d e)
  refine INV.step H C ht hk (CE.tr2 E B.2.1 B.1) (fun c hc => ?_) (fun k hk => f98 k (by omega) (by omega) (by omega) (by omega) (by omega)) (fun c hc => (B.1 c (by omega)).trans (B.2.2 c hc)) (V.tr (fun c hc => B.1 c (by omega)) (fun k _ => congrFun (B.1 98 (by decide)) k))
  by_cases e : c < 98
  · rw [B.2.1 c e]; exact F.1 c (by omega) (by omega)
  · rw [B.1 c (by omega)]; exact L.1 c (by omega)
theorem RB_head {I1 I : Nat → Nat → Int32} (X : hi9 I1 = hi9 I) (nh : Nat) (v : Int32) : (headM I1 nh v).1 = (headM I nh v).1 ∧ RB3 I1 I (headM I1 nh v).2 (headM I nh v).2 := by
  unfold headM
  have hre := RB3.re X
  by_cases q : inB v (nI 0) (nI 9) = false
  · rw [if_pos q, if_pos q]; exact ⟨rfl, hre⟩
  · rw [if_neg q, if_neg q]
    by_cases q : nh = 6
    · rw [if_pos q, if_pos q]; exact ⟨rfl, hre⟩
    · rw [if_neg q, if_neg q]
      exact ⟨rfl, (((hre.s (by decide) _ _).s (by decide) _ _).s (by decide) _ _).s (by decide) _ _⟩
theorem RB_own {I1 I : Nat → Nat → Int32} (X : hi9 I1 = hi9 I) (nh na : Nat) (v w : Int32) : (ownM I1 nh na v w).1 = (ownM I nh na v w).1 ∧ RB3 I1 I (ownM I1 nh na v w).2 (ownM I nh na v w).2 := by
  have e100 : I1 100 = I 100 := hi_c X (by decide)
  unfold ownM
  have hre := RB3.re X
  simp only [e100]
  by_cases q : ixB v nh = false
  · rw [if_pos q, if_pos q]; exact ⟨rfl, hre⟩
  · rw [if_neg q, if_neg q]
    by_cases q : w = -1 ∨ ixB w na = true
    · rw [if_pos q, if_pos q]; exact ⟨rfl, hre.s (by decide) _ _⟩
    · rw [if_neg q, if_neg q]
      exact ⟨rfl, hre⟩
theorem RB_skill {I1 I : Nat → Nat → Int32} (X : hi9 I1 = hi9 I) (na : Nat) (v w : Int32) : (skillM I1 na v w).1 = (skillM I na v w).1 ∧ RB3 I1 I (skillM I1 na v w).2 (skillM I na v w).2 := by
  have e105 : I1 105 = I 105 := hi_c X (by decide)
  unfold skillM
  have hre := RB3.re X
  simp only [e105]
  by_cases q : ixB v na = false
  · rw [if_pos q, if_pos q]; exact ⟨rfl, hre⟩
  · rw [if_neg q, if_neg q]
    by_cases q : inB w (nI 0) (nI 50) = false
    · rw [if_pos q, if_pos q]; exact ⟨rfl, hre⟩
    · rw [if_neg q, if_neg q]
      exact ⟨rfl, hre.s (by decide) _ _⟩
theorem RB_row {I1 I : Nat → Nat → Int32} (X : hi9 I1 = hi9 I) (na : Nat) (v w n : Int32) : (rowM I1 na v w n).1 = (rowM I na v w n).1 ∧ RB3 I1 I (rowM I1 na v w n).2 (rowM I na v w n).2 := by
  have e102 : I1 102 = I 102 := hi_c X (by decide)
  have e108 : I1 108 = I 108 := hi_c X (by decide)
  unfold rowM
  have hre := RB3.re X
  simp only [e102, e108]
  by_cases q : ixB v na = false ∨ inB w (nI 0) (nI 3) = false
  · rw [if_pos q, if_pos q]; exact ⟨rfl, hre⟩
  · rw [if_neg q, if_neg q]
    by_cases q : inB n (nI 0) (nI 9) = false
    · rw [if_pos q, if_pos q]; exact ⟨rfl, hre⟩
    · rw [if_neg q, if_neg q]
      by_cases q : I 102 v.toNatClampNeg = nI 6
      · rw [if_pos q, if_pos q]; exact ⟨rfl, hre.s (by decide) _ _⟩
      · rw [if_neg q, if_neg q]
        exact ⟨rfl, hre⟩
theorem RB_change {I1 I : Nat → Nat → Int32} (X : hi9 I1 = hi9 I) (nh : Nat) (v w : Int32) : (changeM I1 nh v w).1 = (changeM I nh v w).1 ∧ RB3 I1 I (changeM I1 nh v w).2 (changeM I nh v w).2 := by
  have e101 : I1 101 = I 101 := hi_c X (by decide)
  unfold changeM swI
  have hre := RB3.re X
  simp only [e101]
  by_cases q : ixB v nh = false ∨ ixB w nh = false
  · rw [if_pos q, if_pos q]; exact ⟨rfl, hre⟩
  · rw [if_neg q, if_neg q]
    by_cases q : v = w
    · rw [if_pos q, if_pos q]; exact ⟨rfl, hre⟩
    · rw [if_neg q, if_neg q]
      exact ⟨rfl, ((hre.s (by decide) _ _).s (by decide) _ _)⟩
theorem RB_see {I1 I : Nat → Nat → Int32} (X : hi9 I1 = hi9 I) (na sn : Nat) (v w : Int32) : (seeM I1 na sn v w).1 = (seeM I na sn v w).1 ∧ RB3 I1 I (seeM I1 na sn v w).2 (seeM I na sn v w).2 := by
  unfold seeM
  have hre := RB3.re X
  by_cases q : v = -1
  · rw [if_pos q, if_pos q]; exact ⟨rfl, hre.s (by decide) _ _⟩
  · rw [if_neg q, if_neg q]
    by_cases q : ixB v na = false
    · rw [if_pos q, if_pos q]; exact ⟨rfl, hre⟩
    · rw [if_neg q, if_neg q]
      by_cases q : inB w (nI 0) (nI 999) = false
      · rw [if_pos q, if_pos q]; exact ⟨rfl, hre⟩
      · rw [if_neg q, if_neg q]
        by_cases q : sn = 6
        · rw [if_pos q, if_pos q]; exact ⟨rfl, hre⟩
        · rw [if_neg q, if_neg q]
          exact ⟨rfl, ((hre.s (by decide) _ _).s (by decide) _ _).s (by decide) _ _⟩
theorem RB_book {I1 I : Nat → Nat → Int32} (X : hi9 I1 = hi9 I) (nh na bn : Nat) (v w : Int32) : (bookM I1 nh na bn v w).1 = (bookM I nh na bn v w).1 ∧ RB3 I1 I (bookM I1 nh na bn v w).2 (bookM I nh na bn v w).2 := by
  unfold bookM
  have hre := RB3.re X
  by_cases q : v = -1
  · rw [if_pos q, if_pos q]; exact ⟨rfl, hre.s (by decide) _ _⟩
  · rw [if_neg q, if_neg q]
    by_cases q : ixB v na = false ∨ ixB w nh = false
    · rw [if_pos q, if_pos q]; exact ⟨rfl, hre⟩
    · rw [if_neg q, if_neg q]
      by_cases q : bn = 8
      · rw [if_pos q, if_pos q]; exact ⟨rfl, hre⟩
      · rw [if_neg q, if_neg q]
        exact ⟨rfl, ((hre.s (by decide) _ _).s (by decide) _ _).s (by decide) _ _⟩
theorem RB_put {I1 I : Nat → Nat → Int32} (X : hi9 I1 = hi9 I) (nh na : Nat) (v w : Int32) : (putM I1 nh na v w).1 = (putM I nh na v w).1 ∧ RB3 I1 I (putM I1 nh na v w).2 (putM I nh na v w).2 := by
  have e101 : I1 101 = I 101 := hi_c X (by decide)
  unfold putM
  have hre := RB3.re X
  rw [e101]
  by_cases q1 : ixB v na = false ∨ (¬ w = -1 ∧ ixB w nh = false)
  · rw [if_pos q1, if_pos q1]; exact ⟨rfl, hre⟩
  · rw [if_neg q1, if_neg q1]
    by_cases q2 : ¬ w < 0 ∧ ¬ I 101 w.toNatClampNeg < 0 ∧ ¬ I 101 w.toNatClampNeg = v
    · rw [if_pos q2, if_pos q2]; exact ⟨rfl, hre⟩
    · rw [if_neg q2, if_neg q2]
      cases fnd (isI (I 101) v) nh 0 with
      | none =>
        by_cases q3 : w < 0
        · rw [if_pos q3, if_pos q3]; exact ⟨rfl, hre⟩
        · rw [if_neg q3, if_neg q3]; exact ⟨rfl, hre.s (by decide) _ _⟩
      | some p =>
        by_cases q3 : w < 0
        · rw [if_pos q3, if_pos q3]; exact ⟨rfl, hre.s (by decide) _ _⟩
        · rw [if_neg q3, if_neg q3]; exact ⟨rfl, (hre.s (by decide) _ _).s (by decide) _ _⟩
theorem RB_gust {I1 I : Nat → Nat → Int32} (X : hi9 I1 = hi9 I) (nh : Nat) (v : Int32) : (gustM I1 nh v).1 = (gustM I nh v).1 ∧ RB3 I1 I (gustM I1 nh v).2 (gustM I nh v).2 := by
  unfold gustM
  have hre := RB3.re X
  by_cases q1 : inB v (nI 0) (nI 5) = true
  · rw [if_pos q1, if_pos q1]
    refine ⟨by have h9 := congrArg (fun r => nI (gusN r nh)) X; exact h9, ?_⟩
    show RB3 I1 I (upc (upc I1 121 (gusB I1 v.toNatClampNeg nh)) 101 (gusW I1 v.toNatClampNeg nh)) (upc (upc I 121 (gusB I v.toNatClampNeg nh)) 101 (gusW I v.toNatClampNeg nh))
    have h1 : gusB I1 v.toNatClampNeg nh = gusB I v.toNatClampNeg nh := by have h9 := congrArg (fun r => gusB r v.toNatClampNeg nh) X; exact h9
    have h2 : gusW I1 v.toNatClampNeg nh = gusW I v.toNatClampNeg nh := by have h9 := congrArg (fun r => gusW r v.toNatClampNeg nh) X; exact h9
    rw [h1, h2]
    exact (hre.up (by decide) _).up (by decide) _
  · rw [if_neg q1, if_neg q1]; exact ⟨rfl, hre⟩
theorem RB_day {I1 I : Nat → Nat → Int32} (X : hi9 I1 = hi9 I) (cb ce nh dd : Nat) : (dayM I1 cb ce nh dd).1 = (dayM I cb ce nh dd).1 ∧ RB3 I1 I (dayM I1 cb ce nh dd).2 (dayM I cb ce nh dd).2 := by
  unfold dayM
  have hre := RB3.re X
  by_cases q1 : dd = 9999
  · rw [if_pos q1, if_pos q1]; exact ⟨rfl, hre⟩
  · rw [if_neg q1, if_neg q1]
    refine ⟨hi_tod X, ?_⟩
    show RB3 I1 I (s1 (upc (upc I1 109 (dayU I1 cb ce nh)) 107 (fld (fGo (I1 101) (I1 98 33)) nh 0 (I1 107))) 98 2 (I1 98 2 + nI 1)) (s1 (upc (upc I 109 (dayU I cb ce nh)) 107 (fld (fGo (I 101) (I 98 33)) nh 0 (I 107))) 98 2 (I 98 2 + nI 1))
    have h1 : dayU I1 cb ce nh = dayU I cb ce nh := by have h9 := congrArg (fun r => dayU r cb ce nh) X; exact h9
    rw [h1, hi_c X (show 98 ≤ 101 by decide), hi_c X (show 98 ≤ 98 by decide), hi_c X (show 98 ≤ 107 by decide)]
    exact ((hre.up (by decide) _).up (by decide) _).s (by decide) _ _
theorem LC_head {d : Nat} {I : Nat → Nat → Int32} {J : Nat → Nat → Int64} {K : Nat → Nat → Option Nat} {h : List xSh} {N n : Nat} {sc : Nat → Int32} (H : INV I J K h N) (hsc : I 1000000 = sc) (hn : I 1000001 0 = nI n) (v : Int32) : EvP (d + 20) 55 0 [(0, .ref 0), (1, .int v)] [] (I, J, K, h) (QI (fun x t => MID (N + 1) sc n 136 [(0, .ref 98), (1, .int v)] x t)) := by
  have H0 := H
  obtain ⟨⟨S, hN⟩, ⟨nh, na, dd, cb, ce, tw, sn, bn, V, C, htw, hkp⟩, ⟨⟨cq9, fd, X9⟩, ⟨hA4, hA27⟩, hLT, ⟨hT1, hT2, r9, hr9, hT3⟩, hTP, hTI⟩, k5, k18⟩ := H
  have M := V.1
  have Q := V.2.1
  have hD := AR.db M Q V.2.2.1
  have hmu := Q.mu
  have hd9 := Q.dd9
  obtain ⟨hsn, hs6⟩ := V.2.2.2.1
  obtain ⟨hbn, hb8⟩ := V.2.2.2.2.1
  have hbk := V.2.2.2.2.2
  refine EvP.mono (C_head (d := d + 18) S C M Q v) (fun r t hq => ?_)
  obtain ⟨x, rfl, hx, I1, rfl, E, F0⟩ := hq
  have F : FRS I I1 := F0.frs
  have X := F.hi
  obtain ⟨hB1, hB⟩ := RB_head X nh v
  obtain ⟨hL, nh2, hV⟩ := V.head v
  refine ⟨_, rfl, I1, J, K, h, rfl, S, ⟨by rw [F.1 1000000 (by decide) (by decide)]; exact hsc, by rw [F.1 1000001 (by decide) (by decide)]; exact hn⟩, fun d2 => ?_⟩
  refine EvP.mono (M_head (d := d2 + 19) S (hi_mi X M) v) (fun r t hq => ?_)
  obtain ⟨y, rfl, hy, rfl⟩ := hq
  have hyx : y = x := hy.trans (hB1.trans hx.symm)
  have hI : INV (headM I1 nh v).2 J K h N := INV.mt9 H0 C htw hkp E F hB hL hV
  have hs1 : (headM I1 nh v).2 1000000 = sc := by rw [hB.1 1000000 (by decide), hL.1 1000000 (by decide)]; exact hsc
  have hs2 : (headM I1 nh v).2 1000001 0 = nI n := by rw [hB.1 1000001 (by decide), hL.1 1000001 (by decide)]; exact hn
  exact ⟨_, rfl, hyx, _, J, K, h, rfl, hI.mono (Nat.le_succ N), hs1, hs2⟩
theorem LC_own {d : Nat} {I : Nat → Nat → Int32} {J : Nat → Nat → Int64} {K : Nat → Nat → Option Nat} {h : List xSh} {N n : Nat} {sc : Nat → Int32} (H : INV I J K h N) (hsc : I 1000000 = sc) (hn : I 1000001 0 = nI n) (v : Int32) (w : Int32) : EvP (d + 20) 62 0 [(0, .ref 0), (1, .int v), (2, .int w)] [] (I, J, K, h) (QI (fun x t => MID (N + 1) sc n 141 [(0, .ref 98), (1, .int v), (2, .int w)] x t)) := by
  have H0 := H
  obtain ⟨⟨S, hN⟩, ⟨nh, na, dd, cb, ce, tw, sn, bn, V, C, htw, hkp⟩, ⟨⟨cq9, fd, X9⟩, ⟨hA4, hA27⟩, hLT, ⟨hT1, hT2, r9, hr9, hT3⟩, hTP, hTI⟩, k5, k18⟩ := H
  have M := V.1
  have Q := V.2.1
  have hD := AR.db M Q V.2.2.1
  have hmu := Q.mu
  have hd9 := Q.dd9
  obtain ⟨hsn, hs6⟩ := V.2.2.2.1
  obtain ⟨hbn, hb8⟩ := V.2.2.2.2.1
  have hbk := V.2.2.2.2.2
  refine EvP.mono (C_own (d := d + 19) S C M Q v w) (fun r t hq => ?_)
  obtain ⟨x, rfl, hx, I1, rfl, E, F0⟩ := hq
  have F : FRS I I1 := F0.frs
  have X := F.hi
  obtain ⟨hB1, hB⟩ := RB_own X nh na v w
  obtain ⟨hL, hV⟩ := V.own v w
  refine ⟨_, rfl, I1, J, K, h, rfl, S, ⟨by rw [F.1 1000000 (by decide) (by decide)]; exact hsc, by rw [F.1 1000001 (by decide) (by decide)]; exact hn⟩, fun d2 => ?_⟩
  refine EvP.mono (M_own (d := d2 + 18) S (hi_mi X M) v w) (fun r t hq => ?_)
  obtain ⟨y, rfl, hy, rfl⟩ := hq
  have hyx : y = x := hy.trans (hB1.trans hx.symm)
  have hI : INV (ownM I1 nh na v w).2 J K h N := INV.mt9 H0 C htw hkp E F hB hL hV
  have hs1 : (ownM I1 nh na v w).2 1000000 = sc := by rw [hB.1 1000000 (by decide), hL.1 1000000 (by decide)]; exact hsc
  have hs2 : (ownM I1 nh na v w).2 1000001 0 = nI n := by rw [hB.1 1000001 (by decide), hL.1 1000001 (by decide)]; exact hn
  exact ⟨_, rfl, hyx, _, J, K, h, rfl, hI.mono (Nat.le_succ N), hs1, hs2⟩
theorem LC_skill {d : Nat} {I : Nat → Nat → Int32} {J : Nat → Nat → Int64} {K : Nat → Nat → Option Nat} {h : List xSh} {N n : Nat} {sc : Nat → Int32} (H : INV I J K h N) (hsc : I 1000000 = sc) (hn : I 1000001 0 = nI n) (v : Int32) (w : Int32) : EvP (d + 20) 63 0 [(0, .ref 0), (1, .int v), (2, .int w)] [] (I, J, K, h) (QI (fun x t => MID (N + 1) sc n 142 [(0, .ref 98), (1, .int v), (2, .int w)] x t)) := by
  have H0 := H
  obtain ⟨⟨S, hN⟩, ⟨nh, na, dd, cb, ce, tw, sn, bn, V, C, htw, hkp⟩, ⟨⟨cq9, fd, X9⟩, ⟨hA4, hA27⟩, hLT, ⟨hT1, hT2, r9, hr9, hT3⟩, hTP, hTI⟩, k5, k18⟩ := H
  have M := V.1
  have Q := V.2.1
  have hD := AR.db M Q V.2.2.1
  have hmu := Q.mu
  have hd9 := Q.dd9
  obtain ⟨hsn, hs6⟩ := V.2.2.2.1
  obtain ⟨hbn, hb8⟩ := V.2.2.2.2.1
  have hbk := V.2.2.2.2.2
  refine EvP.mono (C_skill (d := d + 19) S C M Q v w) (fun r t hq => ?_)
  obtain ⟨x, rfl, hx, I1, rfl, E, F0⟩ := hq
  have F : FRS I I1 := F0.frs
  have X := F.hi
  obtain ⟨hB1, hB⟩ := RB_skill X na v w
  obtain ⟨hL, hV⟩ := V.skill v w
  refine ⟨_, rfl, I1, J, K, h, rfl, S, ⟨by rw [F.1 1000000 (by decide) (by decide)]; exact hsc, by rw [F.1 1000001 (by decide) (by decide)]; exact hn⟩, fun d2 => ?_⟩
  refine EvP.mono (M_skill (d := d2 + 18) S (hi_mi X M) v w) (fun r t hq => ?_)
  obtain ⟨y, rfl, hy, rfl⟩ := hq
  have hyx : y = x := hy.trans (hB1.trans hx.symm)
  have hI : INV (skillM I1 na v w).2 J K h N := INV.mt9 H0 C htw hkp E F hB hL hV
  have hs1 : (skillM I1 na v w).2 1000000 = sc := by rw [hB.1 1000000 (by decide), hL.1 1000000 (by decide)]; exact hsc
  have hs2 : (skillM I1 na v w).2 1000001 0 = nI n := by rw [hB.1 1000001 (by decide), hL.1 1000001 (by decide)]; exact hn
  exact ⟨_, rfl, hyx, _, J, K, h, rfl, hI.mono (Nat.le_succ N), hs1, hs2⟩
theorem LC_row {d : Nat} {I : Nat → Nat → Int32} {J : Nat → Nat → Int64} {K : Nat → Nat → Option Nat} {h : List xSh} {N n : Nat} {sc : Nat → Int32} (H : INV I J K h N) (hsc : I 1000000 = sc) (hn : I 1000001 0 = nI n) (v : Int32) (w : Int32) (z : Int32) : EvP (d + 20) 60 0 [(0, .ref 0), (1, .int v), (2, .int w), (3, .int z)] [] (I, J, K, h) (QI (fun x t => MID (N + 1) sc n 139 [(0, .ref 98), (1, .int v), (2, .int w), (3, .int z)] x t)) := by
  have H0 := H
  obtain ⟨⟨S, hN⟩, ⟨nh, na, dd, cb, ce, tw, sn, bn, V, C, htw, hkp⟩, ⟨⟨cq9, fd, X9⟩, ⟨hA4, hA27⟩, hLT, ⟨hT1, hT2, r9, hr9, hT3⟩, hTP, hTI⟩, k5, k18⟩ := H
  have M := V.1
  have Q := V.2.1
  have hD := AR.db M Q V.2.2.1
  have hmu := Q.mu
  have hd9 := Q.dd9
  obtain ⟨hsn, hs6⟩ := V.2.2.2.1
  obtain ⟨hbn, hb8⟩ := V.2.2.2.2.1
  have hbk := V.2.2.2.2.2
  refine EvP.mono (C_row (d := d + 18) S C M Q v w z) (fun r t hq => ?_)
  obtain ⟨x, rfl, hx, I1, rfl, E, F0⟩ := hq
  have F : FRS I I1 := F0.frs
  have X := F.hi
  obtain ⟨hB1, hB⟩ := RB_row X na v w z
  obtain ⟨hL, hV⟩ := V.row v w z
  refine ⟨_, rfl, I1, J, K, h, rfl, S, ⟨by rw [F.1 1000000 (by decide) (by decide)]; exact hsc, by rw [F.1 1000001 (by decide) (by decide)]; exact hn⟩, fun d2 => ?_⟩
  refine EvP.mono (M_row (d := d2 + 18) S (hi_mi X M) v w z) (fun r t hq => ?_)
  obtain ⟨y, rfl, hy, rfl⟩ := hq
  have hyx : y = x := hy.trans (hB1.trans hx.symm)
  have hI : INV (rowM I1 na v w z).2 J K h N := INV.mt9 H0 C htw hkp E F hB hL hV
  have hs1 : (rowM I1 na v w z).2 1000000 = sc := by rw [hB.1 1000000 (by decide), hL.1 1000000 (by decide)]; exact hsc
  have hs2 : (rowM I1 na v w z).2 1000001 0 = nI n := by rw [hB.1 1000001 (by decide), hL.1 1000001 (by decide)]; exact hn
  exact ⟨_, rfl, hyx, _, J, K, h, rfl, hI.mono (Nat.le_succ N), hs1, hs2⟩
theorem LC_put {d : Nat} {I : Nat → Nat → Int32} {J : Nat → Nat → Int64} {K : Nat → Nat → Option Nat} {h : List xSh} {N n : Nat} {sc : Nat → Int32} (H : INV I J K h N) (hsc : I 1000000 = sc) (hn : I 1000001 0 = nI n) (v : Int32) (w : Int32) : EvP (d + 20) 61 0 [(0, .ref 0), (1, .int v), (2, .int w)] [] (I, J, K, h) (QI (fun x t => MID (N + 1) sc n 140 [(0, .ref 98), (1, .int v), (2, .int w)] x t)) := by
  have H0 := H
  obtain ⟨⟨S, hN⟩, ⟨nh, na, dd, cb, ce, tw, sn, bn, V, C, htw, hkp⟩, ⟨⟨cq9, fd, X9⟩, ⟨hA4, hA27⟩, hLT, ⟨hT1, hT2, r9, hr9, hT3⟩, hTP, hTI⟩, k5, k18⟩ := H
  have M := V.1
  have Q := V.2.1
  have hD := AR.db M Q V.2.2.1
  have hmu := Q.mu
  have hd9 := Q.dd9
  obtain ⟨hsn, hs6⟩ := V.2.2.2.1
  obtain ⟨hbn, hb8⟩ := V.2.2.2.2.1
  have hbk := V.2.2.2.2.2
  refine EvP.mono (C_put (d := d + 18) S C M Q v w) (fun r t hq => ?_)
  obtain ⟨x, rfl, hx, I1, rfl, E, F0⟩ := hq
  have F : FRS I I1 := F0.frs
  have X := F.hi
  obtain ⟨hB1, hB⟩ := RB_put X nh na v w
  obtain ⟨hL, hV⟩ := V.put v w
  refine ⟨_, rfl, I1, J, K, h, rfl, S, ⟨by rw [F.1 1000000 (by decide) (by decide)]; exact hsc, by rw [F.1 1000001 (by decide) (by decide)]; exact hn⟩, fun d2 => ?_⟩
  refine EvP.mono (M_put (d := d2 + 18) S (hi_mi X M) v w) (fun r t hq => ?_)
  obtain ⟨y, rfl, hy, rfl⟩ := hq
  have hyx : y = x := hy.trans (hB1.trans hx.symm)
  have hI : INV (putM I1 nh na v w).2 J K h N := INV.mt9 H0 C htw hkp E F hB hL hV
  have hs1 : (putM I1 nh na v w).2 1000000 = sc := by rw [hB.1 1000000 (by decide), hL.1 1000000 (by decide)]; exact hsc
  have hs2 : (putM I1 nh na v w).2 1000001 0 = nI n := by rw [hB.1 1000001 (by decide), hL.1 1000001 (by decide)]; exact hn
  exact ⟨_, rfl, hyx, _, J, K, h, rfl, hI.mono (Nat.le_succ N), hs1, hs2⟩
theorem LC_change {d : Nat} {I : Nat → Nat → Int32} {J : Nat → Nat → Int64} {K : Nat → Nat → Option Nat} {h : List xSh} {N n : Nat} {sc : Nat → Int32} (H : INV I J K h N) (hsc : I 1000000 = sc) (hn : I 1000001 0 = nI n) (v : Int32) (w : Int32) : EvP (d + 20) 69 0 [(0, .ref 0), (1, .int v), (2, .int w)] [] (I, J, K, h) (QI (fun x t => MID (N + 1) sc n 177 [(0, .ref 98), (1, .int v), (2, .int w)] x t)) := by
  have H0 := H
  obtain ⟨⟨S, hN⟩, ⟨nh, na, dd, cb, ce, tw, sn, bn, V, C, htw, hkp⟩, ⟨⟨cq9, fd, X9⟩, ⟨hA4, hA27⟩, hLT, ⟨hT1, hT2, r9, hr9, hT3⟩, hTP, hTI⟩, k5, k18⟩ := H
  have M := V.1
  have Q := V.2.1
  have hD := AR.db M Q V.2.2.1
  have hmu := Q.mu
  have hd9 := Q.dd9
  obtain ⟨hsn, hs6⟩ := V.2.2.2.1
  obtain ⟨hbn, hb8⟩ := V.2.2.2.2.1
  have hbk := V.2.2.2.2.2
  refine EvP.mono (C_change (d := d + 19) S C M Q v w) (fun r t hq => ?_)
  obtain ⟨x, rfl, hx, I1, rfl, E, F0⟩ := hq
  have F : FRS I I1 := F0.frs
  have X := F.hi
  obtain ⟨hB1, hB⟩ := RB_change X nh v w
  obtain ⟨hL, hV⟩ := V.change v w
  refine ⟨_, rfl, I1, J, K, h, rfl, S, ⟨by rw [F.1 1000000 (by decide) (by decide)]; exact hsc, by rw [F.1 1000001 (by decide) (by decide)]; exact hn⟩, fun d2 => ?_⟩
  refine EvP.mono (M_change (d := d2 + 18) S (hi_mi X M) v w) (fun r t hq => ?_)
  obtain ⟨y, rfl, hy, rfl⟩ := hq
  have hyx : y = x := hy.trans (hB1.trans hx.symm)
  have hI : INV (changeM I1 nh v w).2 J K h N := INV.mt9 H0 C htw hkp E F hB hL hV
  have hs1 : (changeM I1 nh v w).2 1000000 = sc := by rw [hB.1 1000000 (by decide), hL.1 1000000 (by decide)]; exact hsc
  have hs2 : (changeM I1 nh v w).2 1000001 0 = nI n := by rw [hB.1 1000001 (by decide), hL.1 1000001 (by decide)]; exact hn
  exact ⟨_, rfl, hyx, _, J, K, h, rfl, hI.mono (Nat.le_succ N), hs1, hs2⟩
theorem LC_see {d : Nat} {I : Nat → Nat → Int32} {J : Nat → Nat → Int64} {K : Nat → Nat → Option Nat} {h : List xSh} {N n : Nat} {sc : Nat → Int32} (H : INV I J K h N) (hsc : I 1000000 = sc) (hn : I 1000001 0 = nI n) (v : Int32) (w : Int32) : EvP (d + 20) 83 0 [(0, .ref 0), (1, .int v), (2, .int w)] [] (I, J, K, h) (QI (fun x t => MID (N + 1) sc n 202 [(0, .ref 98), (1, .int v), (2, .int w)] x t)) := by
  have H0 := H
  obtain ⟨⟨S, hN⟩, ⟨nh, na, dd, cb, ce, tw, sn, bn, V, C, htw, hkp⟩, ⟨⟨cq9, fd, X9⟩, ⟨hA4, hA27⟩, hLT, ⟨hT1, hT2, r9, hr9, hT3⟩, hTP, hTI⟩, k5, k18⟩ := H
  have M := V.1
  have Q := V.2.1
  have hD := AR.db M Q V.2.2.1
  have hmu := Q.mu
  have hd9 := Q.dd9
  obtain ⟨hsn, hs6⟩ := V.2.2.2.1
  obtain ⟨hbn, hb8⟩ := V.2.2.2.2.1
  have hbk := V.2.2.2.2.2
  refine EvP.mono (C_see (d := d + 19) S C M Q hsn hs6 v w) (fun r t hq => ?_)
  obtain ⟨x, rfl, hx, I1, rfl, E, F0⟩ := hq
  have F : FRS I I1 := F0.frs
  have X := F.hi
  obtain ⟨hB1, hB⟩ := RB_see X na sn v w
  obtain ⟨hL, sn2, hV⟩ := V.see v w
  refine ⟨_, rfl, I1, J, K, h, rfl, S, ⟨by rw [F.1 1000000 (by decide) (by decide)]; exact hsc, by rw [F.1 1000001 (by decide) (by decide)]; exact hn⟩, fun d2 => ?_⟩
  refine EvP.mono (M_see (d := d2 + 18) S (hi_mi X M) (show I1 98 43 = nI sn from (congrFun (hi_c X (by decide)) 43).trans hsn) hs6 v w) (fun r t hq => ?_)
  obtain ⟨y, rfl, hy, rfl⟩ := hq
  have hyx : y = x := hy.trans (hB1.trans hx.symm)
  have hI : INV (seeM I1 na sn v w).2 J K h N := INV.mt9 H0 C htw hkp E F hB hL hV
  have hs1 : (seeM I1 na sn v w).2 1000000 = sc := by rw [hB.1 1000000 (by decide), hL.1 1000000 (by decide)]; exact hsc
  have hs2 : (seeM I1 na sn v w).2 1000001 0 = nI n := by rw [hB.1 1000001 (by decide), hL.1 1000001 (by decide)]; exact hn
  exact ⟨_, rfl, hyx, _, J, K, h, rfl, hI.mono (Nat.le_succ N), hs1, hs2⟩
theorem LC_book {d : Nat} {I : Nat → Nat → Int32} {J : Nat → Nat → Int64} {K : Nat → Nat → Option Nat} {h : List xSh} {N n : Nat} {sc : Nat → Int32} (H : INV I J K h N) (hsc : I 1000000 = sc) (hn : I 1000001 0 = nI n) (v : Int32) (w : Int32) : EvP (d + 20) 88 0 [(0, .ref 0), (1, .int v), (2, .int w)] [] (I, J, K, h) (QI (fun x t => MID (N + 1) sc n 210 [(0, .ref 98), (1, .int v), (2, .int w)] x t)) := by
  have H0 := H
  obtain ⟨⟨S, hN⟩, ⟨nh, na, dd, cb, ce, tw, sn, bn, V, C, htw, hkp⟩, ⟨⟨cq9, fd, X9⟩, ⟨hA4, hA27⟩, hLT, ⟨hT1, hT2, r9, hr9, hT3⟩, hTP, hTI⟩, k5, k18⟩ := H
  have M := V.1
  have Q := V.2.1
  have hD := AR.db M Q V.2.2.1
  have hmu := Q.mu
  have hd9 := Q.dd9
  obtain ⟨hsn, hs6⟩ := V.2.2.2.1
  obtain ⟨hbn, hb8⟩ := V.2.2.2.2.1
  have hbk := V.2.2.2.2.2
  refine EvP.mono (C_book (d := d + 19) S C M Q hbn hb8 v w) (fun r t hq => ?_)
  obtain ⟨x, rfl, hx, I1, rfl, E, F0⟩ := hq
  have F : FRS I I1 := F0.frs
  have X := F.hi
  obtain ⟨hB1, hB⟩ := RB_book X nh na bn v w
  obtain ⟨hL, bn2, hV⟩ := V.book v w
  refine ⟨_, rfl, I1, J, K, h, rfl, S, ⟨by rw [F.1 1000000 (by decide) (by decide)]; exact hsc, by rw [F.1 1000001 (by decide) (by decide)]; exact hn⟩, fun d2 => ?_⟩
  refine EvP.mono (M_book (d := d2 + 18) S (hi_mi X M) (show I1 98 47 = nI bn from (congrFun (hi_c X (by decide)) 47).trans hbn) hb8 v w) (fun r t hq => ?_)
  obtain ⟨y, rfl, hy, rfl⟩ := hq
  have hyx : y = x := hy.trans (hB1.trans hx.symm)
  have hI : INV (bookM I1 nh na bn v w).2 J K h N := INV.mt9 H0 C htw hkp E F hB hL hV
  have hs1 : (bookM I1 nh na bn v w).2 1000000 = sc := by rw [hB.1 1000000 (by decide), hL.1 1000000 (by decide)]; exact hsc
  have hs2 : (bookM I1 nh na bn v w).2 1000001 0 = nI n := by rw [hB.1 1000001 (by decide), hL.1 1000001 (by decide)]; exact hn
  exact ⟨_, rfl, hyx, _, J, K, h, rfl, hI.mono (Nat.le_succ N), hs1, hs2⟩
theorem LC_gust {d : Nat} {I : Nat → Nat → Int32} {J : Nat → Nat → Int64} {K : Nat → Nat → Option Nat} {h : List xSh} {N n : Nat} {sc : Nat → Int32} (H : INV I J K h N) (hsc : I 1000000 = sc) (hn : I 1000001 0 = nI n) (v : Int32) : EvP (d + 20) 68 0 [(0, .ref 0), (1, .int v)] [] (I, J, K, h) (QI (fun x t => MID (N + 1) sc n 175 [(0, .ref 98), (1, .int v)] x t)) := by
  have H0 := H
  obtain ⟨⟨S, hN⟩, ⟨nh, na, dd, cb, ce, tw, sn, bn, V, C, htw, hkp⟩, ⟨⟨cq9, fd, X9⟩, ⟨hA4, hA27⟩, hLT, ⟨hT1, hT2, r9, hr9, hT3⟩, hTP, hTI⟩, k5, k18⟩ := H
  have M := V.1
  have Q := V.2.1
  have hD := AR.db M Q V.2.2.1
  have hmu := Q.mu
  have hd9 := Q.dd9
  obtain ⟨hsn, hs6⟩ := V.2.2.2.1
  obtain ⟨hbn, hb8⟩ := V.2.2.2.2.1
  have hbk := V.2.2.2.2.2
  refine EvP.mono (C_gust (d := d + 18) S C M Q v) (fun r t hq => ?_)
  obtain ⟨x, rfl, hx, I1, rfl, E, F0⟩ := hq
  have F : FRS I I1 := F0
  have X := F.hi
  obtain ⟨hB1, hB⟩ := RB_gust X nh v
  obtain ⟨hL, hV⟩ := V.gust v
  refine ⟨_, rfl, I1, J, K, h, rfl, S, ⟨by rw [F.1 1000000 (by decide) (by decide)]; exact hsc, by rw [F.1 1000001 (by decide) (by decide)]; exact hn⟩, fun d2 => ?_⟩
  refine EvP.mono (M_gust (d := d2 + 19) S (hi_mi X M) v) (fun r t hq => ?_)
  obtain ⟨y, rfl, hy, rfl⟩ := hq
  have hyx : y = x := hy.trans (hB1.trans hx.symm)
  have hI : INV (gustM I1 nh v).2 J K h N := INV.mt9 H0 C htw hkp E F hB hL hV
  have hs1 : (gustM I1 nh v).2 1000000 = sc := by rw [hB.1 1000000 (by decide), hL.1 1000000 (by decide)]; exact hsc
  have hs2 : (gustM I1 nh v).2 1000001 0 = nI n := by rw [hB.1 1000001 (by decide), hL.1 1000001 (by decide)]; exact hn
  exact ⟨_, rfl, hyx, _, J, K, h, rfl, hI.mono (Nat.le_succ N), hs1, hs2⟩
theorem LC_day {d : Nat} {I : Nat → Nat → Int32} {J : Nat → Nat → Int64} {K : Nat → Nat → Option Nat} {h : List xSh} {N n : Nat} {sc : Nat → Int32} (H : INV I J K h N) (hsc : I 1000000 = sc) (hn : I 1000001 0 = nI n) : EvP (d + 20) 67 0 [(0, .ref 0)] [] (I, J, K, h) (QI (fun x t => MID (N + 1) sc n 173 [(0, .ref 98)] x t)) := by
  have H0 := H
  obtain ⟨⟨S, hN⟩, ⟨nh, na, dd, cb, ce, tw, sn, bn, V, C, htw, hkp⟩, ⟨⟨cq9, fd, X9⟩, ⟨hA4, hA27⟩, hLT, ⟨hT1, hT2, r9, hr9, hT3⟩, hTP, hTI⟩, k5, k18⟩ := H
  have M := V.1
  have Q := V.2.1
  have hD := AR.db M Q V.2.2.1
  have hmu := Q.mu
  have hd9 := Q.dd9
  obtain ⟨hsn, hs6⟩ := V.2.2.2.1
  obtain ⟨hbn, hb8⟩ := V.2.2.2.2.1
  have hbk := V.2.2.2.2.2
  refine p_self 39 ?_
  refine EvP.mono (C_day (d := d + 13) S C M Q (I 39) ) (fun r t hq => ?_)
  obtain ⟨x, rfl, hx, I1, rfl, E, F0⟩ := hq
  have F : FRS I I1 := F0
  have X := F.hi
  obtain ⟨hB1, hB⟩ := RB_day X cb ce nh dd
  obtain ⟨hL, dd2, hV⟩ := V.day
  refine ⟨_, rfl, I1, J, K, h, rfl, S, ⟨by rw [F.1 1000000 (by decide) (by decide)]; exact hsc, by rw [F.1 1000001 (by decide) (by decide)]; exact hn⟩, fun d2 => ?_⟩
  refine p_self 120 ?_
  refine EvP.mono (M_day (d := d2 + 15) S (hi_mi X M) (I1 120) ) (fun r t hq => ?_)
  obtain ⟨y, rfl, hy, g9, rfl⟩ := hq
  have hyx : y = x := hy.trans (hB1.trans hx.symm)
  have hI : INV (dayM I1 cb ce nh dd).2 J K h N := INV.mt9 H0 C htw hkp E F hB hL hV
  have hs1 : (dayM I1 cb ce nh dd).2 1000000 = sc := by rw [hB.1 1000000 (by decide), hL.1 1000000 (by decide)]; exact hsc
  have hs2 : (dayM I1 cb ce nh dd).2 1000001 0 = nI n := by rw [hB.1 1000001 (by decide), hL.1 1000001 (by decide)]; exact hn
  exact ⟨_, rfl, hyx, _, J, K, h, rfl, (hI.ask (CX.refl _) (AG.up g9)).mono (Nat.le_succ N), hs1, hs2⟩
