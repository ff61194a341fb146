/-! the law: class, then reference, on one memory: askers -/
theorem xsc_no {c k : Nat} (h1 : c ≠ 98) (h2 : c < 120 ∨ 130 < c ∨ c = 128 ∨ c = 129) : xsc c k = false := by
  unfold xsc
  split <;> first | rfl | omega
theorem AG.c {I I2 : Nat → Nat → Int32} (h : AG I I2) {c : Nat} (h1 : c ≠ 98) (h2 : c < 120 ∨ 130 < c ∨ c = 128 ∨ c = 129) : I2 c = I c := funext fun k => h c k (xsc_no h1 h2)
theorem CE.tr {I I2 : Nat → Nat → Int32} (E : CE I I) (e : ∀ c, (1 ≤ c ∧ c ≤ 13) ∨ (99 ≤ c ∧ c ≤ 109) ∨ c = 128 ∨ c = 129 ∨ c = 131 ∨ c = 132 → I2 c = I c) (f : ∀ k, k = 0 ∨ k = 1 ∨ k = 2 ∨ k = 15 ∨ k = 43 ∨ k = 47 → I2 98 k = I 98 k) : CE I2 I2 := by
  have f0 := f 0 (by omega)
  have f1 := f 1 (by omega)
  have f2 := f 2 (by omega)
  have f15 := f 15 (by omega)
  have f43 := f 43 (by omega)
  have f47 := f 47 (by omega)
  have e1 := e 1 (by omega)
  exact ⟨by rw [e1, f0]; exact E.heads, by rw [e1, f1]; exact E.hats, by rw [e1, f2]; exact E.day, by rw [e1, f43]; exact E.seen, by rw [e1, f47]; exact E.booked, by rw [e1, f15]; exact E.town, by rw [e 2 (by omega), e 99 (by omega)]; exact E.a2, by rw [e 3 (by omega), e 100 (by omega)]; exact E.a3, by rw [e 4 (by omega), e 101 (by omega)]; exact E.a4, by rw [e 6 (by omega), e 105 (by omega)]; exact E.a6, by rw [e 7 (by omega), e 107 (by omega)]; exact E.a7, by rw [e 8 (by omega), e 108 (by omega)]; exact E.a8, by rw [e 9 (by omega), e 109 (by omega)]; exact E.a9, by rw [e 10 (by omega), e 128 (by omega)]; exact E.a10, by rw [e 11 (by omega), e 129 (by omega)]; exact E.a11, by rw [e 12 (by omega), e 131 (by omega)]; exact E.a12, by rw [e 13 (by omega), e 132 (by omega)]; exact E.a13⟩
theorem INV.ask {I I1 I2 : Nat → Nat → Int32} {J : Nat → Nat → Int64} {K : Nat → Nat → Option Nat} {h : List xSh} {N : Nat} (H : INV I J K h N) (X : CX I I1) (G : AG I1 I2) : INV I2 J K h N := by
  obtain ⟨HS, ⟨nh, na, dd, cb, ce, tw, sn, bn, V, C, ht, hk⟩, HD, k5, k18⟩ := H
  have F : ∀ c, c ≠ 98 → (c < 39 ∨ 43 < c) → (c < 120 ∨ 130 < c ∨ c = 128 ∨ c = 129) → I2 c = I c := fun c h1 h2 h3 => (G.c h1 h3).trans (X c h2)
  have f : ∀ k, xsc 98 k = false → I2 98 k = I 98 k := fun k hk => (G 98 k hk).trans (congrFun (X 98 (by decide)) k)
  refine INV.step ⟨HS, ⟨nh, na, dd, cb, ce, tw, sn, bn, V, C, ht, hk⟩, HD, k5, k18⟩ C ht hk (CE.tr C.ce (fun c hc => F c (by omega) (by omega) (by omega)) (fun k hk => f k ?_)) (fun c hc => F c (by omega) (by omega) (by omega)) (fun k hk => f k ?_) (fun c hc => F c (by omega) (by omega) (by omega)) (V.tr (fun c hc => F c (by omega) (by omega) (by omega)) (fun k hk => f k ?_))
  · rcases hk with rfl | rfl | rfl | rfl | rfl | rfl <;> rfl
  · rcases (show k = 14 ∨ k = 15 ∨ k = 16 ∨ k = 33 ∨ k = 50 ∨ k = 51 ∨ k = 52 ∨ k = 53 ∨ k = 54 ∨ k = 55 ∨ k = 56 ∨ k = 72 by omega) with rfl | rfl | rfl | rfl | rfl | rfl | rfl | rfl | rfl | rfl | rfl | rfl <;> rfl
  · rcases hk with rfl | rfl | rfl | rfl | rfl | rfl | rfl <;> rfl
/-- memory as it is between two calls of the law, its script beside it -/
def LIN (N : Nat) (sc : Nat → Int32) (n : Nat) (t : xMem) : Prop := ∃ I J K h, t = (I, J, K, h) ∧ INV I J K h N ∧ I 1000000 = sc ∧ I 1000001 0 = nI n
def REFI (N : Nat) (sc : Nat → Int32) (n rid : Nat) (ls : List (Nat × Value)) (x : Int32) (m : xMem) : Prop := ∀ d, EvP (d + 20) rid 0 ls [] m (QI (fun y t => y = x ∧ LIN N sc n t))
def REFL (N : Nat) (sc : Nat → Int32) (n rid : Nat) (ls : List (Nat × Value)) (x : Int64) (m : xMem) : Prop := ∀ d, EvP (d + 20) rid 0 ls [] m (QL (fun y t => y = x ∧ LIN N sc n t))
/-- between the class's call and the reference's -/
def MID (N : Nat) (sc : Nat → Int32) (n rid : Nat) (ls : List (Nat × Value)) (x : Int32) (t : xMem) : Prop := ∃ I J K h, t = (I, J, K, h) ∧ St K h ∧ (I 1000000 = sc ∧ I 1000001 0 = nI n) ∧ REFI N sc n rid ls x t
def MIDL (N : Nat) (sc : Nat → Int32) (n rid : Nat) (ls : List (Nat × Value)) (x : Int64) (t : xMem) : Prop := ∃ I J K h, t = (I, J, K, h) ∧ St K h ∧ (I 1000000 = sc ∧ I 1000001 0 = nI n) ∧ REFL N sc n rid ls x t
theorem INV.mono {I : Nat → Nat → Int32} {J : Nat → Nat → Int64} {K : Nat → Nat → Option Nat} {h : List xSh} {N N2 : Nat} (H : INV I J K h N) (hN : N ≤ N2) : INV I J K h N2 := ⟨⟨H.1.1, H.1.2.mono hN⟩, H.2⟩
theorem LC_of {d : Nat} {I : Nat → Nat → Int32} {J : Nat → Nat → Int64} {K : Nat → Nat → Option Nat} {h : List xSh} {N n : Nat} {sc : Nat → Int32} (H : INV I J K h N) (hsc : I 1000000 = sc) (hn : I 1000001 0 = nI n) (v : Int32) (w : Int32) : EvP (d + 20) 58 0 [(0, .ref 0), (1, .int v), (2, .int w)] [] (I, J, K, h) (QI (fun x t => MID (N + 1) sc n 168 [(0, .ref 98), (1, .int v), (2, .int w)] x t)) := by
  have H0 := H
  obtain ⟨⟨S, hN⟩, ⟨nh, na, dd, cb, ce, tw, sn, bn, V, C, htw, hkp⟩, ⟨⟨cq9, fd, X9⟩, ⟨hA4, hA27⟩, hLT, ⟨hT1, hT2, r9, hr9, hT3⟩, hTP, hTI⟩, k5, k18⟩ := H
  have M := V.1
  have Q := V.2.1
  have hD := AR.db M Q V.2.2.1
  have hmu := Q.mu
  have hd9 := Q.dd9
  obtain ⟨hsn, hs6⟩ := V.2.2.2.1
  obtain ⟨hbn, hb8⟩ := V.2.2.2.2.1
  have hbk := V.2.2.2.2.2
  refine EvP.mono (QC_of S C M Q v w) (fun r t hq => ?_)
  obtain ⟨x, rfl, hx, I1, rfl, X⟩ := hq
  refine ⟨_, rfl, I1, J, K, h, rfl, S, ⟨by rw [X 1000000 (by decide)]; exact hsc, by rw [X 1000001 (by decide)]; exact hn⟩, fun d2 => ?_⟩
  refine EvP.mono (QM_of S X.hi M v w) (fun r t hq => ?_)
  obtain ⟨y, rfl, hy, I2, rfl, G⟩ := hq
  exact ⟨_, rfl, hy.trans hx.symm, I2, J, K, h, rfl, (H0.ask X G).mono (Nat.le_succ N), by rw [G.c (by decide) (by decide), X 1000000 (by decide)]; exact hsc, by rw [G.c (by decide) (by decide), X 1000001 (by decide)]; exact hn⟩
theorem LC_at {d : Nat} {I : Nat → Nat → Int32} {J : Nat → Nat → Int64} {K : Nat → Nat → Option Nat} {h : List xSh} {N n : Nat} {sc : Nat → Int32} (H : INV I J K h N) (hsc : I 1000000 = sc) (hn : I 1000001 0 = nI n) (v : Int32) (w : Int32) : EvP (d + 20) 59 0 [(0, .ref 0), (1, .int v), (2, .int w)] [] (I, J, K, h) (QI (fun x t => MID (N + 1) sc n 169 [(0, .ref 98), (1, .int v), (2, .int w)] x t)) := by
  have H0 := H
  obtain ⟨⟨S, hN⟩, ⟨nh, na, dd, cb, ce, tw, sn, bn, V, C, htw, hkp⟩, ⟨⟨cq9, fd, X9⟩, ⟨hA4, hA27⟩, hLT, ⟨hT1, hT2, r9, hr9, hT3⟩, hTP, hTI⟩, k5, k18⟩ := H
  have M := V.1
  have Q := V.2.1
  have hD := AR.db M Q V.2.2.1
  have hmu := Q.mu
  have hd9 := Q.dd9
  obtain ⟨hsn, hs6⟩ := V.2.2.2.1
  obtain ⟨hbn, hb8⟩ := V.2.2.2.2.1
  have hbk := V.2.2.2.2.2
  refine EvP.mono (QC_at S C M Q v w) (fun r t hq => ?_)
  obtain ⟨x, rfl, hx, I1, rfl, X⟩ := hq
  refine ⟨_, rfl, I1, J, K, h, rfl, S, ⟨by rw [X 1000000 (by decide)]; exact hsc, by rw [X 1000001 (by decide)]; exact hn⟩, fun d2 => ?_⟩
  refine EvP.mono (QM_at S X.hi M v w) (fun r t hq => ?_)
  obtain ⟨y, rfl, hy, I2, rfl, G⟩ := hq
  exact ⟨_, rfl, hy.trans hx.symm, I2, J, K, h, rfl, (H0.ask X G).mono (Nat.le_succ N), by rw [G.c (by decide) (by decide), X 1000000 (by decide)]; exact hsc, by rw [G.c (by decide) (by decide), X 1000001 (by decide)]; exact hn⟩
theorem LC_told {d : Nat} {I : Nat → Nat → Int32} {J : Nat → Nat → Int64} {K : Nat → Nat → Option Nat} {h : List xSh} {N n : Nat} {sc : Nat → Int32} (H : INV I J K h N) (hsc : I 1000000 = sc) (hn : I 1000001 0 = nI n) (w : Int32) : EvP (d + 20) 66 0 [(0, .ref 0), (1, .int w)] [] (I, J, K, h) (QI (fun x t => MID (N + 1) sc n 170 [(0, .ref 98), (1, .int w)] x t)) := by
  have H0 := H
  obtain ⟨⟨S, hN⟩, ⟨nh, na, dd, cb, ce, tw, sn, bn, V, C, htw, hkp⟩, ⟨⟨cq9, fd, X9⟩, ⟨hA4, hA27⟩, hLT, ⟨hT1, hT2, r9, hr9, hT3⟩, hTP, hTI⟩, k5, k18⟩ := H
  have M := V.1
  have Q := V.2.1
  have hD := AR.db M Q V.2.2.1
  have hmu := Q.mu
  have hd9 := Q.dd9
  obtain ⟨hsn, hs6⟩ := V.2.2.2.1
  obtain ⟨hbn, hb8⟩ := V.2.2.2.2.1
  have hbk := V.2.2.2.2.2
  refine EvP.mono (QC_told S C M Q w) (fun r t hq => ?_)
  obtain ⟨x, rfl, hx, I1, rfl, X⟩ := hq
  refine ⟨_, rfl, I1, J, K, h, rfl, S, ⟨by rw [X 1000000 (by decide)]; exact hsc, by rw [X 1000001 (by decide)]; exact hn⟩, fun d2 => ?_⟩
  refine EvP.mono (QM_told S X.hi M w) (fun r t hq => ?_)
  obtain ⟨y, rfl, hy, I2, rfl, G⟩ := hq
  exact ⟨_, rfl, hy.trans hx.symm, I2, J, K, h, rfl, (H0.ask X G).mono (Nat.le_succ N), by rw [G.c (by decide) (by decide), X 1000000 (by decide)]; exact hsc, by rw [G.c (by decide) (by decide), X 1000001 (by decide)]; exact hn⟩
theorem LC_today {d : Nat} {I : Nat → Nat → Int32} {J : Nat → Nat → Int64} {K : Nat → Nat → Option Nat} {h : List xSh} {N n : Nat} {sc : Nat → Int32} (H : INV I J K h N) (hsc : I 1000000 = sc) (hn : I 1000001 0 = nI n) (v : Int32) : EvP (d + 20) 70 0 [(0, .ref 0), (1, .int v)] [] (I, J, K, h) (QI (fun x t => MID (N + 1) sc n 178 [(0, .ref 98), (1, .int v)] x t)) := by
  have H0 := H
  obtain ⟨⟨S, hN⟩, ⟨nh, na, dd, cb, ce, tw, sn, bn, V, C, htw, hkp⟩, ⟨⟨cq9, fd, X9⟩, ⟨hA4, hA27⟩, hLT, ⟨hT1, hT2, r9, hr9, hT3⟩, hTP, hTI⟩, k5, k18⟩ := H
  have M := V.1
  have Q := V.2.1
  have hD := AR.db M Q V.2.2.1
  have hmu := Q.mu
  have hd9 := Q.dd9
  obtain ⟨hsn, hs6⟩ := V.2.2.2.1
  obtain ⟨hbn, hb8⟩ := V.2.2.2.2.1
  have hbk := V.2.2.2.2.2
  refine EvP.mono (QC_today S C M Q v) (fun r t hq => ?_)
  obtain ⟨x, rfl, hx, I1, rfl, X⟩ := hq
  refine ⟨_, rfl, I1, J, K, h, rfl, S, ⟨by rw [X 1000000 (by decide)]; exact hsc, by rw [X 1000001 (by decide)]; exact hn⟩, fun d2 => ?_⟩
  refine EvP.mono (QM_today S X.hi M v) (fun r t hq => ?_)
  obtain ⟨y, rfl, hy, I2, rfl, G⟩ := hq
  exact ⟨_, rfl, hy.trans hx.symm, I2, J, K, h, rfl, (H0.ask X G).mono (Nat.le_succ N), by rw [G.c (by decide) (by decide), X 1000000 (by decide)]; exact hsc, by rw [G.c (by decide) (by decide), X 1000001 (by decide)]; exact hn⟩
theorem LC_enough {d : Nat} {I : Nat → Nat → Int32} {J : Nat → Nat → Int64} {K : Nat → Nat → Option Nat} {h : List xSh} {N n : Nat} {sc : Nat → Int32} (H : INV I J K h N) (hsc : I 1000000 = sc) (hn : I 1000001 0 = nI n) : EvP (d + 20) 71 0 [(0, .ref 0)] [] (I, J, K, h) (QI (fun x t => MID (N + 1) sc n 179 [(0, .ref 98)] x t)) := by
  have H0 := H
  obtain ⟨⟨S, hN⟩, ⟨nh, na, dd, cb, ce, tw, sn, bn, V, C, htw, hkp⟩, ⟨⟨cq9, fd, X9⟩, ⟨hA4, hA27⟩, hLT, ⟨hT1, hT2, r9, hr9, hT3⟩, hTP, hTI⟩, k5, k18⟩ := H
  have M := V.1
  have Q := V.2.1
  have hD := AR.db M Q V.2.2.1
  have hmu := Q.mu
  have hd9 := Q.dd9
  obtain ⟨hsn, hs6⟩ := V.2.2.2.1
  obtain ⟨hbn, hb8⟩ := V.2.2.2.2.1
  have hbk := V.2.2.2.2.2
  refine EvP.mono (QC_enough S C M Q ) (fun r t hq => ?_)
  obtain ⟨x, rfl, hx, I1, rfl, X⟩ := hq
  refine ⟨_, rfl, I1, J, K, h, rfl, S, ⟨by rw [X 1000000 (by decide)]; exact hsc, by rw [X 1000001 (by decide)]; exact hn⟩, fun d2 => ?_⟩
  refine EvP.mono (QM_enough S X.hi M ) (fun r t hq => ?_)
  obtain ⟨y, rfl, hy, I2, rfl, G⟩ := hq
  exact ⟨_, rfl, hy.trans hx.symm, I2, J, K, h, rfl, (H0.ask X G).mono (Nat.le_succ N), by rw [G.c (by decide) (by decide), X 1000000 (by decide)]; exact hsc, by rw [G.c (by decide) (by decide), X 1000001 (by decide)]; exact hn⟩
theorem LC_best {d : Nat} {I : Nat → Nat → Int32} {J : Nat → Nat → Int64} {K : Nat → Nat → Option Nat} {h : List xSh} {N n : Nat} {sc : Nat → Int32} (H : INV I J K h N) (hsc : I 1000000 = sc) (hn : I 1000001 0 = nI n) (v : Int32) : EvP (d + 20) 72 0 [(0, .ref 0), (1, .int v)] [] (I, J, K, h) (QI (fun x t => MID (N + 1) sc n 180 [(0, .ref 98), (1, .int v)] x t)) := by
  have H0 := H
  obtain ⟨⟨S, hN⟩, ⟨nh, na, dd, cb, ce, tw, sn, bn, V, C, htw, hkp⟩, ⟨⟨cq9, fd, X9⟩, ⟨hA4, hA27⟩, hLT, ⟨hT1, hT2, r9, hr9, hT3⟩, hTP, hTI⟩, k5, k18⟩ := H
  have M := V.1
  have Q := V.2.1
  have hD := AR.db M Q V.2.2.1
  have hmu := Q.mu
  have hd9 := Q.dd9
  obtain ⟨hsn, hs6⟩ := V.2.2.2.1
  obtain ⟨hbn, hb8⟩ := V.2.2.2.2.1
  have hbk := V.2.2.2.2.2
  refine EvP.mono (QC_best S C M Q v) (fun r t hq => ?_)
  obtain ⟨x, rfl, hx, I1, rfl, X⟩ := hq
  refine ⟨_, rfl, I1, J, K, h, rfl, S, ⟨by rw [X 1000000 (by decide)]; exact hsc, by rw [X 1000001 (by decide)]; exact hn⟩, fun d2 => ?_⟩
  refine EvP.mono (QM_best S X.hi M v) (fun r t hq => ?_)
  obtain ⟨y, rfl, hy, I2, rfl, G⟩ := hq
  exact ⟨_, rfl, hy.trans hx.symm, I2, J, K, h, rfl, (H0.ask X G).mono (Nat.le_succ N), by rw [G.c (by decide) (by decide), X 1000000 (by decide)]; exact hsc, by rw [G.c (by decide) (by decide), X 1000001 (by decide)]; exact hn⟩
theorem LC_on {d : Nat} {I : Nat → Nat → Int32} {J : Nat → Nat → Int64} {K : Nat → Nat → Option Nat} {h : List xSh} {N n : Nat} {sc : Nat → Int32} (H : INV I J K h N) (hsc : I 1000000 = sc) (hn : I 1000001 0 = nI n) (q : Int32) (w : Int32) : EvP (d + 20) 73 0 [(0, .ref 0), (1, .int q), (2, .int w)] [] (I, J, K, h) (QI (fun x t => MID (N + 1) sc n 183 [(0, .ref 98), (1, .int q), (2, .int w)] x t)) := by
  have H0 := H
  obtain ⟨⟨S, hN⟩, ⟨nh, na, dd, cb, ce, tw, sn, bn, V, C, htw, hkp⟩, ⟨⟨cq9, fd, X9⟩, ⟨hA4, hA27⟩, hLT, ⟨hT1, hT2, r9, hr9, hT3⟩, hTP, hTI⟩, k5, k18⟩ := H
  have M := V.1
  have Q := V.2.1
  have hD := AR.db M Q V.2.2.1
  have hmu := Q.mu
  have hd9 := Q.dd9
  obtain ⟨hsn, hs6⟩ := V.2.2.2.1
  obtain ⟨hbn, hb8⟩ := V.2.2.2.2.1
  have hbk := V.2.2.2.2.2
  refine EvP.mono (QC_on S C M Q q w) (fun r t hq => ?_)
  obtain ⟨x, rfl, hx, I1, rfl, X⟩ := hq
  refine ⟨_, rfl, I1, J, K, h, rfl, S, ⟨by rw [X 1000000 (by decide)]; exact hsc, by rw [X 1000001 (by decide)]; exact hn⟩, fun d2 => ?_⟩
  refine EvP.mono (QM_on S X.hi M hmu hd9 q w) (fun r t hq => ?_)
  obtain ⟨y, rfl, hy, I2, rfl, G⟩ := hq
  exact ⟨_, rfl, hy.trans hx.symm, I2, J, K, h, rfl, (H0.ask X G).mono (Nat.le_succ N), by rw [G.c (by decide) (by decide), X 1000000 (by decide)]; exact hsc, by rw [G.c (by decide) (by decide), X 1000001 (by decide)]; exact hn⟩
theorem LC_lasts {d : Nat} {I : Nat → Nat → Int32} {J : Nat → Nat → Int64} {K : Nat → Nat → Option Nat} {h : List xSh} {N n : Nat} {sc : Nat → Int32} (H : INV I J K h N) (hsc : I 1000000 = sc) (hn : I 1000001 0 = nI n) (q : Int32) : EvP (d + 20) 74 0 [(0, .ref 0), (1, .int q)] [] (I, J, K, h) (QI (fun x t => MID (N + 1) sc n 184 [(0, .ref 98), (1, .int q)] x t)) := by
  have H0 := H
  obtain ⟨⟨S, hN⟩, ⟨nh, na, dd, cb, ce, tw, sn, bn, V, C, htw, hkp⟩, ⟨⟨cq9, fd, X9⟩, ⟨hA4, hA27⟩, hLT, ⟨hT1, hT2, r9, hr9, hT3⟩, hTP, hTI⟩, k5, k18⟩ := H
  have M := V.1
  have Q := V.2.1
  have hD := AR.db M Q V.2.2.1
  have hmu := Q.mu
  have hd9 := Q.dd9
  obtain ⟨hsn, hs6⟩ := V.2.2.2.1
  obtain ⟨hbn, hb8⟩ := V.2.2.2.2.1
  have hbk := V.2.2.2.2.2
  refine EvP.mono (QC_lasts S C M Q q) (fun r t hq => ?_)
  obtain ⟨x, rfl, hx, I1, rfl, X⟩ := hq
  refine ⟨_, rfl, I1, J, K, h, rfl, S, ⟨by rw [X 1000000 (by decide)]; exact hsc, by rw [X 1000001 (by decide)]; exact hn⟩, fun d2 => ?_⟩
  refine EvP.mono (QM_lasts S X.hi M hmu hd9 q) (fun r t hq => ?_)
  obtain ⟨y, rfl, hy, I2, rfl, G⟩ := hq
  exact ⟨_, rfl, hy.trans hx.symm, I2, J, K, h, rfl, (H0.ask X G).mono (Nat.le_succ N), by rw [G.c (by decide) (by decide), X 1000000 (by decide)]; exact hsc, by rw [G.c (by decide) (by decide), X 1000001 (by decide)]; exact hn⟩
theorem LC_by {d : Nat} {I : Nat → Nat → Int32} {J : Nat → Nat → Int64} {K : Nat → Nat → Option Nat} {h : List xSh} {N n : Nat} {sc : Nat → Int32} (H : INV I J K h N) (hsc : I 1000000 = sc) (hn : I 1000001 0 = nI n) (v : Int32) : EvP (d + 20) 75 0 [(0, .ref 0), (1, .int v)] [] (I, J, K, h) (QI (fun x t => MID (N + 1) sc n 189 [(0, .ref 98), (1, .int v)] x t)) := by
  have H0 := H
  obtain ⟨⟨S, hN⟩, ⟨nh, na, dd, cb, ce, tw, sn, bn, V, C, htw, hkp⟩, ⟨⟨cq9, fd, X9⟩, ⟨hA4, hA27⟩, hLT, ⟨hT1, hT2, r9, hr9, hT3⟩, hTP, hTI⟩, k5, k18⟩ := H
  have M := V.1
  have Q := V.2.1
  have hD := AR.db M Q V.2.2.1
  have hmu := Q.mu
  have hd9 := Q.dd9
  obtain ⟨hsn, hs6⟩ := V.2.2.2.1
  obtain ⟨hbn, hb8⟩ := V.2.2.2.2.1
  have hbk := V.2.2.2.2.2
  refine EvP.mono (QC_by S C M Q v) (fun r t hq => ?_)
  obtain ⟨x, rfl, hx, I1, rfl, X⟩ := hq
  refine ⟨_, rfl, I1, J, K, h, rfl, S, ⟨by rw [X 1000000 (by decide)]; exact hsc, by rw [X 1000001 (by decide)]; exact hn⟩, fun d2 => ?_⟩
  refine EvP.mono (QM_by S X.hi M v) (fun r t hq => ?_)
  obtain ⟨y, rfl, hy, I2, rfl, G⟩ := hq
  exact ⟨_, rfl, hy.trans hx.symm, I2, J, K, h, rfl, (H0.ask X G).mono (Nat.le_succ N), by rw [G.c (by decide) (by decide), X 1000000 (by decide)]; exact hsc, by rw [G.c (by decide) (by decide), X 1000001 (by decide)]; exact hn⟩
theorem LC_can {d : Nat} {I : Nat → Nat → Int32} {J : Nat → Nat → Int64} {K : Nat → Nat → Option Nat} {h : List xSh} {N n : Nat} {sc : Nat → Int32} (H : INV I J K h N) (hsc : I 1000000 = sc) (hn : I 1000001 0 = nI n) : EvP (d + 20) 76 0 [(0, .ref 0)] [] (I, J, K, h) (QI (fun x t => MID (N + 1) sc n 191 [(0, .ref 98)] x t)) := by
  have H0 := H
  obtain ⟨⟨S, hN⟩, ⟨nh, na, dd, cb, ce, tw, sn, bn, V, C, htw, hkp⟩, ⟨⟨cq9, fd, X9⟩, ⟨hA4, hA27⟩, hLT, ⟨hT1, hT2, r9, hr9, hT3⟩, hTP, hTI⟩, k5, k18⟩ := H
  have M := V.1
  have Q := V.2.1
  have hD := AR.db M Q V.2.2.1
  have hmu := Q.mu
  have hd9 := Q.dd9
  obtain ⟨hsn, hs6⟩ := V.2.2.2.1
  obtain ⟨hbn, hb8⟩ := V.2.2.2.2.1
  have hbk := V.2.2.2.2.2
  refine EvP.mono (QC_can S C M Q hD) (fun r t hq => ?_)
  obtain ⟨x, rfl, hx, I1, rfl, X⟩ := hq
  refine ⟨_, rfl, I1, J, K, h, rfl, S, ⟨by rw [X 1000000 (by decide)]; exact hsc, by rw [X 1000001 (by decide)]; exact hn⟩, fun d2 => ?_⟩
  refine EvP.mono (QM_can S X.hi M ) (fun r t hq => ?_)
  obtain ⟨y, rfl, hy, I2, rfl, G⟩ := hq
  exact ⟨_, rfl, hy.trans hx.symm, I2, J, K, h, rfl, (H0.ask X G).mono (Nat.le_succ N), by rw [G.c (by decide) (by decide), X 1000000 (by decide)]; exact hsc, by rw [G.c (by decide) (by decide), X 1000001 (by decide)]; exact hn⟩
theorem LC_back {d : Nat} {I : Nat → Nat → Int32} {J : Nat → Nat → Int64} {K : Nat → Nat → Option Nat} {h : List xSh} {N n : Nat} {sc : Nat → Int32} (H : INV I J K h N) (hsc : I 1000000 = sc) (hn : I 1000001 0 = nI n) : EvP (d + 20) 77 0 [(0, .ref 0)] [] (I, J, K, h) (QI (fun x t => MID (N + 1) sc n 195 [(0, .ref 98)] x t)) := by
  have H0 := H
  obtain ⟨⟨S, hN⟩, ⟨nh, na, dd, cb, ce, tw, sn, bn, V, C, htw, hkp⟩, ⟨⟨cq9, fd, X9⟩, ⟨hA4, hA27⟩, hLT, ⟨hT1, hT2, r9, hr9, hT3⟩, hTP, hTI⟩, k5, k18⟩ := H
  have M := V.1
  have Q := V.2.1
  have hD := AR.db M Q V.2.2.1
  have hmu := Q.mu
  have hd9 := Q.dd9
  obtain ⟨hsn, hs6⟩ := V.2.2.2.1
  obtain ⟨hbn, hb8⟩ := V.2.2.2.2.1
  have hbk := V.2.2.2.2.2
  refine EvP.mono (QC_back S C M Q ) (fun r t hq => ?_)
  obtain ⟨x, rfl, hx, I1, rfl, X⟩ := hq
  refine ⟨_, rfl, I1, J, K, h, rfl, S, ⟨by rw [X 1000000 (by decide)]; exact hsc, by rw [X 1000001 (by decide)]; exact hn⟩, fun d2 => ?_⟩
  refine EvP.mono (QM_back S X.hi M Q) (fun r t hq => ?_)
  obtain ⟨y, rfl, hy, I2, rfl, G⟩ := hq
  exact ⟨_, rfl, hy.trans hx.symm, I2, J, K, h, rfl, (H0.ask X G).mono (Nat.le_succ N), by rw [G.c (by decide) (by decide), X 1000000 (by decide)]; exact hsc, by rw [G.c (by decide) (by decide), X 1000001 (by decide)]; exact hn⟩
theorem LC_gusted {d : Nat} {I : Nat → Nat → Int32} {J : Nat → Nat → Int64} {K : Nat → Nat → Option Nat} {h : List xSh} {N n : Nat} {sc : Nat → Int32} (H : INV I J K h N) (hsc : I 1000000 = sc) (hn : I 1000001 0 = nI n) (v : Int32) : EvP (d + 20) 78 0 [(0, .ref 0), (1, .int v)] [] (I, J, K, h) (QI (fun x t => MID (N + 1) sc n 197 [(0, .ref 98), (1, .int v)] x t)) := by
  have H0 := H
  obtain ⟨⟨S, hN⟩, ⟨nh, na, dd, cb, ce, tw, sn, bn, V, C, htw, hkp⟩, ⟨⟨cq9, fd, X9⟩, ⟨hA4, hA27⟩, hLT, ⟨hT1, hT2, r9, hr9, hT3⟩, hTP, hTI⟩, k5, k18⟩ := H
  have M := V.1
  have Q := V.2.1
  have hD := AR.db M Q V.2.2.1
  have hmu := Q.mu
  have hd9 := Q.dd9
  obtain ⟨hsn, hs6⟩ := V.2.2.2.1
  obtain ⟨hbn, hb8⟩ := V.2.2.2.2.1
  have hbk := V.2.2.2.2.2
  refine EvP.mono (QC_gusted S C M Q v) (fun r t hq => ?_)
  obtain ⟨x, rfl, hx, I1, rfl, X⟩ := hq
  refine ⟨_, rfl, I1, J, K, h, rfl, S, ⟨by rw [X 1000000 (by decide)]; exact hsc, by rw [X 1000001 (by decide)]; exact hn⟩, fun d2 => ?_⟩
  refine EvP.mono (QM_gusted S X.hi M hmu v) (fun r t hq => ?_)
  obtain ⟨y, rfl, hy, I2, rfl, G⟩ := hq
  exact ⟨_, rfl, hy.trans hx.symm, I2, J, K, h, rfl, (H0.ask X G).mono (Nat.le_succ N), by rw [G.c (by decide) (by decide), X 1000000 (by decide)]; exact hsc, by rw [G.c (by decide) (by decide), X 1000001 (by decide)]; exact hn⟩
theorem LC_lucky {d : Nat} {I : Nat → Nat → Int32} {J : Nat → Nat → Int64} {K : Nat → Nat → Option Nat} {h : List xSh} {N n : Nat} {sc : Nat → Int32} (H : INV I J K h N) (hsc : I 1000000 = sc) (hn : I 1000001 0 = nI n) : EvP (d + 20) 79 0 [(0, .ref 0)] [] (I, J, K, h) (QI (fun x t => MID (N + 1) sc n 198 [(0, .ref 98)] x t)) := by
  have H0 := H
  obtain ⟨⟨S, hN⟩, ⟨nh, na, dd, cb, ce, tw, sn, bn, V, C, htw, hkp⟩, ⟨⟨cq9, fd, X9⟩, ⟨hA4, hA27⟩, hLT, ⟨hT1, hT2, r9, hr9, hT3⟩, hTP, hTI⟩, k5, k18⟩ := H
  have M := V.1
  have Q := V.2.1
  have hD := AR.db M Q V.2.2.1
  have hmu := Q.mu
  have hd9 := Q.dd9
  obtain ⟨hsn, hs6⟩ := V.2.2.2.1
  obtain ⟨hbn, hb8⟩ := V.2.2.2.2.1
  have hbk := V.2.2.2.2.2
  refine EvP.mono (QC_lucky S C M Q ) (fun r t hq => ?_)
  obtain ⟨x, rfl, hx, I1, rfl, X⟩ := hq
  refine ⟨_, rfl, I1, J, K, h, rfl, S, ⟨by rw [X 1000000 (by decide)]; exact hsc, by rw [X 1000001 (by decide)]; exact hn⟩, fun d2 => ?_⟩
  refine EvP.mono (QM_lucky S X.hi M hmu) (fun r t hq => ?_)
  obtain ⟨y, rfl, hy, I2, rfl, G⟩ := hq
  exact ⟨_, rfl, hy.trans hx.symm, I2, J, K, h, rfl, (H0.ask X G).mono (Nat.le_succ N), by rw [G.c (by decide) (by decide), X 1000000 (by decide)]; exact hsc, by rw [G.c (by decide) (by decide), X 1000001 (by decide)]; exact hn⟩
theorem LC_swap {d : Nat} {I : Nat → Nat → Int32} {J : Nat → Nat → Int64} {K : Nat → Nat → Option Nat} {h : List xSh} {N n : Nat} {sc : Nat → Int32} (H : INV I J K h N) (hsc : I 1000000 = sc) (hn : I 1000001 0 = nI n) : EvP (d + 20) 80 0 [(0, .ref 0)] [] (I, J, K, h) (QI (fun x t => MID (N + 1) sc n 199 [(0, .ref 98)] x t)) := by
  have H0 := H
  obtain ⟨⟨S, hN⟩, ⟨nh, na, dd, cb, ce, tw, sn, bn, V, C, htw, hkp⟩, ⟨⟨cq9, fd, X9⟩, ⟨hA4, hA27⟩, hLT, ⟨hT1, hT2, r9, hr9, hT3⟩, hTP, hTI⟩, k5, k18⟩ := H
  have M := V.1
  have Q := V.2.1
  have hD := AR.db M Q V.2.2.1
  have hmu := Q.mu
  have hd9 := Q.dd9
  obtain ⟨hsn, hs6⟩ := V.2.2.2.1
  obtain ⟨hbn, hb8⟩ := V.2.2.2.2.1
  have hbk := V.2.2.2.2.2
  refine EvP.mono (QC_swap S C M Q hD) (fun r t hq => ?_)
  obtain ⟨x, rfl, hx, I1, rfl, X⟩ := hq
  refine ⟨_, rfl, I1, J, K, h, rfl, S, ⟨by rw [X 1000000 (by decide)]; exact hsc, by rw [X 1000001 (by decide)]; exact hn⟩, fun d2 => ?_⟩
  refine EvP.mono (QM_swap S X.hi M ) (fun r t hq => ?_)
  obtain ⟨y, rfl, hy, I2, rfl, G⟩ := hq
  exact ⟨_, rfl, hy.trans hx.symm, I2, J, K, h, rfl, (H0.ask X G).mono (Nat.le_succ N), by rw [G.c (by decide) (by decide), X 1000000 (by decide)]; exact hsc, by rw [G.c (by decide) (by decide), X 1000001 (by decide)]; exact hn⟩
theorem LC_quarrel {d : Nat} {I : Nat → Nat → Int32} {J : Nat → Nat → Int64} {K : Nat → Nat → Option Nat} {h : List xSh} {N n : Nat} {sc : Nat → Int32} (H : INV I J K h N) (hsc : I 1000000 = sc) (hn : I 1000001 0 = nI n) (v : Int32) (w : Int32) (z : Int32) : EvP (d + 20) 81 0 [(0, .ref 0), (1, .int v), (2, .int w), (3, .int z)] [] (I, J, K, h) (QI (fun x t => MID (N + 1) sc n 200 [(0, .ref 98), (1, .int v), (2, .int w), (3, .int z)] x t)) := by
  have H0 := H
  obtain ⟨⟨S, hN⟩, ⟨nh, na, dd, cb, ce, tw, sn, bn, V, C, htw, hkp⟩, ⟨⟨cq9, fd, X9⟩, ⟨hA4, hA27⟩, hLT, ⟨hT1, hT2, r9, hr9, hT3⟩, hTP, hTI⟩, k5, k18⟩ := H
  have M := V.1
  have Q := V.2.1
  have hD := AR.db M Q V.2.2.1
  have hmu := Q.mu
  have hd9 := Q.dd9
  obtain ⟨hsn, hs6⟩ := V.2.2.2.1
  obtain ⟨hbn, hb8⟩ := V.2.2.2.2.1
  have hbk := V.2.2.2.2.2
  refine EvP.mono (QC_quarrel S C M Q v w z) (fun r t hq => ?_)
  obtain ⟨x, rfl, hx, I1, rfl, X⟩ := hq
  refine ⟨_, rfl, I1, J, K, h, rfl, S, ⟨by rw [X 1000000 (by decide)]; exact hsc, by rw [X 1000001 (by decide)]; exact hn⟩, fun d2 => ?_⟩
  refine EvP.mono (QM_quarrel S X.hi M v w z) (fun r t hq => ?_)
  obtain ⟨y, rfl, hy, I2, rfl, G⟩ := hq
  exact ⟨_, rfl, hy.trans hx.symm, I2, J, K, h, rfl, (H0.ask X G).mono (Nat.le_succ N), by rw [G.c (by decide) (by decide), X 1000000 (by decide)]; exact hsc, by rw [G.c (by decide) (by decide), X 1000001 (by decide)]; exact hn⟩
theorem LC_how {d : Nat} {I : Nat → Nat → Int32} {J : Nat → Nat → Int64} {K : Nat → Nat → Option Nat} {h : List xSh} {N n : Nat} {sc : Nat → Int32} (H : INV I J K h N) (hsc : I 1000000 = sc) (hn : I 1000001 0 = nI n) (v : Int32) : EvP (d + 20) 82 0 [(0, .ref 0), (1, .int v)] [] (I, J, K, h) (QI (fun x t => MID (N + 1) sc n 201 [(0, .ref 98), (1, .int v)] x t)) := by
  have H0 := H
  obtain ⟨⟨S, hN⟩, ⟨nh, na, dd, cb, ce, tw, sn, bn, V, C, htw, hkp⟩, ⟨⟨cq9, fd, X9⟩, ⟨hA4, hA27⟩, hLT, ⟨hT1, hT2, r9, hr9, hT3⟩, hTP, hTI⟩, k5, k18⟩ := H
  have M := V.1
  have Q := V.2.1
  have hD := AR.db M Q V.2.2.1
  have hmu := Q.mu
  have hd9 := Q.dd9
  obtain ⟨hsn, hs6⟩ := V.2.2.2.1
  obtain ⟨hbn, hb8⟩ := V.2.2.2.2.1
  have hbk := V.2.2.2.2.2
  refine EvP.mono (QC_how S C M Q v) (fun r t hq => ?_)
  obtain ⟨x, rfl, hx, I1, rfl, X⟩ := hq
  refine ⟨_, rfl, I1, J, K, h, rfl, S, ⟨by rw [X 1000000 (by decide)]; exact hsc, by rw [X 1000001 (by decide)]; exact hn⟩, fun d2 => ?_⟩
  refine EvP.mono (QM_how S X.hi M v) (fun r t hq => ?_)
  obtain ⟨y, rfl, hy, I2, rfl, G⟩ := hq
  exact ⟨_, rfl, hy.trans hx.symm, I2, J, K, h, rfl, (H0.ask X G).mono (Nat.le_succ N), by rw [G.c (by decide) (by decide), X 1000000 (by decide)]; exact hsc, by rw [G.c (by decide) (by decide), X 1000001 (by decide)]; exact hn⟩
theorem LC_wore {d : Nat} {I : Nat → Nat → Int32} {J : Nat → Nat → Int64} {K : Nat → Nat → Option Nat} {h : List xSh} {N n : Nat} {sc : Nat → Int32} (H : INV I J K h N) (hsc : I 1000000 = sc) (hn : I 1000001 0 = nI n) (v : Int32) : EvP (d + 20) 84 0 [(0, .ref 0), (1, .int v)] [] (I, J, K, h) (QI (fun x t => MID (N + 1) sc n 204 [(0, .ref 98), (1, .int v)] x t)) := by
  have H0 := H
  obtain ⟨⟨S, hN⟩, ⟨nh, na, dd, cb, ce, tw, sn, bn, V, C, htw, hkp⟩, ⟨⟨cq9, fd, X9⟩, ⟨hA4, hA27⟩, hLT, ⟨hT1, hT2, r9, hr9, hT3⟩, hTP, hTI⟩, k5, k18⟩ := H
  have M := V.1
  have Q := V.2.1
  have hD := AR.db M Q V.2.2.1
  have hmu := Q.mu
  have hd9 := Q.dd9
  obtain ⟨hsn, hs6⟩ := V.2.2.2.1
  obtain ⟨hbn, hb8⟩ := V.2.2.2.2.1
  have hbk := V.2.2.2.2.2
  refine EvP.mono (QC_wore S C M Q hsn hs6 v) (fun r t hq => ?_)
  obtain ⟨x, rfl, hx, I1, rfl, X⟩ := hq
  refine ⟨_, rfl, I1, J, K, h, rfl, S, ⟨by rw [X 1000000 (by decide)]; exact hsc, by rw [X 1000001 (by decide)]; exact hn⟩, fun d2 => ?_⟩
  refine EvP.mono (QM_wore S X.hi M hsn hs6 v) (fun r t hq => ?_)
  obtain ⟨y, rfl, hy, I2, rfl, G⟩ := hq
  exact ⟨_, rfl, hy.trans hx.symm, I2, J, K, h, rfl, (H0.ask X G).mono (Nat.le_succ N), by rw [G.c (by decide) (by decide), X 1000000 (by decide)]; exact hsc, by rw [G.c (by decide) (by decide), X 1000001 (by decide)]; exact hn⟩
theorem LC_who {d : Nat} {I : Nat → Nat → Int32} {J : Nat → Nat → Int64} {K : Nat → Nat → Option Nat} {h : List xSh} {N n : Nat} {sc : Nat → Int32} (H : INV I J K h N) (hsc : I 1000000 = sc) (hn : I 1000001 0 = nI n) : EvP (d + 20) 85 0 [(0, .ref 0)] [] (I, J, K, h) (QI (fun x t => MID (N + 1) sc n 205 [(0, .ref 98)] x t)) := by
  have H0 := H
  obtain ⟨⟨S, hN⟩, ⟨nh, na, dd, cb, ce, tw, sn, bn, V, C, htw, hkp⟩, ⟨⟨cq9, fd, X9⟩, ⟨hA4, hA27⟩, hLT, ⟨hT1, hT2, r9, hr9, hT3⟩, hTP, hTI⟩, k5, k18⟩ := H
  have M := V.1
  have Q := V.2.1
  have hD := AR.db M Q V.2.2.1
  have hmu := Q.mu
  have hd9 := Q.dd9
  obtain ⟨hsn, hs6⟩ := V.2.2.2.1
  obtain ⟨hbn, hb8⟩ := V.2.2.2.2.1
  have hbk := V.2.2.2.2.2
  refine EvP.mono (QC_who S C M Q hsn hs6) (fun r t hq => ?_)
  obtain ⟨x, rfl, hx, I1, rfl, X⟩ := hq
  refine ⟨_, rfl, I1, J, K, h, rfl, S, ⟨by rw [X 1000000 (by decide)]; exact hsc, by rw [X 1000001 (by decide)]; exact hn⟩, fun d2 => ?_⟩
  refine EvP.mono (QM_who S X.hi M hsn hs6) (fun r t hq => ?_)
  obtain ⟨y, rfl, hy, I2, rfl, G⟩ := hq
  exact ⟨_, rfl, hy.trans hx.symm, I2, J, K, h, rfl, (H0.ask X G).mono (Nat.le_succ N), by rw [G.c (by decide) (by decide), X 1000000 (by decide)]; exact hsc, by rw [G.c (by decide) (by decide), X 1000001 (by decide)]; exact hn⟩
theorem LC_odds {d : Nat} {I : Nat → Nat → Int32} {J : Nat → Nat → Int64} {K : Nat → Nat → Option Nat} {h : List xSh} {N n : Nat} {sc : Nat → Int32} (H : INV I J K h N) (hsc : I 1000000 = sc) (hn : I 1000001 0 = nI n) (q : Int32) (p : Int32) : EvP (d + 20) 86 0 [(0, .ref 0), (1, .int q), (2, .int p)] [] (I, J, K, h) (QL (fun x t => MIDL (N + 1) sc n 208 [(0, .ref 98), (1, .int q), (2, .int p)] x t)) := by
  have H0 := H
  obtain ⟨⟨S, hN⟩, ⟨nh, na, dd, cb, ce, tw, sn, bn, V, C, htw, hkp⟩, ⟨⟨cq9, fd, X9⟩, ⟨hA4, hA27⟩, hLT, ⟨hT1, hT2, r9, hr9, hT3⟩, hTP, hTI⟩, k5, k18⟩ := H
  have M := V.1
  have Q := V.2.1
  have hD := AR.db M Q V.2.2.1
  have hmu := Q.mu
  have hd9 := Q.dd9
  obtain ⟨hsn, hs6⟩ := V.2.2.2.1
  obtain ⟨hbn, hb8⟩ := V.2.2.2.2.1
  have hbk := V.2.2.2.2.2
  refine EvP.mono (QC_odds S C M Q q p) (fun r t hq => ?_)
  obtain ⟨x, rfl, hx, I1, rfl, X⟩ := hq
  refine ⟨_, rfl, I1, J, K, h, rfl, S, ⟨by rw [X 1000000 (by decide)]; exact hsc, by rw [X 1000001 (by decide)]; exact hn⟩, fun d2 => ?_⟩
  refine EvP.mono (QM_odds S X.hi M hmu q p) (fun r t hq => ?_)
  obtain ⟨y, rfl, hy, I2, rfl, G⟩ := hq
  exact ⟨_, rfl, hy.trans hx.symm, I2, J, K, h, rfl, (H0.ask X G).mono (Nat.le_succ N), by rw [G.c (by decide) (by decide), X 1000000 (by decide)]; exact hsc, by rw [G.c (by decide) (by decide), X 1000001 (by decide)]; exact hn⟩
theorem LC_mean {d : Nat} {I : Nat → Nat → Int32} {J : Nat → Nat → Int64} {K : Nat → Nat → Option Nat} {h : List xSh} {N n : Nat} {sc : Nat → Int32} (H : INV I J K h N) (hsc : I 1000000 = sc) (hn : I 1000001 0 = nI n) (v : Int32) (p : Int32) : EvP (d + 20) 87 0 [(0, .ref 0), (1, .int v), (2, .int p)] [] (I, J, K, h) (QL (fun x t => MIDL (N + 1) sc n 209 [(0, .ref 98), (1, .int v), (2, .int p)] x t)) := by
  have H0 := H
  obtain ⟨⟨S, hN⟩, ⟨nh, na, dd, cb, ce, tw, sn, bn, V, C, htw, hkp⟩, ⟨⟨cq9, fd, X9⟩, ⟨hA4, hA27⟩, hLT, ⟨hT1, hT2, r9, hr9, hT3⟩, hTP, hTI⟩, k5, k18⟩ := H
  have M := V.1
  have Q := V.2.1
  have hD := AR.db M Q V.2.2.1
  have hmu := Q.mu
  have hd9 := Q.dd9
  obtain ⟨hsn, hs6⟩ := V.2.2.2.1
  obtain ⟨hbn, hb8⟩ := V.2.2.2.2.1
  have hbk := V.2.2.2.2.2
  refine EvP.mono (QC_mean S C M Q hD v p) (fun r t hq => ?_)
  obtain ⟨x, rfl, hx, I1, rfl, X⟩ := hq
  refine ⟨_, rfl, I1, J, K, h, rfl, S, ⟨by rw [X 1000000 (by decide)]; exact hsc, by rw [X 1000001 (by decide)]; exact hn⟩, fun d2 => ?_⟩
  refine EvP.mono (QM_mean S X.hi M hD v p) (fun r t hq => ?_)
  obtain ⟨y, rfl, hy, I2, rfl, G⟩ := hq
  exact ⟨_, rfl, hy.trans hx.symm, I2, J, K, h, rfl, (H0.ask X G).mono (Nat.le_succ N), by rw [G.c (by decide) (by decide), X 1000000 (by decide)]; exact hsc, by rw [G.c (by decide) (by decide), X 1000001 (by decide)]; exact hn⟩
theorem LC_looked {d : Nat} {I : Nat → Nat → Int32} {J : Nat → Nat → Int64} {K : Nat → Nat → Option Nat} {h : List xSh} {N n : Nat} {sc : Nat → Int32} (H : INV I J K h N) (hsc : I 1000000 = sc) (hn : I 1000001 0 = nI n) : EvP (d + 20) 89 0 [(0, .ref 0)] [] (I, J, K, h) (QI (fun x t => MID (N + 1) sc n 211 [(0, .ref 98)] x t)) := by
  have H0 := H
  obtain ⟨⟨S, hN⟩, ⟨nh, na, dd, cb, ce, tw, sn, bn, V, C, htw, hkp⟩, ⟨⟨cq9, fd, X9⟩, ⟨hA4, hA27⟩, hLT, ⟨hT1, hT2, r9, hr9, hT3⟩, hTP, hTI⟩, k5, k18⟩ := H
  have M := V.1
  have Q := V.2.1
  have hD := AR.db M Q V.2.2.1
  have hmu := Q.mu
  have hd9 := Q.dd9
  obtain ⟨hsn, hs6⟩ := V.2.2.2.1
  obtain ⟨hbn, hb8⟩ := V.2.2.2.2.1
  have hbk := V.2.2.2.2.2
  refine EvP.mono (QC_looked S C M Q hbn hb8 hbk) (fun r t hq => ?_)
  obtain ⟨x, rfl, hx, I1, rfl, X⟩ := hq
  refine ⟨_, rfl, I1, J, K, h, rfl, S, ⟨by rw [X 1000000 (by decide)]; exact hsc, by rw [X 1000001 (by decide)]; exact hn⟩, fun d2 => ?_⟩
  refine EvP.mono (QM_looked S X.hi M hbn hb8 hbk) (fun r t hq => ?_)
  obtain ⟨y, rfl, hy, I2, rfl, G⟩ := hq
  exact ⟨_, rfl, hy.trans hx.symm, I2, J, K, h, rfl, (H0.ask X G).mono (Nat.le_succ N), by rw [G.c (by decide) (by decide), X 1000000 (by decide)]; exact hsc, by rw [G.c (by decide) (by decide), X 1000001 (by decide)]; exact hn⟩
theorem LC_taken {d : Nat} {I : Nat → Nat → Int32} {J : Nat → Nat → Int64} {K : Nat → Nat → Option Nat} {h : List xSh} {N n : Nat} {sc : Nat → Int32} (H : INV I J K h N) (hsc : I 1000000 = sc) (hn : I 1000001 0 = nI n) (v : Int32) (w : Int32) : EvP (d + 20) 95 0 [(0, .ref 0), (1, .int v), (2, .int w)] [] (I, J, K, h) (QI (fun x t => MID (N + 1) sc n 225 [(0, .ref 98), (1, .int v), (2, .int w)] x t)) := by
  have H0 := H
  obtain ⟨⟨S, hN⟩, ⟨nh, na, dd, cb, ce, tw, sn, bn, V, C, htw, hkp⟩, ⟨⟨cq9, fd, X9⟩, ⟨hA4, hA27⟩, hLT, ⟨hT1, hT2, r9, hr9, hT3⟩, hTP, hTI⟩, k5, k18⟩ := H
  have M := V.1
  have Q := V.2.1
  have hD := AR.db M Q V.2.2.1
  have hmu := Q.mu
  have hd9 := Q.dd9
  obtain ⟨hsn, hs6⟩ := V.2.2.2.1
  obtain ⟨hbn, hb8⟩ := V.2.2.2.2.1
  have hbk := V.2.2.2.2.2
  refine EvP.mono (QC_taken S C M Q v w) (fun r t hq => ?_)
  obtain ⟨x, rfl, hx, I1, rfl, X⟩ := hq
  refine ⟨_, rfl, I1, J, K, h, rfl, S, ⟨by rw [X 1000000 (by decide)]; exact hsc, by rw [X 1000001 (by decide)]; exact hn⟩, fun d2 => ?_⟩
  refine EvP.mono (QM_taken S X.hi M v w) (fun r t hq => ?_)
  obtain ⟨y, rfl, hy, I2, rfl, G⟩ := hq
  exact ⟨_, rfl, hy.trans hx.symm, I2, J, K, h, rfl, (H0.ask X G).mono (Nat.le_succ N), by rw [G.c (by decide) (by decide), X 1000000 (by decide)]; exact hsc, by rw [G.c (by decide) (by decide), X 1000001 (by decide)]; exact hn⟩
theorem LC_trace {d : Nat} {I : Nat → Nat → Int32} {J : Nat → Nat → Int64} {K : Nat → Nat → Option Nat} {h : List xSh} {N n : Nat} {sc : Nat → Int32} (H : INV I J K h N) (hsc : I 1000000 = sc) (hn : I 1000001 0 = nI n) (v : Int32) : EvP (d + 20) 94 0 [(0, .ref 0), (1, .int v)] [] (I, J, K, h) (QI (fun x t => MID (N + 1) sc n 224 [(0, .ref 98), (1, .int v)] x t)) := by
  have H0 := H
  obtain ⟨⟨S, hN⟩, ⟨nh, na, dd, cb, ce, tw, sn, bn, V, C, htw, hkp⟩, ⟨⟨cq9, fd, X9⟩, ⟨hA4, hA27⟩, hLT, ⟨hT1, hT2, r9, hr9, hT3⟩, hTP, hTI⟩, k5, k18⟩ := H
  have M := V.1
  have Q := V.2.1
  have hD := AR.db M Q V.2.2.1
  have hmu := Q.mu
  have hd9 := Q.dd9
  obtain ⟨hsn, hs6⟩ := V.2.2.2.1
  obtain ⟨hbn, hb8⟩ := V.2.2.2.2.1
  have hbk := V.2.2.2.2.2
  refine EvP.mono (QC_trace S C M Q hT3 hr9 hT1 hT2 v) (fun r t hq => ?_)
  obtain ⟨x, rfl, hx, I1, rfl, X⟩ := hq
  refine ⟨_, rfl, I1, J, K, h, rfl, S, ⟨by rw [X 1000000 (by decide)]; exact hsc, by rw [X 1000001 (by decide)]; exact hn⟩, fun d2 => ?_⟩
  refine EvP.mono (QM_trace S X.hi M v) (fun r t hq => ?_)
  obtain ⟨y, rfl, hy, I2, rfl, G⟩ := hq
  exact ⟨_, rfl, hy.trans hx.symm, I2, J, K, h, rfl, (H0.ask X G).mono (Nat.le_succ N), by rw [G.c (by decide) (by decide), X 1000000 (by decide)]; exact hsc, by rw [G.c (by decide) (by decide), X 1000001 (by decide)]; exact hn⟩
theorem LC_count {d : Nat} {I : Nat → Nat → Int32} {J : Nat → Nat → Int64} {K : Nat → Nat → Option Nat} {h : List xSh} {N n : Nat} {sc : Nat → Int32} (H : INV I J K h N) (hsc : I 1000000 = sc) (hn : I 1000001 0 = nI n) (w : Int32) : EvP (d + 20) 96 0 [(0, .ref 0), (1, .int w)] [] (I, J, K, h) (QI (fun x t => MID (N + 1) sc n 226 [(0, .ref 98), (1, .int w)] x t)) := by
  have H0 := H
  obtain ⟨⟨S, hN⟩, ⟨nh, na, dd, cb, ce, tw, sn, bn, V, C, htw, hkp⟩, ⟨⟨cq9, fd, X9⟩, ⟨hA4, hA27⟩, hLT, ⟨hT1, hT2, r9, hr9, hT3⟩, hTP, hTI⟩, k5, k18⟩ := H
  have M := V.1
  have Q := V.2.1
  have hD := AR.db M Q V.2.2.1
  have hmu := Q.mu
  have hd9 := Q.dd9
  obtain ⟨hsn, hs6⟩ := V.2.2.2.1
  obtain ⟨hbn, hb8⟩ := V.2.2.2.2.1
  have hbk := V.2.2.2.2.2
  refine EvP.mono (QC_count S C M Q (C.tc.trans htw.symm) hA4 hT1 w) (fun r t hq => ?_)
  obtain ⟨x, rfl, hx, I1, rfl, X⟩ := hq
  refine ⟨_, rfl, I1, J, K, h, rfl, S, ⟨by rw [X 1000000 (by decide)]; exact hsc, by rw [X 1000001 (by decide)]; exact hn⟩, fun d2 => ?_⟩
  refine EvP.mono (QM_count S X.hi M w) (fun r t hq => ?_)
  obtain ⟨y, rfl, hy, I2, rfl, G⟩ := hq
  exact ⟨_, rfl, hy.trans hx.symm, I2, J, K, h, rfl, (H0.ask X G).mono (Nat.le_succ N), by rw [G.c (by decide) (by decide), X 1000000 (by decide)]; exact hsc, by rw [G.c (by decide) (by decide), X 1000001 (by decide)]; exact hn⟩
