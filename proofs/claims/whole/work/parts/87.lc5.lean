/-! a town as it is kept holds what clauses want; the law: town -/
theorem rt_ok {k : Nat} (h : tkOK k) : tokOK (rtN k) := by
  unfold rtN tokOK
  rcases h with rfl | rfl | rfl | ⟨h1, h2⟩
  · exact Or.inl rfl
  · exact Or.inr (Or.inl rfl)
  · exact Or.inr (Or.inr (Or.inl rfl))
  · rw [if_neg (by omega), if_neg (by omega), if_neg (by omega)]
    exact Or.inr (Or.inr (Or.inr ⟨k, h1, rfl⟩))
/-- the reference's towns -/
def TWR (R : Nat → Nat → Int32) (tw : Nat) : Prop := ∀ tt, tt < tw → ∃ CL : List xCl, R 111 tt = nI CL.length ∧ CL.length ≤ 10 ∧ RTg R (R 117) tt CL (100 * tt + 100)
theorem TWR.ok {R : Nat → Nat → Int32} {tw : Nat} (H : TWR R tw) (h6 : tw ≤ 6) (g : R 98 15 = -1 ∨ ∃ tt, tt < tw ∧ R 98 15 = nI tt) : ∃ cb ce, TH R cb ce ∧ WF R cb ce ∧ CN9 R cb ce := by
  rcases g with e | ⟨tt, ht, e⟩
  · exact ⟨0, 0, Or.inl ⟨by rw [e]; decide, rfl, rfl⟩, fun c h1 h2 => absurd h2 (Nat.not_lt_zero _), ⟨by decide, fun c h1 h2 => absurd h2 (Nat.not_lt_zero _)⟩⟩
  · obtain ⟨CL, h1, h2, h3⟩ := H tt ht
    refine ⟨10 * tt, 10 * tt + CL.length, Or.inr ⟨tt, CL.length, by omega, e, h1, h2, rfl, rfl⟩, fun c k1 k2 k3 => ?_, ⟨by omega, fun c k1 k2 => ?_⟩⟩
    · obtain ⟨i, hi⟩ : ∃ i, c = 10 * tt + i := ⟨c - 10 * tt, by omega⟩
      subst hi
      have hx := h3 i (by omega)
      generalize CL.getD i (0, 0, 0, []) = x at hx
      obtain ⟨⟨g1, g2, g3⟩, g4, g5, g6, g7⟩ := hx
      have hx2 : x.1 < 2 := by
        rw [g4, i_lt, nI_t (by decide), nI_t (by omega)] at k3
        omega
      obtain ⟨s1a, f0, s2, s3, s4, s5, s6⟩ := g7 hx2
      refine ⟨f0, f0 + x.2.2.2.length, s4, s5, by omega, by omega, by omega, fun k q1 q2 => ?_, fun tst => ?_⟩
      · obtain ⟨m, hm⟩ : ∃ m, k = f0 + m := ⟨k - f0, by omega⟩
        subst hm
        rw [s6 m (by omega)]
        refine rt_ok (s1a.1 _ ?_)
        rw [List.getD_eq_getElem?_getD, List.getElem?_eq_getElem (show m < x.2.2.2.length by omega)]
        exact List.getElem_mem _
      · obtain ⟨b, hb, _⟩ := s1a.2 tst
        refine ⟨b, ?_⟩
        rw [show f0 + x.2.2.2.length - f0 = x.2.2.2.length by omega, evs_evL s1a.1 s6]
        exact hb []
    · obtain ⟨i, hi⟩ : ∃ i, c = 10 * tt + i := ⟨c - 10 * tt, by omega⟩
      subst hi
      have hx := h3 i (by omega)
      generalize CL.getD i (0, 0, 0, []) = x at hx
      exact ⟨x.2.1, hx.1.2.1, hx.2.2.1⟩
theorem TW9.r {I : Nat → Nat → Int32} {tw : Nat} (H : TW9 I tw) : TWR I tw := fun tt ht => by
  obtain ⟨CL, _, h2, h3, h4⟩ := H tt ht
  exact ⟨CL, h2, h3, h4⟩
theorem SV.tr3 {R R2 : Nat → Nat → Int32} {nh na dd cb ce cb2 ce2 sn bn : Nat} (H : SV R nh na dd cb ce sn bn) (e : ∀ c, (99 ≤ c ∧ c ≤ 108) ∨ c = 131 ∨ c = 132 → R2 c = R c) (f : ∀ k, k = 0 ∨ k = 1 ∨ k = 2 ∨ k = 33 ∨ k = 43 ∨ k = 47 → R2 98 k = R 98 k) (T : TH R2 cb2 ce2) (W : WF R2 cb2 ce2) (N2 : CN9 R2 cb2 ce2) : SV R2 nh na dd cb2 ce2 sn bn := by
  obtain ⟨M, Q, N, s1a, b1, b2⟩ := H
  have f0 := f 0 (by omega)
  have f1 := f 1 (by omega)
  have f2 := f 2 (by omega)
  have f33 := f 33 (by omega)
  have f43 := f 43 (by omega)
  have f47 := f 47 (by omega)
  have e99 := e 99 (by omega)
  have e100 := e 100 (by omega)
  have e101 := e 101 (by omega)
  have e102 := e 102 (by omega)
  have e103 := e 103 (by omega)
  have e104 := e 104 (by omega)
  have e105 := e 105 (by omega)
  have e106 := e 106 (by omega)
  have e107 := e 107 (by omega)
  have e108 := e 108 (by omega)
  have e131 := e 131 (by omega)
  have e132 := e 132 (by omega)
  exact ⟨⟨by rw [f0]; exact M.nh, M.nh6, by rw [f1]; exact M.na, M.na6, by rw [f2]; exact M.dd, M.dd5, T, W, by rw [e101]; exact M.worn, by rw [e102]; exact M.kind⟩, ⟨by rw [e101]; exact Q.dist, by rw [e107]; exact Q.used, by rw [e104]; exact Q.hsz, by rw [e99]; exact Q.fsz, by rw [e103]; exact Q.vv, by rw [e105]; exact Q.sk, by rw [e106]; exact Q.tr, by rw [e108]; exact Q.ro, by rw [e100]; exact Q.own, Q.dd9, by rw [f33]; exact Q.mu⟩, N2, by rw [f43]; exact s1a, by rw [f47]; exact b1, by rw [e131, e132]; exact b2⟩
theorem HO.k {I I2 : Nat → Nat → Int32} {K K2 : Nat → Nat → Option Nat} {h : List xSh} {KA : Nat → Option Nat} {R2 R3 R4 R6 : Nat → Int32} {a : Nat} (H : HO I K h KA R2 R3 R4 R6 a) (e : ∀ q, 153 ≤ q → q < h.length → I2 q = I q ∧ K2 q = K q) : HO I2 K2 h KA R2 R3 R4 R6 a := by
  obtain ⟨q, k, ⟨h1, h2⟩, h3, h4, h5, h6, h7, h8, h9⟩ := H
  have hl : q < h.length := by
    by_cases z : q < h.length
    · exact z
    · have := h3.2.2
      rw [List.getElem?_eq_none (by omega)] at this
      cases this
  obtain ⟨e1, e2⟩ := e q h2 hl
  refine ⟨q, k, ⟨h1, h2⟩, h3, ?_⟩
  rw [e1, e2]
  exact ⟨h4, h5, h6, h7, h8, h9⟩
theorem RTg.old {R R2 : Nat → Nat → Int32} {tt tw m : Nat} {CL : List xCl} (h : RTg R (R 117) tt CL m) (ht : tt < tw) (hl : CL.length ≤ 10) (hm : m ≤ 100 * tw) (e : ∀ x i, 112 ≤ x → x ≤ 116 → i < 10 * tw → R2 x i = R x i) (e2 : ∀ i, i < 100 * tw → R2 117 i = R 117 i) : RTg R2 (R2 117) tt CL m := by
  intro i hi
  have hx := h i hi
  generalize CL.getD i (0, 0, 0, []) = x at hx ⊢
  obtain ⟨g0, g4, g5, g6, g7⟩ := hx
  have hc : 10 * tt + i < 10 * tw := by omega
  refine ⟨g0, (e 112 _ (by decide) (by decide) hc).trans g4, (e 113 _ (by decide) (by decide) hc).trans g5, fun z => (e 114 _ (by decide) (by decide) hc).trans (g6 z), fun z => ?_⟩
  obtain ⟨s1a, f0, s2, s3, s4, s5, s6⟩ := g7 z
  exact ⟨s1a, f0, s2, s3, (e 115 _ (by decide) (by decide) hc).trans s4, (e 116 _ (by decide) (by decide) hc).trans s5, fun i hi => (e2 _ (by omega)).trans (s6 i hi)⟩
/-- a town read, or none -/
theorem INV.twn {I I2 : Nat → Nat → Int32} {J : Nat → Nat → Int64} {K : Nat → Nat → Option Nat} {h : List xSh} {N nh na dd cb ce tw tw2 sn bn : Nat} (HS : St K h ∧ HL h N) (V : SV I nh na dd cb ce sn bn) (C : CR I K h I na tw) (hk : KEPT I K h tw) (HD : SID I J) (k5 : KHT K h 5) (k18 : KHT K h 18) (h6 : tw < 6) (h2 : tw ≤ tw2 ∧ tw2 ≤ 6) (F : ∀ c, c ≠ 0 → c ≠ 1 → c < 98 → (c < 44 + 9 * tw ∨ 44 + 9 * tw + 6 < c) → I2 c = I c) (F2 : ∀ c, 98 < c → (c < 111 ∨ 118 < c) → I2 c = I c) (f0 : ∀ k, k ≠ 4 → k ≠ 7 → I2 0 k = I 0 k) (f04 : I2 0 4 = nI 0) (f07 : I2 0 7 = nI tw2) (f1 : ∀ k, k ≠ 17 → I2 1 k = I 1 k) (f117 : I2 1 17 = I2 98 15) (f98 : ∀ k, k < 14 ∨ (18 < k ∧ k ≠ 28 ∧ k ≠ 29 ∧ k ≠ 30) → I2 98 k = I 98 k) (f16 : I2 98 16 = nI 0) (f14 : I2 98 14 = nI tw2) (tg : I2 98 15 = -1 ∨ ∃ tt, tt < tw2 ∧ I2 98 15 = nI tt) (TW : TW9 I2 tw2) : INV I2 J (upc K (44 + 9 * tw) (upc (K (44 + 9 * tw)) 8 (some 27))) h N := by
  obtain ⟨⟨cq9, fd, X9⟩, ⟨hA4, hA27⟩, hLT, ⟨hT1, hT2, hT3⟩, hTP, hTI⟩ := HD
  have E := C.ce
  have hlo : ∀ c, 1 < c → c < 44 → I2 c = I c := fun c a b => F c (by omega) (by omega) (by omega) (by omega)
  have hhi : ∀ c, 98 < c → (c < 111 ∨ 118 < c) → I2 c = I c := F2
  have hq : ∀ q, 153 ≤ q → I2 q = I q ∧ upc K (44 + 9 * tw) (upc (K (44 + 9 * tw)) 8 (some 27)) q = K q := fun q hq => ⟨F2 q (by omega) (by omega), upc_ne _ _ (by omega)⟩
  have hk5 : upc K (44 + 9 * tw) (upc (K (44 + 9 * tw)) 8 (some 27)) 5 = K 5 := upc_ne _ _ (by omega)
  have hk18 : upc K (44 + 9 * tw) (upc (K (44 + 9 * tw)) 8 (some 27)) 18 = K 18 := upc_ne _ _ (by omega)
  obtain ⟨cb2, ce2, T2, W2, N2⟩ := TW.r.ok h2.2 tg
  refine ⟨⟨HS.1.src ⟨by omega, by omega⟩ _, HS.2⟩, ⟨nh, na, dd, cb2, ce2, tw2, sn, bn, V.tr3 (fun c hc => hhi c (by omega) (by omega)) (fun k hk => f98 k (by omega)) T2 W2 N2, ?_, f14, ?_, TW⟩, ?_, ?_, ?_⟩
  · refine ⟨by rw [f1 0 (by decide), f98 0 (by omega)]; exact E.heads, by rw [f1 4 (by decide), f98 1 (by omega)]; exact E.hats, by rw [f1 9 (by decide), f98 2 (by omega)]; exact E.day, by rw [f1 11 (by decide), f98 43 (by omega)]; exact E.seen, by rw [f1 14 (by decide), f98 47 (by omega)]; exact E.booked, f117, by rw [hlo 2 (by omega) (by omega), hhi 99 (by omega) (by omega)]; exact E.a2, by rw [hlo 3 (by omega) (by omega), hhi 100 (by omega) (by omega)]; exact E.a3, by rw [hlo 4 (by omega) (by omega), hhi 101 (by omega) (by omega)]; exact E.a4, by rw [hlo 6 (by omega) (by omega), hhi 105 (by omega) (by omega)]; exact E.a6, by rw [hlo 7 (by omega) (by omega), hhi 107 (by omega) (by omega)]; exact E.a7, by rw [hlo 8 (by omega) (by omega), hhi 108 (by omega) (by omega)]; exact E.a8, by rw [hlo 9 (by omega) (by omega), hhi 109 (by omega) (by omega)]; exact E.a9, by rw [hlo 10 (by omega) (by omega), hhi 128 (by omega) (by omega)]; exact E.a10, by rw [hlo 11 (by omega) (by omega), hhi 129 (by omega) (by omega)]; exact E.a11, by rw [hlo 12 (by omega) (by omega), hhi 131 (by omega) (by omega)]; exact E.a12, by rw [hlo 13 (by omega) (by omega), hhi 132 (by omega) (by omega)]; exact E.a13, f07, h2.2, tg, by rw [hlo 29 (by omega) (by omega)]; exact C.no, fun tt ht => ?_, fun a ha => ?_⟩
    · obtain ⟨CL, t1, t2, t3, t4⟩ := TW tt ht
      exact ⟨CL, t1, t2, t3, t4.le (by omega)⟩
    · rw [hk5, hhi 102 (by omega) (by omega), hhi 103 (by omega) (by omega), hhi 104 (by omega) (by omega), hhi 106 (by omega) (by omega)]
      exact (C.hat a ha).k (fun q z _ => hq q z)
  · obtain ⟨⟨z1, z3, z2⟩, _⟩ := hk
    refine ⟨by rw [f0 2 (by decide) (by decide), f98 50 (by omega)]; exact z1, ?_, ?_⟩
    · unfold KEQ at z3 ⊢
      rw [hlo 14 (by omega) (by omega), f98 52 (by omega), f98 53 (by omega), f98 54 (by omega), f98 55 (by omega), f98 56 (by omega), f98 51 (by omega)]
      rw [hlo 15 (by omega) (by omega), hlo 16 (by omega) (by omega), hlo 17 (by omega) (by omega), hlo 19 (by omega) (by omega), hlo 20 (by omega) (by omega), hlo 21 (by omega) (by omega), hlo 22 (by omega) (by omega), hlo 23 (by omega) (by omega), hlo 24 (by omega) (by omega), hlo 25 (by omega) (by omega), hlo 26 (by omega) (by omega)]
      rw [hhi 133 (by omega) (by omega), hhi 134 (by omega) (by omega), hhi 135 (by omega) (by omega), hhi 139 (by omega) (by omega), hhi 141 (by omega) (by omega), hhi 142 (by omega) (by omega), hhi 143 (by omega) (by omega), hhi 144 (by omega) (by omega), hhi 145 (by omega) (by omega), hhi 146 (by omega) (by omega), hhi 147 (by omega) (by omega)]
      exact z3
    rw [f98 50 (by omega)]
    rcases z2 with z2 | ⟨nh3, na3, dd3, cb3, ce3, sn3, bn3, z4, z5, z6⟩
    · exact Or.inl z2
    · have TV : TWR (VW I2) tw2 := TW.r
      have tgv : VW I2 98 15 = -1 ∨ ∃ tt, tt < tw2 ∧ VW I2 98 15 = nI tt := by
        show I2 98 51 = -1 ∨ ∃ tt, tt < tw2 ∧ I2 98 51 = nI tt
        rw [f98 51 (by omega)]
        rcases z5 with y | ⟨tt, y1, y2⟩
        · exact Or.inl y
        · exact Or.inr ⟨tt, by omega, y2⟩
      obtain ⟨cb4, ce4, T4, W4, N4⟩ := TV.ok h2.2 tgv
      refine Or.inr ⟨nh3, na3, dd3, cb4, ce4, sn3, bn3, z4.tr3 (fun c hc => ?_) (fun k hk => ?_) T4 W4 N4, ?_, fun a ha => ?_⟩
      · have hx : c = 99 ∨ c = 100 ∨ c = 101 ∨ c = 102 ∨ c = 103 ∨ c = 104 ∨ c = 105 ∨ c = 106 ∨ c = 107 ∨ c = 108 ∨ c = 131 ∨ c = 132 := by omega
        rcases hx with rfl | rfl | rfl | rfl | rfl | rfl | rfl | rfl | rfl | rfl | rfl | rfl
        · exact hhi 133 (by omega) (by omega)
        · exact hhi 134 (by omega) (by omega)
        · exact hhi 135 (by omega) (by omega)
        · exact hhi 136 (by omega) (by omega)
        · exact hhi 137 (by omega) (by omega)
        · exact hhi 138 (by omega) (by omega)
        · exact hhi 139 (by omega) (by omega)
        · exact hhi 140 (by omega) (by omega)
        · exact hhi 141 (by omega) (by omega)
        · exact hhi 142 (by omega) (by omega)
        · exact hhi 146 (by omega) (by omega)
        · exact hhi 147 (by omega) (by omega)
      · rcases hk with rfl | rfl | rfl | rfl | rfl | rfl
        · exact f98 52 (by omega)
        · exact f98 53 (by omega)
        · exact f98 54 (by omega)
        · exact f98 33 (by omega)
        · exact f98 55 (by omega)
        · exact f98 56 (by omega)
      · exact tgv
      · rw [hk18, hhi 136 (by omega) (by omega), hhi 137 (by omega) (by omega), hhi 138 (by omega) (by omega), hhi 140 (by omega) (by omega)]
        exact (z6 a ha).k (fun q z _ => hq q z)
  · refine ⟨⟨fun _ => 200, 0, f16, by decide, fun p => ⟨fun _ => rfl, fun hp => absurd hp (Nat.not_lt_zero _)⟩, fun p hp => absurd hp (Nat.not_lt_zero _)⟩, ⟨f04.trans f16.symm, by rw [hlo 27 (by omega) (by omega), hhi 110 (by omega) (by omega)]; exact hA27⟩, fun i hi => by rw [hhi 119 (by omega) (by omega)]; exact hLT i hi, ⟨by rw [hlo 36 (by omega) (by omega), f98 72 (by omega)]; exact hT1, by rw [hlo 37 (by omega) (by omega), hhi 148 (by omega) (by omega)]; exact hT2, by rw [f98 72 (by omega)]; exact hT3⟩, fun u hu => ?_, ?_⟩
    · rw [F (51 + 9 * u) (by omega) (by omega) (by omega) (by omega), hhi 149 (by omega) (by omega), hhi 150 (by omega) (by omega)]
      exact hTP u hu
    · unfold TPI TP at hTI ⊢
      rw [hhi 149 (by omega) (by omega), hhi 150 (by omega) (by omega)]
      exact hTI
  · intro i hi
    rw [hk5]
    exact k5 i hi
  · intro i hi
    rw [hk18]
    exact k18 i hi
theorem LC_town {d : Nat} {I : Nat → Nat → Int32} {J : Nat → Nat → Int64} {K : Nat → Nat → Option Nat} {h : List xSh} {N n : Nat} {sc : Nat → Int32} (H : INV I J K h N) (hsc : I 1000000 = sc) (hn : I 1000001 0 = nI n) : EvP (d + 20) 65 0 [(0, .ref 0)] [] (I, J, K, h) (QI (fun x t => MID (N + 1) sc n 158 [(0, .ref 98)] x t)) := by
  have H0 := H
  have HD0 := H.2.2.1
  obtain ⟨⟨S, hN⟩, ⟨nh, na, dd, cb, ce, tw, sn, bn, V, C, htw, hkp⟩, ⟨⟨cq9, fd, X9⟩, ⟨hA4, hA27⟩, hLT, ⟨hT1, hT2, r9, hr9, hT3⟩, hTP, hTI⟩, k5, k18⟩ := H
  have M := V.1
  have Q := V.2.1
  have hD := AR.db M Q V.2.2.1
  have hmu := Q.mu
  have hd9 := Q.dd9
  obtain ⟨hsn, hs6⟩ := V.2.2.2.1
  obtain ⟨hbn, hb8⟩ := V.2.2.2.2.1
  have hbk := V.2.2.2.2.2
  have hC6 := C.tw6
  have hHD : SID I J := HD0
  have htx : ∀ p, p < fd → I 27 p = nI (cq9 p) := fun p hp => by rw [hA27]; exact X9.2.2.2 p hp
  refine EvP.mono (C_town (d := d + 2) S C.tc hC6 (hA4.trans X9.1) X9.2.1 X9.2.2.1 htx) (fun r t hq => ?_)
  obtain ⟨x, rfl, ⟨h6, hx, rfl⟩ | ⟨h6, I3, hF, ⟨q, R, hp, hx, hCT, hR10, rfl⟩ | ⟨q, hp, hqn, hx, rfl⟩⟩⟩ := hq
  · refine ⟨_, rfl, I, J, K, h, rfl, S, ⟨hsc, hn⟩, fun d2 => ?_⟩
    refine EvP.mono (M_town (d := d2 + 13) S X9 hLT htw hC6) (fun r t hq => ?_)
    obtain ⟨y, rfl, ⟨g6, hy, rfl⟩ | ⟨g6, _⟩⟩ := hq
    · exact ⟨_, rfl, hy.trans hx.symm, I, J, K, h, rfl, H0.mono (Nat.le_succ N), hsc, hn⟩
    · omega
  · have S1 := S.src (b := 44 + 9 * tw) ⟨by omega, by omega⟩ (some 27)
    obtain ⟨I1, hI1⟩ : ∃ X, X = s1 (s1 (s1 I3 0 4 (nI 0)) 1 17 (nI tw)) 0 7 (nI (tw + 1)) := ⟨_, rfl⟩
    rw [← hI1]
    have hI : ∀ c, c ≠ 0 → c ≠ 1 → (c < 44 + 9 * tw ∨ 44 + 9 * tw + 6 < c) → I1 c = I c := fun c a b e => by rw [hI1, s1_o a, s1_o b, s1_o a]; exact hF c e
    have hI98 : ∀ c, 98 ≤ c → I1 c = I c := fun c hc => hI c (by omega) (by omega) (by omega)
    refine ⟨_, rfl, I1, J, _, h, rfl, S1, ⟨by rw [hI98 1000000 (by decide)]; exact hsc, by rw [hI98 1000001 (by decide)]; exact hn⟩, fun d2 => ?_⟩
    refine EvP.mono (M_town (d := d2 + 13) S1 (show TX I1 cq9 fd by unfold TX; rw [hI98 98 (by decide), hI98 110 (by decide)]; exact X9) (fun i hi => by rw [hI98 119 (by decide)]; exact hLT i hi) (show I1 98 14 = nI tw by rw [hI98 98 (by decide)]; exact htw) hC6) (fun r t hq => ?_)
    obtain ⟨y, rfl, ⟨g6, _⟩ | ⟨g6, I2, rfl, hT, ⟨q2, R2, gp, gy, w14, w15, w111, w1, w10, wR⟩ | ⟨q2, gp, _⟩⟩⟩ := hq
    · omega
    · have hRR : R2 = R := Option.some.inj (congrArg Prod.snd (gp.symm.trans hp))
      subst hRR
      have k2 : ∀ c, c ≠ 98 → (c < 111 ∨ 118 < c) → I2 c = I1 c := hT.1
      have tw9 : TW9 I2 (tw + 1) := by
        intro tt ht
        by_cases e : tt = tw
        · subst e
          exact ⟨R2, (hCT.fr (fun j hj => by rw [k2 _ (by omega) (by omega), hI1, s1_o (by omega), s1_o (by omega), s1_o (by omega)])), w111, w10, wR⟩
        · obtain ⟨CL, u1, u2, u3, u4⟩ := hkp.2 tt (by omega)
          refine ⟨CL, u1.fr (fun j hj => by rw [k2 _ (by omega) (by omega)]; exact hI _ (by omega) (by omega) (by omega)), by rw [hT.2.2.1 tt e, hI98 111 (by decide)]; exact u2, u3, u4.old (tw := tw) (by omega) u3 (by omega) (fun x i a b c => ?_) (fun i hi => ?_)⟩
          · rw [hT.2.2.2.1 x i a b (Or.inl c), hI98 x (by omega)]
          · rw [hT.2.2.2.2.1 i hi, hI98 117 (by decide)]
      refine ⟨_, rfl, gy.trans hx.symm, I2, J, _, h, rfl, (INV.twn (tw2 := tw + 1) ⟨S, hN⟩ V C hkp hHD k5 k18 h6 ⟨by omega, by omega⟩ (fun c a b e g => (k2 c (by omega) (by omega)).trans (hI c a b g)) (fun c a b => (k2 c (by omega) b).trans (hI98 c (by omega))) (fun k a b => ?_) ?_ ?_ (fun k a => ?_) ?_ (fun k a => (hT.2.1 k a).trans (congrFun (hI98 98 (by decide)) k)) hT.2.2.2.2.2 w14 (Or.inr ⟨tw, by omega, w15⟩) tw9).mono (Nat.le_succ N), by rw [k2 1000000 (by decide) (by decide), hI98 1000000 (by decide)]; exact hsc, by rw [k2 1000001 (by decide) (by decide), hI98 1000001 (by decide)]; exact hn⟩
      · rw [k2 0 (by decide) (by decide), hI1, s1_k b, s1_o (by decide), s1_k a, hF 0 (by omega)]
      · rw [k2 0 (by decide) (by decide), hI1, s1_k (by decide), s1_o (by decide), s1_e]
      · rw [k2 0 (by decide) (by decide), hI1, s1_e]
      · rw [k2 1 (by decide) (by decide), hI1, s1_o (by decide), s1_k a, s1_o (by decide), hF 1 (by omega)]
      · rw [w15, k2 1 (by decide) (by decide), hI1, s1_o (by decide), s1_e]
    · rw [hp] at gp; cases gp
  · have S1 := S.src (b := 44 + 9 * tw) ⟨by omega, by omega⟩ (some 27)
    obtain ⟨I1, hI1⟩ : ∃ X, X = s1 I3 0 4 (nI 0) := ⟨_, rfl⟩
    rw [← hI1]
    have hI : ∀ c, c ≠ 0 → (c < 44 + 9 * tw ∨ 44 + 9 * tw + 6 < c) → I1 c = I c := fun c a e => by rw [hI1, s1_o a]; exact hF c e
    have hI98 : ∀ c, 98 ≤ c → I1 c = I c := fun c hc => hI c (by omega) (by omega)
    refine ⟨_, rfl, I1, J, _, h, rfl, S1, ⟨by rw [hI98 1000000 (by decide)]; exact hsc, by rw [hI98 1000001 (by decide)]; exact hn⟩, fun d2 => ?_⟩
    refine EvP.mono (M_town (d := d2 + 13) S1 (show TX I1 cq9 fd by unfold TX; rw [hI98 98 (by decide), hI98 110 (by decide)]; exact X9) (fun i hi => by rw [hI98 119 (by decide)]; exact hLT i hi) (show I1 98 14 = nI tw by rw [hI98 98 (by decide)]; exact htw) hC6) (fun r t hq => ?_)
    obtain ⟨y, rfl, ⟨g6, _⟩ | ⟨g6, I2, rfl, hT, ⟨q2, R2, gp, _⟩ | ⟨q2, gp, gq, gy, w14, w15⟩⟩⟩ := hq
    · omega
    · rw [hp] at gp; cases gp
    · have hqq : q2 = q := congrArg Prod.fst (gp.symm.trans hp)
      subst hqq
      have k2 : ∀ c, c ≠ 98 → (c < 111 ∨ 118 < c) → I2 c = I1 c := hT.1
      have e15 : I2 98 15 = I 98 15 := w15.trans (congrFun (hI98 98 (by decide)) 15)
      have tw9 : TW9 I2 tw := by
        intro tt ht
        obtain ⟨CL, u1, u2, u3, u4⟩ := hkp.2 tt (by omega)
        refine ⟨CL, u1.fr (fun j hj => by rw [k2 _ (by omega) (by omega)]; exact hI _ (by omega) (by omega)), by rw [hT.2.2.1 tt (by omega), hI98 111 (by decide)]; exact u2, u3, u4.old (tw := tw) (by omega) u3 (by omega) (fun x i a b c => ?_) (fun i hi => ?_)⟩
        · rw [hT.2.2.2.1 x i a b (Or.inl c), hI98 x (by omega)]
        · rw [hT.2.2.2.2.1 i hi, hI98 117 (by decide)]
      refine ⟨_, rfl, gy.trans hx.symm, I2, J, _, h, rfl, (INV.twn (tw2 := tw) ⟨S, hN⟩ V C hkp hHD k5 k18 h6 ⟨by omega, by omega⟩ (fun c a b e g => (k2 c (by omega) (by omega)).trans (hI c a g)) (fun c a b => (k2 c (by omega) b).trans (hI98 c (by omega))) (fun k a b => ?_) ?_ ?_ (fun k a => ?_) ?_ (fun k a => (hT.2.1 k a).trans (congrFun (hI98 98 (by decide)) k)) hT.2.2.2.2.2 w14 (by rw [e15]; exact C.tg) tw9).mono (Nat.le_succ N), by rw [k2 1000000 (by decide) (by decide), hI98 1000000 (by decide)]; exact hsc, by rw [k2 1000001 (by decide) (by decide), hI98 1000001 (by decide)]; exact hn⟩
      · rw [k2 0 (by decide) (by decide), hI1, s1_k a, hF 0 (by omega)]
      · rw [k2 0 (by decide) (by decide), hI1, s1_e]
      · rw [k2 0 (by decide) (by decide), hI1, s1_k (by decide), hF 0 (by omega)]; exact C.tc
      · rw [k2 1 (by decide) (by decide), hI1, s1_o (by decide), hF 1 (by omega)]
      · rw [e15, k2 1 (by decide) (by decide), hI1, s1_o (by decide), hF 1 (by omega)]; exact C.town
