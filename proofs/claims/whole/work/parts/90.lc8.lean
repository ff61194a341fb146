/-! the law: class, then reference: image -/
theorem LC_image {d : Nat} {I : Nat → Nat → Int32} {J : Nat → Nat → Int64} {K : Nat → Nat → Option Nat} {h : List xSh} {N n : Nat} {sc : Nat → Int32} (H : INV I J K h N) (hsc : I 1000000 = sc) (hn : I 1000001 0 = nI n) : EvP (d + 20) 91 0 [(0, .ref 0)] [] (I, J, K, h) (QI (fun x t => MID (N + 1) sc n 213 [(0, .ref 98)] x t)) := by
  have H0 := H
  have HD0 := H.2.2.1
  obtain ⟨⟨S, hN⟩, ⟨nh, na, dd, cb, ce, tw, sn, bn, V, C, htw, hkp⟩, ⟨⟨cq9, fd, X9⟩, ⟨hA4, hA27⟩, hLT, ⟨hT1, hT2, r9, hr9, hT3⟩, hTP, hTI⟩, k5, k18⟩ := H
  have M := V.1
  have Q := V.2.1
  have hD := AR.db M Q V.2.2.1
  have hmu := Q.mu
  have hd9 := Q.dd9
  obtain ⟨hsn, hs6⟩ := V.2.2.2.1
  obtain ⟨hbn, hb8⟩ := V.2.2.2.2.1
  have hbk := V.2.2.2.2.2
  refine EvP.mono (C_image (d := d + 17) S k5) (fun r t hq => ?_)
  obtain ⟨x, rfl, hx, rfl⟩ := hq
  obtain ⟨⟨z1, z3, z2⟩, z9⟩ := hkp
  have S1 := S.hi (Or.inr (Or.inr rfl)) (cpN 6 (K 5) (K 18))
  obtain ⟨I1, hI1⟩ : ∃ X, X = s1 (bcK I) 0 2 (bI true) := ⟨_, rfl⟩
  rw [← hI1]
  have hU : ∀ c, c ≠ 0 → (c < 14 ∨ 26 < c) → I1 c = I c := fun c a b => by rw [hI1, s1_o a, bcK_o b]
  have hU0 : ∀ k, k ≠ 2 → I1 0 k = I 0 k := fun k hk => by rw [hI1, s1_k hk, bcK_o (by omega)]
  refine ⟨_, rfl, I1, J, _, h, rfl, S1, ⟨by rw [hU 1000000 (by decide) (by omega)]; exact hsc, by rw [hU 1000001 (by decide) (by omega)]; exact hn⟩, fun d2 => ?_⟩
  refine EvP.mono (M_image (d := d2 + 20) S1) (fun r t hq => ?_)
  obtain ⟨y, rfl, hy, rfl⟩ := hq
  obtain ⟨I2, hI2⟩ : ∃ X, X = imgI I1 := ⟨_, rfl⟩
  rw [← hI2]
  have E := C.ce
  have o1 : ∀ c, c ≠ 98 → (c < 133 ∨ 147 < c) → I2 c = I1 c := fun c a b => by rw [hI2, img_o b a]
  have o : ∀ c, c ≠ 98 → c ≠ 0 → (c < 14 ∨ (26 < c ∧ c < 133) ∨ 147 < c) → I2 c = I c := fun c a b e => by rw [o1 c a (by omega), hU c b (by omega)]
  have o0 : ∀ k, k ≠ 2 → I2 0 k = I 0 k := fun k hk => by rw [o1 0 (by decide) (by decide)]; exact hU0 k hk
  have o02 : I2 0 2 = bI true := by rw [o1 0 (by decide) (by decide), hI1]; exact s1_e
  have h98 : I1 98 = I 98 := hU 98 (by decide) (by decide)
  have o98 : ∀ k, (k < 50 ∨ 56 < k) → I2 98 k = I 98 k := fun k hk => by rw [hI2, img_98 hk, h98]
  have u98 : I2 98 50 = bI true ∧ I2 98 51 = I 98 15 ∧ I2 98 52 = I 98 0 ∧ I2 98 53 = I 98 1 ∧ I2 98 54 = I 98 2 ∧ I2 98 55 = I 98 43 ∧ I2 98 56 = I 98 47 := by
    rw [hI2, ← h98]
    exact ⟨rfl, rfl, rfl, rfl, rfl, rfl, rfl⟩
  have u14 : I2 14 0 = I 1 0 ∧ I2 14 4 = I 1 4 ∧ I2 14 9 = I 1 9 ∧ I2 14 11 = I 1 11 ∧ I2 14 14 = I 1 14 ∧ I2 14 17 = I 1 17 := by
    rw [o1 14 (by decide) (by decide), hI1]
    exact ⟨rfl, rfl, rfl, rfl, rfl, rfl⟩
  have u133 : I2 133 = cpN 6 (I 99) (I 133) := by rw [hI2, img_133, hU 99 (by decide) (by decide), hU 133 (by decide) (by decide)]
  have u134 : I2 134 = cpN 6 (I 100) (I 134) := by rw [hI2, img_134, hU 100 (by decide) (by decide), hU 134 (by decide) (by decide)]
  have u135 : I2 135 = cpN 6 (I 101) (I 135) := by rw [hI2, img_135, hU 101 (by decide) (by decide), hU 135 (by decide) (by decide)]
  have u136 : I2 136 = cpN 6 (I 102) (I 136) := by rw [hI2, img_136, hU 102 (by decide) (by decide), hU 136 (by decide) (by decide)]
  have u137 : I2 137 = cpN 6 (I 103) (I 137) := by rw [hI2, img_137, hU 103 (by decide) (by decide), hU 137 (by decide) (by decide)]
  have u138 : I2 138 = cpN 6 (I 104) (I 138) := by rw [hI2, img_138, hU 104 (by decide) (by decide), hU 138 (by decide) (by decide)]
  have u139 : I2 139 = cpN 6 (I 105) (I 139) := by rw [hI2, img_139, hU 105 (by decide) (by decide), hU 139 (by decide) (by decide)]
  have u140 : I2 140 = cpN 6 (I 106) (I 140) := by rw [hI2, img_140, hU 106 (by decide) (by decide), hU 140 (by decide) (by decide)]
  have u141 : I2 141 = cpN 6 (I 107) (I 141) := by rw [hI2, img_141, hU 107 (by decide) (by decide), hU 141 (by decide) (by decide)]
  have u142 : I2 142 = cpN 24 (I 108) (I 142) := by rw [hI2, img_142, hU 108 (by decide) (by decide), hU 142 (by decide) (by decide)]
  have u143 : I2 143 = cpN 5 (I 109) (I 143) := by rw [hI2, img_143, hU 109 (by decide) (by decide), hU 143 (by decide) (by decide)]
  have u144 : I2 144 = cpN 6 (I 128) (I 144) := by rw [hI2, img_144, hU 128 (by decide) (by decide), hU 144 (by decide) (by decide)]
  have u145 : I2 145 = cpN 6 (I 129) (I 145) := by rw [hI2, img_145, hU 129 (by decide) (by decide), hU 145 (by decide) (by decide)]
  have u146 : I2 146 = cpN 8 (I 131) (I 146) := by rw [hI2, img_146, hU 131 (by decide) (by decide), hU 146 (by decide) (by decide)]
  have u147 : I2 147 = cpN 8 (I 132) (I 147) := by rw [hI2, img_147, hU 132 (by decide) (by decide), hU 147 (by decide) (by decide)]
  have v15 : I2 15 = cpN 6 (I 2) (I 15) := by rw [o1 15 (by decide) (by decide), hI1]; rfl
  have v16 : I2 16 = cpN 6 (I 3) (I 16) := by rw [o1 16 (by decide) (by decide), hI1]; rfl
  have v17 : I2 17 = cpN 6 (I 4) (I 17) := by rw [o1 17 (by decide) (by decide), hI1]; rfl
  have v19 : I2 19 = cpN 6 (I 6) (I 19) := by rw [o1 19 (by decide) (by decide), hI1]; rfl
  have v20 : I2 20 = cpN 6 (I 7) (I 20) := by rw [o1 20 (by decide) (by decide), hI1]; rfl
  have v21 : I2 21 = cpN 24 (I 8) (I 21) := by rw [o1 21 (by decide) (by decide), hI1]; rfl
  have v22 : I2 22 = cpN 5 (I 9) (I 22) := by rw [o1 22 (by decide) (by decide), hI1]; rfl
  have v23 : I2 23 = cpN 6 (I 10) (I 23) := by rw [o1 23 (by decide) (by decide), hI1]; rfl
  have v24 : I2 24 = cpN 6 (I 11) (I 24) := by rw [o1 24 (by decide) (by decide), hI1]; rfl
  have v25 : I2 25 = cpN 8 (I 12) (I 25) := by rw [o1 25 (by decide) (by decide), hI1]; rfl
  have v26 : I2 26 = cpN 8 (I 13) (I 26) := by rw [o1 26 (by decide) (by decide), hI1]; rfl
  have lv : ∀ c, (99 ≤ c ∧ c ≤ 132) → I2 c = I c := fun c hc => o c (by omega) (by omega) (by omega)
  have V2 : SV I2 nh na dd cb ce sn bn := V.tr (fun c hc => lv c (by omega)) (fun k hk => o98 k (by omega))
  have VW2 : SV (VW I2) nh na dd cb ce sn bn := by
    refine V.rng (fun c k a b hk => ?_) (fun k hk => ?_) (fun c k hc hk => ?_) (fun c a b => ?_) (fun k hk => ?_)
    · rcases (show c = 99 ∨ c = 100 ∨ c = 101 ∨ c = 102 ∨ c = 103 ∨ c = 104 ∨ c = 105 ∨ c = 106 ∨ c = 107 by omega) with rfl | rfl | rfl | rfl | rfl | rfl | rfl | rfl | rfl
      · show I2 133 k = I 99 k; rw [u133]; exact cpN_lt hk
      · show I2 134 k = I 100 k; rw [u134]; exact cpN_lt hk
      · show I2 135 k = I 101 k; rw [u135]; exact cpN_lt hk
      · show I2 136 k = I 102 k; rw [u136]; exact cpN_lt hk
      · show I2 137 k = I 103 k; rw [u137]; exact cpN_lt hk
      · show I2 138 k = I 104 k; rw [u138]; exact cpN_lt hk
      · show I2 139 k = I 105 k; rw [u139]; exact cpN_lt hk
      · show I2 140 k = I 106 k; rw [u140]; exact cpN_lt hk
      · show I2 141 k = I 107 k; rw [u141]; exact cpN_lt hk
    · show I2 142 k = I 108 k; rw [u142]; exact cpN_lt hk
    · rcases hc with rfl | rfl
      · show I2 146 k = I 131 k; rw [u146]; exact cpN_lt hk
      · show I2 147 k = I 132 k; rw [u147]; exact cpN_lt hk
    · rcases (show c = 111 ∨ c = 112 ∨ c = 113 ∨ c = 114 ∨ c = 115 ∨ c = 116 ∨ c = 117 by omega) with rfl | rfl | rfl | rfl | rfl | rfl | rfl <;> exact lv _ (by omega)
    · rcases hk with rfl | rfl | rfl | rfl | rfl | rfl | rfl
      · exact u98.2.2.1
      · exact u98.2.2.2.1
      · exact u98.2.2.2.2.1
      · exact u98.2.1
      · exact o98 33 (by decide)
      · exact u98.2.2.2.2.2.1
      · exact u98.2.2.2.2.2.2
  have hK18 : ∀ a, a < 6 → upc K 18 (cpN 6 (K 5) (K 18)) 18 a = K 5 a := fun a ha => by rw [upc_eq]; exact cpN_lt ha
  have hKq : ∀ c, c ≠ 18 → upc K 18 (cpN 6 (K 5) (K 18)) c = K c := fun c hc => upc_ne _ _ hc
  have a6 := V.1.na6
  have h6 := C.tw6
  have hq : ∀ q, 153 ≤ q → q < h.length → I2 q = I q ∧ upc K 18 (cpN 6 (K 5) (K 18)) q = K q ∧ h[q]? = h[q]? := fun q a _ => ⟨o q (by omega) (by omega) (by omega), hKq q (by omega), rfl⟩
  have E2 : CE I2 I2 := CE.tr E (fun c hc => by
    by_cases e : c ≤ 13
    · exact o c (by omega) (by omega) (by omega)
    · exact lv c (by omega)) (fun k hk => o98 k (by omega))
  have hCR : CR I2 (upc K 18 (cpN 6 (K 5) (K 18))) h I2 na tw := (C.fr2 E2 (o0 7 (by decide)) (fun c hc => by rcases hc with z | ⟨t, j, w1, w2, w3⟩ | z <;> exact o c (by omega) (by omega) (by omega)) (fun c hc => lv c (by omega)) (o98 15 (by decide))).kh (fun q hq => hKq q (by omega)) (hKq 5 (by decide))
  have hKEQ : KEQ I2 := by
    unfold KEQ at z3 ⊢
    obtain ⟨_, _, _, _, _, _, k15, k16, k17a, k19, k20, k21, k22, k23, k24, k25, k26⟩ := z3
    exact ⟨by rw [u14.1, u98.2.2.1]; exact E.heads, by rw [u14.2.1, u98.2.2.2.1]; exact E.hats, by rw [u14.2.2.1, u98.2.2.2.2.1]; exact E.day, by rw [u14.2.2.2.1, u98.2.2.2.2.2.1]; exact E.seen, by rw [u14.2.2.2.2.1, u98.2.2.2.2.2.2]; exact E.booked, by rw [u14.2.2.2.2.2, u98.2.1]; exact E.town, by rw [v15, u133, k15, E.a2], by rw [v16, u134, k16, E.a3], by rw [v17, u135, k17a, E.a4], by rw [v19, u139, k19, E.a6], by rw [v20, u141, k20, E.a7], by rw [v21, u142, k21, E.a8], by rw [v22, u143, k22, E.a9], by rw [v23, u144, k23, E.a10], by rw [v24, u145, k24, E.a11], by rw [v25, u146, k25, E.a12], by rw [v26, u147, k26, E.a13]⟩
  have hKP : KEPT I2 (upc K 18 (cpN 6 (K 5) (K 18))) h tw := by
    refine ⟨⟨o02.trans u98.1.symm, hKEQ, Or.inr ⟨nh, na, dd, cb, ce, sn, bn, VW2, by rw [u98.2.1]; exact C.tg, fun a ha => ?_⟩⟩, fun tt ht => ?_⟩
    · exact (C.hat a ha).kh hq (hK18 a (by omega)) (by rw [u136]; exact cpN_lt (by omega)) (by rw [u137]; exact cpN_lt (by omega)) (by rw [u138]; exact cpN_lt (by omega)) (by rw [u140]; exact cpN_lt (by omega))
    · obtain ⟨CL, t1, t2, t3, t4⟩ := z9 tt ht
      exact ⟨CL, t1.fr (fun j hj => o _ (by omega) (by omega) (by omega)), by rw [lv 111 (by omega)]; exact t2, t3, t4.fr9 (fun c a b => lv c (by omega))⟩
  refine ⟨_, rfl, hy.trans (Eq.trans ?_ hx.symm), I2, J, _, h, rfl, ⟨⟨S1, hN.mono (by omega)⟩, ⟨nh, na, dd, cb, ce, tw, sn, bn, V2, hCR, by rw [o98 14 (by decide)]; exact htw, hKP⟩, HD0.fr2 (o0 4 (by decide)) (fun c hc => o c (by omega) (by omega) (by omega)) (fun k hk => o98 k (by omega)), fun i hi => k5.kh (fun _ _ _ => rfl) hi (congrFun (hKq 5 (by decide)) i), fun i hi => k5.kh (fun _ _ _ => rfl) hi (hK18 i hi)⟩, by rw [o 1000000 (by decide) (by decide) (by decide)]; exact hsc, by rw [o 1000001 (by decide) (by decide) (by decide)]; exact hn⟩
  rw [h98]
  exact E.hats.symm
