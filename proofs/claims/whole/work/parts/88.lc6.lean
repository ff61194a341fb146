/-! the law: class, then reference: hat -/
theorem HO.kh {I I2 : Nat → Nat → Int32} {K K2 : Nat → Nat → Option Nat} {h h2 : List xSh} {KA KA2 : Nat → Option Nat} {R2 R3 R4 R6 S2 S3 S4 S6 : Nat → Int32} {a : Nat} (H : HO I K h KA R2 R3 R4 R6 a) (e : ∀ q, 153 ≤ q → q < h.length → I2 q = I q ∧ K2 q = K q ∧ h2[q]? = h[q]?) (k : KA2 a = KA a) (r2 : S2 a = R2 a) (r3 : S3 a = R3 a) (r4 : S4 a = R4 a) (r6 : S6 a = R6 a) : HO I2 K2 h2 KA2 S2 S3 S4 S6 a := by
  obtain ⟨q, kk, ⟨h1, h2a⟩, h3, h4, h5, h6, h7, h8, h9⟩ := H
  have hl : q < h.length := by
    by_cases z : q < h.length
    · exact z
    · have := h3.2.2
      rw [List.getElem?_eq_none (by omega)] at this
      cases this
  obtain ⟨e1, e2, e3⟩ := e q h2a hl
  refine ⟨q, kk, ⟨k.trans h1, h2a⟩, ⟨h3.1, r2.trans h3.2.1, e3.trans h3.2.2⟩, ?_⟩
  rw [e1, e2, r3, r4, r6]
  exact ⟨h4, h5, h6, h7, h8, h9⟩
theorem KHT.kh {K K2 : Nat → Nat → Option Nat} {h h2 : List xSh} {c cq2 : Nat} (H : KHT K h c) (e : ∀ q, 153 ≤ q → q < h.length → h2[q]? = h[q]?) {i : Nat} (hi : i < 6) (k : K2 cq2 i = K c i) : K2 cq2 i = none ∨ ∃ q ci, K2 cq2 i = some q ∧ 153 ≤ q ∧ h2[q]? = some (.inl ci) ∧ xasg ci RX2 := by
  rcases H i hi with z | ⟨q, ci, z1, z2, z3, z4⟩
  · exact Or.inl (k.trans z)
  · have hl : q < h.length := by
      by_cases z : q < h.length
      · exact z
      · rw [List.getElem?_eq_none (by omega)] at z3
        cases z3
    exact Or.inr ⟨q, ci, k.trans z1, z2, (e q z2 hl).trans z3, z4⟩
theorem KEQ.fr {I I2 : Nat → Nat → Int32} (z3 : KEQ I) (F : ∀ c, (14 ≤ c ∧ c ≤ 26) ∨ (133 ≤ c ∧ c ≤ 147) → I2 c = I c) (f : ∀ k, 51 ≤ k ∧ k ≤ 56 → I2 98 k = I 98 k) : KEQ I2 := by
  unfold KEQ at z3 ⊢
  rw [F 14 (by omega), f 52 (by omega), f 53 (by omega), f 54 (by omega), f 55 (by omega), f 56 (by omega), f 51 (by omega)]
  rw [F 15 (by omega), F 16 (by omega), F 17 (by omega), F 19 (by omega), F 20 (by omega), F 21 (by omega), F 22 (by omega), F 23 (by omega), F 24 (by omega), F 25 (by omega), F 26 (by omega)]
  rw [F 133 (by omega), F 134 (by omega), F 135 (by omega), F 139 (by omega), F 141 (by omega), F 142 (by omega), F 143 (by omega), F 144 (by omega), F 145 (by omega), F 146 (by omega), F 147 (by omega)]
  exact z3
theorem VW.fr {I I2 : Nat → Nat → Int32} {nh na dd cb ce sn bn : Nat} (z4 : SV (VW I) nh na dd cb ce sn bn) (F : ∀ c, (111 ≤ c ∧ c ≤ 117) ∨ (133 ≤ c ∧ c ≤ 147) → I2 c = I c) (f : ∀ k, k = 33 ∨ (51 ≤ k ∧ k ≤ 56) → I2 98 k = I 98 k) : SV (VW I2) nh na dd cb ce sn bn := by
  refine z4.tr (fun c hc => ?_) (fun k hk => ?_)
  · have hx : c = 99 ∨ c = 100 ∨ c = 101 ∨ c = 102 ∨ c = 103 ∨ c = 104 ∨ c = 105 ∨ c = 106 ∨ c = 107 ∨ c = 108 ∨ c = 111 ∨ c = 112 ∨ c = 113 ∨ c = 114 ∨ c = 115 ∨ c = 116 ∨ c = 117 ∨ c = 131 ∨ c = 132 := by omega
    rcases hx with rfl | rfl | rfl | rfl | rfl | rfl | rfl | rfl | rfl | rfl | rfl | rfl | rfl | rfl | rfl | rfl | rfl | rfl | rfl
    · exact F 133 (by omega)
    · exact F 134 (by omega)
    · exact F 135 (by omega)
    · exact F 136 (by omega)
    · exact F 137 (by omega)
    · exact F 138 (by omega)
    · exact F 139 (by omega)
    · exact F 140 (by omega)
    · exact F 141 (by omega)
    · exact F 142 (by omega)
    · exact F 111 (by omega)
    · exact F 112 (by omega)
    · exact F 113 (by omega)
    · exact F 114 (by omega)
    · exact F 115 (by omega)
    · exact F 116 (by omega)
    · exact F 117 (by omega)
    · exact F 146 (by omega)
    · exact F 147 (by omega)
  · rcases hk with rfl | rfl | rfl | rfl | rfl | rfl | rfl
    · exact f 52 (by omega)
    · exact f 53 (by omega)
    · exact f 54 (by omega)
    · exact f 51 (by omega)
    · exact f 33 (by omega)
    · exact f 55 (by omega)
    · exact f 56 (by omega)
theorem hatRR_o {R : Nat → Nat → Int32} {na c : Nat} {k n z s t : Int32} (h : c < 98 ∨ 108 < c ∨ (98 < c ∧ c < 102)) : hatRR R na k n z s t c = R c := by
  unfold hatRR
  rw [s1_o (by omega), s1_o (by omega), s1_o (by omega), s1_o (by omega), s1_o (by omega), s1_o (by omega), s1_o (by omega), s1_o (by omega), s1_o (by omega), s1_o (by omega), s1_o (by omega)]
theorem hatRR_98 {R : Nat → Nat → Int32} {na i : Nat} {k n z s t : Int32} (h : i ≠ 1) : hatRR R na k n z s t 98 i = R 98 i := by
  unfold hatRR
  rw [s1_k h, s1_o (by omega), s1_o (by omega), s1_o (by omega), s1_o (by omega), s1_o (by omega), s1_o (by omega), s1_o (by omega), s1_o (by omega), s1_o (by omega), s1_o (by omega)]
theorem SV.hat {R : Nat → Nat → Int32} {nh na dd cb ce sn bn kd : Nat} (H : SV R nh na dd cb ce sn bn) (h6 : na < 6) (hkd : kd < 7) {n z s t : Int32} (e1 : ∃ m, m ≤ 9 ∧ n = nI m) (e2 : ∃ m, m ≤ 9 ∧ z = nI m) (e3 : ∃ m, m ≤ 50 ∧ s = nI m) (e4 : ∃ m, m < 5 ∧ t = nI m) : SV (hatRR R na (nI kd) n z s t) nh (na + 1) dd cb ce sn bn := by
  obtain ⟨M, Q, N, s1a, b1, b2⟩ := H
  have key : ∀ (f : Nat → Int32) (P : Int32 → Prop) (v : Int32), P v → (∀ a, a < na → P (f a)) → ∀ a, a < na + 1 → P (upc f na v a) := by
    intro f P v hv hf a ha
    by_cases e : a = na
    · subst e; rw [upc_eq]; exact hv
    · rw [upc_ne _ _ e]; exact hf a (by omega)
  refine ⟨⟨M.nh, M.nh6, rfl, by omega, M.dd, M.dd5, M.th, M.wf, fun k hk => ?_, key (R 102) (fun x => ∃ k, k < 7 ∧ x = nI k) (nI kd) ⟨kd, hkd, rfl⟩ M.kind⟩, ⟨fun k l a hk hl ha g1 g2 => ?_, key (R 107) (fun x => ∃ u, u ≤ 9999 ∧ x = nI u) (nI 0) ⟨0, by decide, rfl⟩ Q.used, key (R 104) (fun x => ∃ u, u ≤ 9 ∧ x = nI u) z e2 Q.hsz, Q.fsz, key (R 103) (fun x => ∃ u, u ≤ 9 ∧ x = nI u) n e1 Q.vv, key (R 105) (fun x => ∃ u, u ≤ 50 ∧ x = nI u) s e3 Q.sk, key (R 106) (fun x => ∃ u, u < 5 ∧ x = nI u) t e4 Q.tr, fun a p ha hp => ?_, fun k hk => ?_, Q.dd9, Q.mu⟩, N, s1a, b1, fun k hk => ?_⟩
  · rcases M.worn k hk with y | ⟨a, ha, y⟩
    · exact Or.inl y
    · exact Or.inr ⟨a, by omega, y⟩
  · replace g1 : R 101 k = nI a := g1
    replace g2 : R 101 l = nI a := g2
    rcases M.worn k hk with y | ⟨a2, ha2, y⟩
    · exact absurd (g1.symm.trans y) (nI_neg (by omega) (by decide))
    · have : a2 = a := nI_inj (by omega) (by omega) (y.symm.trans g1)
      exact Q.dist k l a hk hl (by omega) g1 g2
  · show ∃ r, r ≤ 9 ∧ upc (upc (upc (upc (R 108) (4 * na) (nI 0)) (4 * na + 1) (nI 0)) (4 * na + 2) (nI 0)) (4 * na + 3) (nI 0) (4 * a + p) = nI r
    by_cases e : a = na
    · subst e
      rcases (show p = 0 ∨ p = 1 ∨ p = 2 ∨ p = 3 by omega) with rfl | rfl | rfl | rfl
      · rw [upc_ne _ _ (by omega), upc_ne _ _ (by omega), upc_ne _ _ (by omega)]; exact ⟨0, by decide, upc_eq _ _ _⟩
      · rw [upc_ne _ _ (by omega), upc_ne _ _ (by omega)]; exact ⟨0, by decide, upc_eq _ _ _⟩
      · rw [upc_ne _ _ (by omega)]; exact ⟨0, by decide, upc_eq _ _ _⟩
      · exact ⟨0, by decide, upc_eq _ _ _⟩
    · rw [upc_ne _ _ (by omega), upc_ne _ _ (by omega), upc_ne _ _ (by omega), upc_ne _ _ (by omega)]
      exact Q.ro a p (by omega) hp
  · rcases Q.own k hk with y | ⟨a, ha, y⟩
    · exact Or.inl y
    · exact Or.inr ⟨a, by omega, y⟩
  · obtain ⟨⟨a, ha, y⟩, y2⟩ := b2 k hk
    exact ⟨⟨a, by omega, y⟩, y2⟩
theorem hatM_ok {R : Nat → Nat → Int32} {na kd : Nat} {q2 q3 q4 q5 : Int32} (h : (hatM R na (nI kd) q2 q3 q4 q5).2 = hatRR R na (nI kd) q2 q3 q4 q5) (h6 : na < 6) (hna : R 98 1 = nI na) : (∃ m, m ≤ 9 ∧ q2 = nI m) ∧ (∃ m, m ≤ 9 ∧ q3 = nI m) ∧ (∃ m, m ≤ 50 ∧ q4 = nI m) ∧ (∃ m, m < 5 ∧ q5 = nI m) ∧ ∀ P : Nat → Nat → Int32, hatM P na (nI kd) q2 q3 q4 q5 = (nI na, hatRR P na (nI kd) q2 q3 q4 q5) := by
  have hne : R ≠ hatRR R na (nI kd) q2 q3 q4 q5 := by
    intro z
    have z2 : R 98 1 = nI (na + 1) := congrFun (congrFun z 98) 1
    rw [hna] at z2
    have := nI_inj (by omega) (by omega) z2
    omega
  have hf : ∀ (b : Bool), ¬ b = false → b = true := by decide
  unfold hatM at h
  by_cases cq1 : inB (nI kd) (nI 0) (nI 6) = false ∨ ixB q5 5 = false
  · rw [if_pos cq1] at h; exact absurd h hne
  · rw [if_neg cq1] at h
    by_cases cq2 : inB q2 (nI 0) (nI 9) = false ∨ inB q3 (nI 0) (nI 9) = false ∨ inB q4 (nI 0) (nI 50) = false
    · rw [if_pos cq2] at h; exact absurd h hne
    · refine ⟨inB_of0 (by decide) (hf _ (fun z => cq2 (Or.inl z))), inB_of0 (by decide) (hf _ (fun z => cq2 (Or.inr (Or.inl z)))), inB_of0 (by decide) (hf _ (fun z => cq2 (Or.inr (Or.inr z)))), ixB_of (by decide) (hf _ (fun z => cq1 (Or.inr z))), fun P => ?_⟩
      unfold hatM
      rw [if_neg cq1, if_neg cq2, if_neg (by omega)]
      rfl
theorem xN_hat {kd : Nat} (h : kd < 7) : xN (([2, 6, 10, 0, 4, 1, 7] : List Nat).getD kd 2) ≤ 20 := by
  rcases (show kd = 0 ∨ kd = 1 ∨ kd = 2 ∨ kd = 3 ∨ kd = 4 ∨ kd = 5 ∨ kd = 6 by omega) with rfl | rfl | rfl | rfl | rfl | rfl | rfl <;> decide
theorem hatM_no {R P : Nat → Nat → Int32} {na : Nat} {q1 q2 q3 q4 q5 : Int32} : hatM R na q1 q2 q3 q4 q5 = ((hatM P na q1 q2 q3 q4 q5).1, (hatM R na q1 q2 q3 q4 q5).2) := by
  refine Prod.ext ?_ rfl
  unfold hatM
  show (if _ then _ else _ : Int32 × (Nat → Nat → Int32)).1 = (if _ then _ else _ : Int32 × (Nat → Nat → Int32)).1
  by_cases cq1 : inB q1 (nI 0) (nI 6) = false ∨ ixB q5 5 = false
  · rw [if_pos cq1, if_pos cq1]
  · rw [if_neg cq1, if_neg cq1]
    by_cases cq2 : inB q2 (nI 0) (nI 9) = false ∨ inB q3 (nI 0) (nI 9) = false ∨ inB q4 (nI 0) (nI 50) = false
    · rw [if_pos cq2, if_pos cq2]
    · rw [if_neg cq2, if_neg cq2]
      by_cases cq3 : na = 6
      · rw [if_pos cq3, if_pos cq3]
      · rw [if_neg cq3, if_neg cq3]
theorem LC_hat {d : Nat} {I : Nat → Nat → Int32} {J : Nat → Nat → Int64} {K : Nat → Nat → Option Nat} {h : List xSh} {N n : Nat} {sc : Nat → Int32} (H : INV I J K h N) (hsc : I 1000000 = sc) (hn : I 1000001 0 = nI n) (hN9 : N < 900000) (q1 : Int32) (q2 : Int32) (q3 : Int32) (q4 : Int32) (q5 : Int32) : EvP (d + 20) 56 0 [(0, .ref 0), (1, .int q1), (2, .int q2), (3, .int q3), (4, .int q4), (5, .int q5)] [] (I, J, K, h) (QI (fun x t => MID (N + 1) sc n 137 [(0, .ref 98), (1, .int q1), (2, .int q2), (3, .int q3), (4, .int q4), (5, .int q5)] x t)) := by
  have H0 := H
  have HD0 := H.2.2.1
  obtain ⟨⟨S, hN⟩, ⟨nh, na, dd, cb, ce, tw, sn, bn, V, C, htw, hkp⟩, ⟨⟨cq9, fd, X9⟩, ⟨hA4, hA27⟩, hLT, ⟨hT1, hT2, r9, hr9, hT3⟩, hTP, hTI⟩, k5, k18⟩ := H
  have M := V.1
  have Q := V.2.1
  have hD := AR.db M Q V.2.2.1
  have hmu := Q.mu
  have hd9 := Q.dd9
  obtain ⟨hsn, hs6⟩ := V.2.2.2.1
  obtain ⟨hbn, hb8⟩ := V.2.2.2.2.1
  have hbk := V.2.2.2.2.2
  have hN0 := hN.1
  refine EvP.mono (C_hat (d := d + 15) S C M Q (by omega) q1 q2 q3 q4 q5) (fun r t hq => ?_)
  obtain ⟨x, rfl, hx, ⟨hR, rfl⟩ | ⟨kd, hkd, rfl, h6, hR, rfl⟩⟩ := hq
  · refine ⟨_, rfl, I, J, K, h, rfl, S, ⟨hsc, hn⟩, fun d2 => ?_⟩
    refine EvP.mono (M_hat (d := d2 + 18) S M q1 q2 q3 q4 q5) (fun r t hq => ?_)
    obtain ⟨y, rfl, hy, rfl⟩ := hq
    exact ⟨_, rfl, hy.trans hx.symm, I, J, K, h, by rw [hR], H0.mono (Nat.le_succ N), hsc, hn⟩
  · obtain ⟨g1, g2, g3, g4, g5⟩ := hatM_ok hR h6 M.na
    have hlen := S.len
    obtain ⟨q0, hq0⟩ : ∃ q0, q0 = h.length := ⟨_, rfl⟩
    obtain ⟨I1, hI1⟩ : ∃ X, X = hatCI (hatI (upc I h.length (fun _ => 0)) h.length (nI kd) (nI na) q2 q3 q5) na q4 := ⟨_, rfl⟩
    obtain ⟨K1, hK1⟩ : ∃ X, X = hatCK (hatK (upc K h.length (fun _ => none)) h.length) na h.length := ⟨_, rfl⟩
    obtain ⟨h1, hh1⟩ : ∃ X, X = h ++ [(.inl (([2, 6, 10, 0, 4, 1, 7] : List Nat).getD kd 2) : xSh)] := ⟨_, rfl⟩
    have S1 : St K1 h1 := by
      rw [hK1, hh1]
      exact ((S.new (fun _ => none) (.inl (([2, 6, 10, 0, 4, 1, 7] : List Nat).getD kd 2))).hi (q := h.length) (Or.inl hlen) _).hi (Or.inr (Or.inl rfl)) _
    have sq : h1[h.length]? = some (.inl (([2, 6, 10, 0, 4, 1, 7] : List Nat).getD kd 2)) := by rw [hh1]; exact new_sh h _
    have so : ∀ q, q < h.length → h1[q]? = h[q]? := fun q hq => by rw [hh1, List.getElem?_append_left hq]
    have hIo : ∀ c, c ≠ 1 → c ≠ 6 → c ≠ 7 → c ≠ 8 → c ≠ h.length → I1 c = I c := by
      intro c a1 a2 a3 a4 a5
      rw [hI1]
      unfold hatCI
      rw [s1_o a1, s1_o a4, s1_o a4, s1_o a4, s1_o a4, s1_o a3, s1_o a2, hatI_ne a5]
    have hKo : ∀ c, c ≠ 5 → c ≠ h.length → K1 c = K c := by
      intro c a1 a2
      rw [hK1]
      exact (upc_ne _ _ a1).trans (hatK_ne a2)
    have hK5 : ∀ i, i ≠ na → K1 5 i = K 5 i := by
      intro i hi
      rw [hK1]
      show upc _ 5 (upc _ na _) 5 i = K 5 i
      rw [upc_eq, upc_ne _ _ hi, hatK_ne (by omega)]
    have hK5n : K1 5 na = some h.length := by
      rw [hK1]
      show upc _ 5 (upc _ na _) 5 na = _
      rw [upc_eq, upc_eq]
    have h98 : ∀ c, 98 ≤ c → c < 153 → I1 c = I c := fun c a b => hIo c (by omega) (by omega) (by omega) (by omega) (by omega)
    have V1 : SV I1 nh na dd cb ce sn bn := V.tr (fun c hc => h98 c (by omega) (by omega)) (fun k _ => congrFun (h98 98 (by decide) (by decide)) k)
    have big : ∀ c, 900000 ≤ c → I1 c = I c := fun c hc => hIo c (by omega) (by omega) (by omega) (by omega) (by omega)
    rw [← hI1, ← hK1, ← hh1]
    refine ⟨_, rfl, I1, _, K1, h1, rfl, S1, ⟨by rw [big 1000000 (by decide)]; exact hsc, by rw [big 1000001 (by decide)]; exact hn⟩, fun d2 => ?_⟩
    refine EvP.mono (M_hat (d := d2 + 18) S1 V1.1 (nI kd) q2 q3 q4 q5) (fun r t hq => ?_)
    obtain ⟨y, rfl, hy, rfl⟩ := hq
    rw [g5 I1] at hy ⊢
    rw [g5 I] at hx
    obtain ⟨I2, hI2⟩ : ∃ X, X = hatRR I1 na (nI kd) q2 q3 q4 q5 := ⟨_, rfl⟩
    show QI _ _ (hatRR I1 na (nI kd) q2 q3 q4 q5, _, K1, h1)
    rw [← hI2]
    have r98 : ∀ i, i ≠ 1 → I2 98 i = I 98 i := fun i hi => by rw [hI2, hatRR_98 hi, h98 98 (by decide) (by decide)]
    have r981 : I2 98 1 = nI (na + 1) := by rw [hI2]; rfl
    have ro : ∀ c, (c < 98 ∨ 108 < c ∨ (98 < c ∧ c < 102)) → I2 c = I1 c := fun c hc => by rw [hI2, hatRR_o hc]
    have rI : ∀ c, (c < 98 ∨ 108 < c ∨ (98 < c ∧ c < 102)) → c ≠ 1 → c ≠ 6 → c ≠ 7 → c ≠ 8 → c ≠ h.length → I2 c = I c := fun c hc a1 a2 a3 a4 a5 => (ro c hc).trans (hIo c a1 a2 a3 a4 a5)
    have rX : ∀ c (w : Int32), c = 102 ∨ c = 103 ∨ c = 104 ∨ c = 105 ∨ c = 106 ∨ c = 107 → ∀ a, a ≠ na → I2 c a = I c a := by
      intro c w hc a ha
      rcases hc with rfl | rfl | rfl | rfl | rfl | rfl
      · rw [hI2]; exact (upc_ne _ _ ha).trans (congrFun (h98 102 (by decide) (by decide)) a)
      · rw [hI2]; exact (upc_ne _ _ ha).trans (congrFun (h98 103 (by decide) (by decide)) a)
      · rw [hI2]; exact (upc_ne _ _ ha).trans (congrFun (h98 104 (by decide) (by decide)) a)
      · rw [hI2]; exact (upc_ne _ _ ha).trans (congrFun (h98 105 (by decide) (by decide)) a)
      · rw [hI2]; exact (upc_ne _ _ ha).trans (congrFun (h98 106 (by decide) (by decide)) a)
      · rw [hI2]; exact (upc_ne _ _ ha).trans (congrFun (h98 107 (by decide) (by decide)) a)
    have hq : ∀ q, 153 ≤ q → q < h.length → I2 q = I q ∧ K1 q = K q ∧ h1[q]? = h[q]? := fun q a b => ⟨rI q (by omega) (by omega) (by omega) (by omega) (by omega) (by omega), hKo q (by omega) (by omega), so q b⟩
    have cq1 : ∀ k, k ≠ 4 → I2 1 k = I 1 k := by
      intro k hk
      rw [ro 1 (by omega), hI1]
      unfold hatCI
      rw [s1_k hk, s1_o (by decide), s1_o (by decide), s1_o (by decide), s1_o (by decide), s1_o (by decide), s1_o (by decide), hatI_ne (by omega)]
    have cq14 : I2 1 4 = nI (na + 1) := by rw [ro 1 (by omega), hI1]; exact s1_e
    have V2 : SV I2 nh (na + 1) dd cb ce sn bn := by rw [hI2]; exact V1.hat h6 hkd g1 g2 g3 g4
    have E := C.ce
    have hT6 := C.tw6
    have lo : ∀ c, 1 < c → c < 98 → c ≠ 6 → c ≠ 7 → c ≠ 8 → I2 c = I c := fun c a b e f g => rI c (by omega) (by omega) e f g (by omega)
    have hiR : ∀ c, 108 < c → c < 153 → I2 c = I c := fun c a b => rI c (by omega) (by omega) (by omega) (by omega) (by omega) (by omega)
    have mid : ∀ c, 98 < c → c < 102 → I2 c = I c := fun c a b => rI c (by omega) (by omega) (by omega) (by omega) (by omega) (by omega)
    have cq6 : I2 6 = upc (I 6) na q4 := by
      rw [ro 6 (by omega), hI1]
      show upc (hatI (upc I h.length (fun _ => 0)) h.length (nI kd) (nI na) q2 q3 q5 6) na q4 = _
      rw [hatI_ne (by omega)]
    have cq7 : I2 7 = upc (I 7) na (nI 0) := by
      rw [ro 7 (by omega), hI1]
      show upc (hatI (upc I h.length (fun _ => 0)) h.length (nI kd) (nI na) q2 q3 q5 7) na (nI 0) = _
      rw [hatI_ne (by omega)]
    have cq8 : I2 8 = upc (upc (upc (upc (I 8) (na * 4 + 0) (nI 0)) (na * 4 + 1) (nI 0)) (na * 4 + 2) (nI 0)) (na * 4 + 3) (nI 0) := by
      rw [ro 8 (by omega), hI1]
      show upc (upc (upc (upc (hatI (upc I h.length (fun _ => 0)) h.length (nI kd) (nI na) q2 q3 q5 8) (na * 4 + 0) (nI 0)) (na * 4 + 1) (nI 0)) (na * 4 + 2) (nI 0)) (na * 4 + 3) (nI 0) = _
      rw [hatI_ne (by omega)]
    have r105 : I2 105 = upc (I 105) na q4 := by rw [hI2]; show upc (I1 105) na q4 = _; rw [h98 105 (by decide) (by decide)]
    have r107 : I2 107 = upc (I 107) na (nI 0) := by rw [hI2]; show upc (I1 107) na (nI 0) = _; rw [h98 107 (by decide) (by decide)]
    have r108 : I2 108 = upc (upc (upc (upc (I 108) (4 * na) (nI 0)) (4 * na + 1) (nI 0)) (4 * na + 2) (nI 0)) (4 * na + 3) (nI 0) := by rw [hI2]; show upc (upc (upc (upc (I1 108) (4 * na) (nI 0)) (4 * na + 1) (nI 0)) (4 * na + 2) (nI 0)) (4 * na + 3) (nI 0) = _; rw [h98 108 (by decide) (by decide)]
    have hCR : CR I2 K1 h1 I2 (na + 1) tw := by
      refine ⟨by rw [cq1 0 (by decide), r98 0 (by decide)]; exact E.heads, cq14.trans r981.symm, by rw [cq1 9 (by decide), r98 2 (by decide)]; exact E.day, by rw [cq1 11 (by decide), r98 43 (by decide)]; exact E.seen, by rw [cq1 14 (by decide), r98 47 (by decide)]; exact E.booked, by rw [cq1 17 (by decide), r98 15 (by decide)]; exact E.town, by rw [lo 2 (by decide) (by decide) (by decide) (by decide) (by decide), mid 99 (by decide) (by decide)]; exact E.a2, by rw [lo 3 (by decide) (by decide) (by decide) (by decide) (by decide), mid 100 (by decide) (by decide)]; exact E.a3, by rw [lo 4 (by decide) (by decide) (by decide) (by decide) (by decide), mid 101 (by decide) (by decide)]; exact E.a4, by rw [cq6, r105, E.a6], by rw [cq7, r107, E.a7], by rw [cq8, r108, E.a8, Nat.mul_comm na 4]; rfl, by rw [lo 9 (by decide) (by decide) (by decide) (by decide) (by decide), hiR 109 (by decide) (by decide)]; exact E.a9, by rw [lo 10 (by decide) (by decide) (by decide) (by decide) (by decide), hiR 128 (by decide) (by decide)]; exact E.a10, by rw [lo 11 (by decide) (by decide) (by decide) (by decide) (by decide), hiR 129 (by decide) (by decide)]; exact E.a11, by rw [lo 12 (by decide) (by decide) (by decide) (by decide) (by decide), hiR 131 (by decide) (by decide)]; exact E.a12, by rw [lo 13 (by decide) (by decide) (by decide) (by decide) (by decide), hiR 132 (by decide) (by decide)]; exact E.a13, by rw [rI 0 (by omega) (by omega) (by omega) (by omega) (by omega) (by omega)]; exact C.tc, C.tw6, by rw [r98 15 (by decide)]; exact C.tg, by rw [lo 29 (by decide) (by decide) (by decide) (by decide) (by decide)]; exact C.no, fun tt ht => ?_, fun a ha => ?_⟩
      · obtain ⟨CL, u1, u2, u3, u4⟩ := C.towns tt ht
        exact ⟨CL, u1.fr (fun j hj => lo _ (by omega) (by omega) (by omega) (by omega) (by omega)), by rw [hiR 111 (by decide) (by decide)]; exact u2, u3, u4.fr (fun c a b => hiR c (by omega) (by omega))⟩
      · by_cases e : a = na
        · subst e
          refine ⟨h.length, kd, ⟨hK5n, hlen⟩, ⟨hkd, by rw [hI2]; exact upc_eq _ _ _, sq⟩, ?_, ?_, ?_, ?_, ?_, ?_⟩
          · rw [ro _ (by omega), hI1]; unfold hatCI; rw [s1_o (by omega), s1_o (by omega), s1_o (by omega), s1_o (by omega), s1_o (by omega), s1_o (by omega), s1_o (by omega)]; unfold hatI; rw [s1_k (by decide), s1_k (by decide), s1_k (by decide), s1_k (by decide), s1_e]
          · rw [ro _ (by omega), hI1]; unfold hatCI; rw [s1_o (by omega), s1_o (by omega), s1_o (by omega), s1_o (by omega), s1_o (by omega), s1_o (by omega), s1_o (by omega)]; unfold hatI; rw [s1_k (by decide), s1_k (by decide), s1_k (by decide), s1_e]
          · rw [ro _ (by omega), hI1]; unfold hatCI; rw [s1_o (by omega), s1_o (by omega), s1_o (by omega), s1_o (by omega), s1_o (by omega), s1_o (by omega), s1_o (by omega)]; unfold hatI; rw [s1_k (by decide), s1_k (by decide), s1_e, hI2]; exact (upc_eq _ _ _).symm
          · rw [ro _ (by omega), hI1]; unfold hatCI; rw [s1_o (by omega), s1_o (by omega), s1_o (by omega), s1_o (by omega), s1_o (by omega), s1_o (by omega), s1_o (by omega)]; unfold hatI; rw [s1_k (by decide), s1_e, hI2]; exact (upc_eq _ _ _).symm
          · rw [ro _ (by omega), hI1]; unfold hatCI; rw [s1_o (by omega), s1_o (by omega), s1_o (by omega), s1_o (by omega), s1_o (by omega), s1_o (by omega), s1_o (by omega)]; unfold hatI; rw [s1_e, hI2]; exact (upc_eq _ _ _).symm
          · rw [hK1]
            show upc (hatK _ _) 5 _ h.length 5 = some 36
            rw [upc_ne _ _ (by omega)]
            unfold hatK
            rw [upc_eq, upc_eq]
        · exact (C.hat a (by omega)).kh hq (hK5 a e) (rX 102 0 (by omega) a e) (rX 103 0 (by omega) a e) (rX 104 0 (by omega) a e) (rX 106 0 (by omega) a e)
    have hK : KEPT I2 K1 h1 tw := by
      obtain ⟨⟨z1, z3, z2⟩, z9⟩ := hkp
      have F : ∀ c, (14 ≤ c ∧ c ≤ 26) ∨ (111 ≤ c ∧ c ≤ 117) ∨ (133 ≤ c ∧ c ≤ 147) → I2 c = I c := fun c hc => rI c (by omega) (by omega) (by omega) (by omega) (by omega) (by omega)
      refine ⟨⟨?_, z3.fr (fun c hc => F c (by omega)) (fun k hk => r98 k (by omega)), ?_⟩, fun tt ht => ?_⟩
      · rw [rI 0 (by omega) (by omega) (by omega) (by omega) (by omega) (by omega), r98 50 (by decide)]; exact z1
      · rw [r98 50 (by decide)]
        rcases z2 with z2 | ⟨nh3, na3, dd3, cb3, ce3, sn3, bn3, z4, z5, z6⟩
        · exact Or.inl z2
        · refine Or.inr ⟨nh3, na3, dd3, cb3, ce3, sn3, bn3, VW.fr z4 (fun c hc => F c (by omega)) (fun k hk => r98 k (by omega)), by rw [r98 51 (by decide)]; exact z5, fun a ha => ?_⟩
          exact (z6 a ha).kh hq (congrFun (hKo 18 (by decide) (by omega)) a) (congrFun (F 136 (by omega)) a) (congrFun (F 137 (by omega)) a) (congrFun (F 138 (by omega)) a) (congrFun (F 140 (by omega)) a)
      · obtain ⟨CL, u1, u2, u3, u4⟩ := z9 tt ht
        exact ⟨CL, u1.fr (fun j hj => lo _ (by omega) (by omega) (by omega) (by omega) (by omega)), by rw [F 111 (by omega)]; exact u2, u3, u4.fr9 (fun c x y => F c (by omega))⟩
    have hSD : SID I2 (upc J h.length (fun _ => 0)) := by
      have e0 : I2 0 = I 0 := rI 0 (by omega) (by omega) (by omega) (by omega) (by omega) (by omega)
      refine ⟨⟨cq9, fd, ?_⟩, ⟨by rw [e0, r98 16 (by decide)]; exact hA4, by rw [lo 27 (by decide) (by decide) (by decide) (by decide) (by decide), hiR 110 (by decide) (by decide)]; exact hA27⟩, fun i hi => by rw [hiR 119 (by decide) (by decide)]; exact hLT i hi, ⟨by rw [lo 36 (by decide) (by decide) (by decide) (by decide) (by decide), r98 72 (by decide)]; exact hT1, by rw [lo 37 (by decide) (by decide) (by decide) (by decide) (by decide), hiR 148 (by decide) (by decide)]; exact hT2, by rw [r98 72 (by decide)]; exact ⟨r9, hr9, hT3⟩⟩, fun u hu => ?_, ?_⟩
      · unfold TX at X9 ⊢
        rw [r98 16 (by decide), hiR 110 (by decide) (by decide)]
        exact X9
      · rw [lo (51 + 9 * u) (by omega) (by omega) (by omega) (by omega) (by omega), hiR 149 (by decide) (by decide), hiR 150 (by decide) (by decide), upc_ne _ _ (show 52 + 9 * u ≠ h.length by omega), upc_ne _ _ (show 151 ≠ h.length by omega)]
        exact hTP u hu
      · unfold TPI TP at hTI ⊢
        rw [hiR 149 (by decide) (by decide), hiR 150 (by decide) (by decide)]
        exact hTI
    have hlen1 : HL h1 (N + 1) := by
      have hN1 := hN.1
      have hN2 := hN.2
      refine ⟨by rw [hh1, List.length_append]; show h.length + 1 ≤ N + 1; omega, ?_⟩
      rw [hh1, xsz_add]
      have hx := xN_hat hkd
      show xsz h + xN (([2, 6, 10, 0, 4, 1, 7] : List Nat).getD kd 2) ≤ 1000000 + 20 * (N + 1)
      omega
    refine ⟨_, rfl, hy.trans hx.symm, I2, _, K1, h1, rfl, ⟨⟨S1, hlen1⟩, ⟨nh, na + 1, dd, cb, ce, tw, sn, bn, V2, hCR, by rw [r98 14 (by decide)]; exact htw, hK⟩, hSD, fun i hi => ?_, fun i hi => k18.kh (fun q _ b => so q b) hi (congrFun (hKo 18 (by decide) (by omega)) i)⟩, by rw [rI 1000000 (by omega) (by omega) (by omega) (by omega) (by omega) (by omega)]; exact hsc, by rw [rI 1000001 (by omega) (by omega) (by omega) (by omega) (by omega) (by omega)]; exact hn⟩
    by_cases e : i = na
    · subst e
      exact Or.inr ⟨h.length, _, hK5n, hlen, sq, xasg2 hkd⟩
    · exact k5.kh (fun q _ b => so q b) hi (hK5 i e)
