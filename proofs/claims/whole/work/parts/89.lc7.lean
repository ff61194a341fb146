/-! the law: class, then reference: image, undo -/
theorem SV.rng {R R2 : Nat → Nat → Int32} {nh na dd cb ce sn bn : Nat} (H : SV R nh na dd cb ce sn bn) (e6 : ∀ c k, 99 ≤ c → c ≤ 107 → k < 6 → R2 c k = R c k) (e108 : ∀ k, k < 24 → R2 108 k = R 108 k) (e8 : ∀ c k, c = 131 ∨ c = 132 → k < 8 → R2 c k = R c k) (e : ∀ c, 111 ≤ c → c ≤ 117 → R2 c = R c) (f : ∀ k, k = 0 ∨ k = 1 ∨ k = 2 ∨ k = 15 ∨ k = 33 ∨ k = 43 ∨ k = 47 → R2 98 k = R 98 k) : SV R2 nh na dd cb ce sn bn := by
  obtain ⟨M, Q, N, s1a, b1, b2⟩ := H
  have h6 := M.nh6
  have a6 := M.na6
  have f0 := f 0 (by omega)
  have f1 := f 1 (by omega)
  have f2 := f 2 (by omega)
  have f15 := f 15 (by omega)
  have f33 := f 33 (by omega)
  have f43 := f 43 (by omega)
  have f47 := f 47 (by omega)
  have g := fun c k (hk : k < nh) (a : 99 ≤ c) (b : c ≤ 107) => e6 c k a b (by omega)
  have ga := fun c k (hk : k < na) (a : 99 ≤ c) (b : c ≤ 107) => e6 c k a b (by omega)
  refine ⟨⟨f0.trans M.nh, h6, f1.trans M.na, a6, f2.trans M.dd, M.dd5, ?_, ?_, fun k hk => ?_, fun a ha => ?_⟩, ⟨fun k l a hk hl ha q1 q2 => ?_, fun a ha => ?_, fun a ha => ?_, fun k hk => ?_, fun a ha => ?_, fun a ha => ?_, fun a ha => ?_, fun a p ha hp => ?_, fun k hk => ?_, Q.dd9, f33.trans Q.mu⟩, ?_, ⟨f43.trans s1a.1, s1a.2⟩, ⟨f47.trans b1.1, b1.2⟩, fun k hk => ?_⟩
  · have T := M.th
    unfold TH at T ⊢
    rw [f15, e 111 (by omega) (by omega)]
    exact T
  · intro c h1 h2 h3
    rw [e 112 (by omega) (by omega)] at h3
    have h4 := M.wf c h1 h2 h3
    unfold cOK at h4 ⊢
    rw [e 115 (by omega) (by omega), e 116 (by omega) (by omega), e 117 (by omega) (by omega)]
    exact h4
  · rw [g 101 k hk (by omega) (by omega)]; exact M.worn k hk
  · rw [ga 102 a ha (by omega) (by omega)]; exact M.kind a ha
  · rw [g 101 k hk (by omega) (by omega)] at q1
    rw [g 101 l hl (by omega) (by omega)] at q2
    exact Q.dist k l a hk hl ha q1 q2
  · rw [ga 107 a ha (by omega) (by omega)]; exact Q.used a ha
  · rw [ga 104 a ha (by omega) (by omega)]; exact Q.hsz a ha
  · rw [g 99 k hk (by omega) (by omega)]; exact Q.fsz k hk
  · rw [ga 103 a ha (by omega) (by omega)]; exact Q.vv a ha
  · rw [ga 105 a ha (by omega) (by omega)]; exact Q.sk a ha
  · rw [ga 106 a ha (by omega) (by omega)]; exact Q.tr a ha
  · rw [e108 _ (by omega)]; exact Q.ro a p ha hp
  · rw [g 100 k hk (by omega) (by omega)]; exact Q.own k hk
  · unfold CN9 at N ⊢
    rw [e 113 (by omega) (by omega)]
    exact N
  · have := b1.2
    rw [e8 131 k (Or.inl rfl) (by omega), e8 132 k (Or.inr rfl) (by omega)]
    exact b2 k hk
theorem CR.kh {I R : Nat → Nat → Int32} {K K2 : Nat → Nat → Option Nat} {h : List xSh} {na tw : Nat} (C : CR I K h R na tw) (e : ∀ q, 153 ≤ q → K2 q = K q) (e5 : K2 5 = K 5) : CR I K2 h R na tw := ⟨C.heads, C.hats, C.day, C.seen, C.booked, C.town, C.a2, C.a3, C.a4, C.a6, C.a7, C.a8, C.a9, C.a10, C.a11, C.a12, C.a13, C.tc, C.tw6, C.tg, C.no, C.towns, fun a ha => (C.hat a ha).kh (fun q a _ => ⟨rfl, e q a, rfl⟩) (congrFun e5 a) rfl rfl rfl rfl⟩
theorem SID.fr2 {I I2 : Nat → Nat → Int32} {J : Nat → Nat → Int64} (H : SID I J) (f04 : I2 0 4 = I 0 4) (F : ∀ c, (26 < c ∧ c < 39) ∨ (43 < c ∧ c < 98) ∨ (110 ≤ c ∧ c ≤ 119) ∨ c = 148 ∨ c = 149 ∨ c = 150 → I2 c = I c) (f : ∀ k, k = 16 ∨ k = 72 → I2 98 k = I 98 k) : SID I2 J := by
  obtain ⟨⟨c, fd, X⟩, ⟨a1, a2⟩, L, ⟨t1, t2, t3⟩, T, TI⟩ := H
  have f16 := f 16 (by omega)
  have f72 := f 72 (by omega)
  refine ⟨⟨c, fd, ?_⟩, ⟨by rw [f04, f16]; exact a1, by rw [F 27 (by omega), F 110 (by omega)]; exact a2⟩, fun i hi => by rw [F 119 (by omega)]; exact L i hi, ⟨by rw [F 36 (by omega), f72]; exact t1, by rw [F 37 (by omega), F 148 (by omega)]; exact t2, by rw [f72]; exact t3⟩, fun t ht => ?_, ?_⟩
  · unfold TX at X ⊢
    rw [f16, F 110 (by omega)]
    exact X
  · rw [F (51 + 9 * t) (by omega), F 149 (by omega), F 150 (by omega)]
    exact T t ht
  · unfold TPI TP at TI ⊢
    rw [F 149 (by omega), F 150 (by omega)]
    exact TI
theorem sDi_o {c : Nat} (h : c < 133 ∨ 147 < c) : sDi c = c := by
  unfold sDi
  split <;> first | rfl | omega
theorem sDu_o {c : Nat} (h : c < 99 ∨ (109 < c ∧ c < 128) ∨ c = 130 ∨ 132 < c) : sDu c = c := by
  unfold sDu
  split <;> first | rfl | omega
theorem img_o {I : Nat → Nat → Int32} {c : Nat} (h : c < 133 ∨ 147 < c) (h2 : c ≠ 98) : imgI I c = I c := by
  funext m
  show cpM sDi (li3 8) (imgB I) c m = I c m
  rw [cp_src (sDi_o h)]
  unfold imgB
  rw [s1_o h2, s1_o h2, s1_o h2, s1_o h2, s1_o h2, s1_o h2, s1_o h2]
theorem img_98 {I : Nat → Nat → Int32} {k : Nat} (h : k < 50 ∨ 56 < k) : imgI I 98 k = I 98 k := by
  show cpM sDi (li3 8) (imgB I) 98 k = I 98 k
  rw [cp_src (sDi_o (by decide))]
  unfold imgB
  rw [s1_k (by omega), s1_k (by omega), s1_k (by omega), s1_k (by omega), s1_k (by omega), s1_k (by omega), s1_k (by omega)]
theorem und_o {I : Nat → Nat → Int32} {c : Nat} (h : c < 99 ∨ (109 < c ∧ c < 128) ∨ c = 130 ∨ 132 < c) (h2 : c ≠ 98) : undI I c = I c := by
  funext m
  show cpM sDu (lu3 8) (undB I) c m = I c m
  rw [cp_src (sDu_o h)]
  unfold undB
  rw [s1_o h2, s1_o h2, s1_o h2, s1_o h2, s1_o h2, s1_o h2]
theorem und_98 {I : Nat → Nat → Int32} {k : Nat} (h : k ≠ 0 ∧ k ≠ 1 ∧ k ≠ 2 ∧ k ≠ 15 ∧ k ≠ 43 ∧ k ≠ 47) : undI I 98 k = I 98 k := by
  show cpM sDu (lu3 8) (undB I) 98 k = I 98 k
  rw [cp_src (sDu_o (by decide))]
  unfold undB
  rw [s1_k (by omega), s1_k (by omega), s1_k (by omega), s1_k (by omega), s1_k (by omega), s1_k (by omega)]
theorem bcK_o {I : Nat → Nat → Int32} {c : Nat} (h : c < 14 ∨ 26 < c) : bcK I c = I c := by
  unfold bcK
  repeat (first | rw [upc_ne _ _ (by omega)] | rw [s1_o (by omega)])
theorem bcU_o {I : Nat → Nat → Int32} {c : Nat} (h : c < 1 ∨ 13 < c) : bcU I c = I c := by
  unfold bcU
  repeat (first | rw [upc_ne _ _ (by omega)] | rw [s1_o (by omega)])
theorem bcU_1 {I : Nat → Nat → Int32} : bcU I 1 0 = I 14 0 ∧ bcU I 1 4 = I 14 4 ∧ bcU I 1 9 = I 14 9 ∧ bcU I 1 11 = I 14 11 ∧ bcU I 1 14 = I 14 14 ∧ bcU I 1 17 = I 14 17 := ⟨rfl, rfl, rfl, rfl, rfl, rfl⟩
theorem bcK_14 {I : Nat → Nat → Int32} : bcK I 14 0 = I 1 0 ∧ bcK I 14 4 = I 1 4 ∧ bcK I 14 9 = I 1 9 ∧ bcK I 14 11 = I 1 11 ∧ bcK I 14 14 = I 1 14 ∧ bcK I 14 17 = I 1 17 := ⟨rfl, rfl, rfl, rfl, rfl, rfl⟩
theorem img_133 {I : Nat → Nat → Int32} : imgI I 133 = cpN 6 (I 99) (I 133) := rfl
theorem und_99 {I : Nat → Nat → Int32} : undI I 99 = cpN 6 (I 133) (I 99) := rfl
theorem img_134 {I : Nat → Nat → Int32} : imgI I 134 = cpN 6 (I 100) (I 134) := rfl
theorem und_100 {I : Nat → Nat → Int32} : undI I 100 = cpN 6 (I 134) (I 100) := rfl
theorem img_135 {I : Nat → Nat → Int32} : imgI I 135 = cpN 6 (I 101) (I 135) := rfl
theorem und_101 {I : Nat → Nat → Int32} : undI I 101 = cpN 6 (I 135) (I 101) := rfl
theorem img_136 {I : Nat → Nat → Int32} : imgI I 136 = cpN 6 (I 102) (I 136) := rfl
theorem und_102 {I : Nat → Nat → Int32} : undI I 102 = cpN 6 (I 136) (I 102) := rfl
theorem img_137 {I : Nat → Nat → Int32} : imgI I 137 = cpN 6 (I 103) (I 137) := rfl
theorem und_103 {I : Nat → Nat → Int32} : undI I 103 = cpN 6 (I 137) (I 103) := rfl
theorem img_138 {I : Nat → Nat → Int32} : imgI I 138 = cpN 6 (I 104) (I 138) := rfl
theorem und_104 {I : Nat → Nat → Int32} : undI I 104 = cpN 6 (I 138) (I 104) := rfl
theorem img_139 {I : Nat → Nat → Int32} : imgI I 139 = cpN 6 (I 105) (I 139) := rfl
theorem und_105 {I : Nat → Nat → Int32} : undI I 105 = cpN 6 (I 139) (I 105) := rfl
theorem img_140 {I : Nat → Nat → Int32} : imgI I 140 = cpN 6 (I 106) (I 140) := rfl
theorem und_106 {I : Nat → Nat → Int32} : undI I 106 = cpN 6 (I 140) (I 106) := rfl
theorem img_141 {I : Nat → Nat → Int32} : imgI I 141 = cpN 6 (I 107) (I 141) := rfl
theorem und_107 {I : Nat → Nat → Int32} : undI I 107 = cpN 6 (I 141) (I 107) := rfl
theorem img_142 {I : Nat → Nat → Int32} : imgI I 142 = cpN 24 (I 108) (I 142) := rfl
theorem und_108 {I : Nat → Nat → Int32} : undI I 108 = cpN 24 (I 142) (I 108) := rfl
theorem img_143 {I : Nat → Nat → Int32} : imgI I 143 = cpN 5 (I 109) (I 143) := rfl
theorem und_109 {I : Nat → Nat → Int32} : undI I 109 = cpN 5 (I 143) (I 109) := rfl
theorem img_144 {I : Nat → Nat → Int32} : imgI I 144 = cpN 6 (I 128) (I 144) := rfl
theorem und_128 {I : Nat → Nat → Int32} : undI I 128 = cpN 6 (I 144) (I 128) := rfl
theorem img_145 {I : Nat → Nat → Int32} : imgI I 145 = cpN 6 (I 129) (I 145) := rfl
theorem und_129 {I : Nat → Nat → Int32} : undI I 129 = cpN 6 (I 145) (I 129) := rfl
theorem img_146 {I : Nat → Nat → Int32} : imgI I 146 = cpN 8 (I 131) (I 146) := rfl
theorem und_131 {I : Nat → Nat → Int32} : undI I 131 = cpN 8 (I 146) (I 131) := rfl
theorem img_147 {I : Nat → Nat → Int32} : imgI I 147 = cpN 8 (I 132) (I 147) := rfl
theorem und_132 {I : Nat → Nat → Int32} : undI I 132 = cpN 8 (I 147) (I 132) := rfl
theorem cpN_lt {α : Type} {n k : Nat} {f g : Nat → α} (h : k < n) : cpN n f g k = f k := if_pos h
theorem LC_undo {d : Nat} {I : Nat → Nat → Int32} {J : Nat → Nat → Int64} {K : Nat → Nat → Option Nat} {h : List xSh} {N n : Nat} {sc : Nat → Int32} (H : INV I J K h N) (hsc : I 1000000 = sc) (hn : I 1000001 0 = nI n) : EvP (d + 20) 92 0 [(0, .ref 0)] [] (I, J, K, h) (QI (fun x t => MID (N + 1) sc n 214 [(0, .ref 98)] x t)) := by
  have H0 := H
  have HD0 := H.2.2.1
  obtain ⟨⟨S, hN⟩, ⟨nh, na, dd, cb, ce, tw, sn, bn, V, C, htw, hkp⟩, ⟨⟨cq9, fd, X9⟩, ⟨hA4, hA27⟩, hLT, ⟨hT1, hT2, r9, hr9, hT3⟩, hTP, hTI⟩, k5, k18⟩ := H
  have M := V.1
  have Q := V.2.1
  have hD := AR.db M Q V.2.2.1
  have hmu := Q.mu
  have hd9 := Q.dd9
  obtain ⟨hsn, hs6⟩ := V.2.2.2.1
  obtain ⟨hbn, hb8⟩ := V.2.2.2.2.1
  have hbk := V.2.2.2.2.2
  have hU : ∀ c, (c < 1 ∨ 13 < c) → bcU I c = I c := fun c hc => bcU_o hc
  refine EvP.mono (C_undo (d := d + 17) S k18) (fun r t hq => ?_)
  obtain ⟨x, rfl, ⟨h0, hx, rfl⟩ | ⟨h0, hx, rfl⟩⟩ := hq
  · refine ⟨_, rfl, I, J, K, h, rfl, S, ⟨hsc, hn⟩, fun d2 => ?_⟩
    refine EvP.mono (M_undo (d := d2 + 20) S) (fun r t hq => ?_)
    obtain ⟨y, rfl, hy, rfl⟩ := hq
    have e50 : I 98 50 = 0 := hkp.1.1.symm.trans h0
    have eu : undM I = (-3, I) := if_pos e50
    rw [eu] at hy ⊢
    exact ⟨_, rfl, hy.trans hx.symm, I, J, K, h, rfl, H0.mono (Nat.le_succ N), hsc, hn⟩
  · obtain ⟨⟨z1, z3, z2⟩, z9⟩ := hkp
    have e50 : ¬ I 98 50 = 0 := fun z => h0 (z1.trans z)
    obtain ⟨nh3, na3, dd3, cb3, ce3, sn3, bn3, z4, z5, z6⟩ := z2.resolve_left e50
    have S1 := S.hi (Or.inr (Or.inl rfl)) (cpN 6 (K 18) (K 5))
    refine ⟨_, rfl, bcU I, J, _, h, rfl, S1, ⟨by rw [hU 1000000 (by omega)]; exact hsc, by rw [hU 1000001 (by omega)]; exact hn⟩, fun d2 => ?_⟩
    refine EvP.mono (M_undo (d := d2 + 20) S1) (fun r t hq => ?_)
    obtain ⟨y, rfl, hy, rfl⟩ := hq
    have eu : undM (bcU I) = (bcU I 98 53, undI (bcU I)) := if_neg (by rw [hU 98 (by omega)]; exact e50)
    rw [eu] at hy ⊢
    obtain ⟨I2, hI2⟩ : ∃ X, X = undI (bcU I) := ⟨_, rfl⟩
    show QI _ _ (undI (bcU I), _, _, _)
    rw [← hI2]
    have ZK := z3
    unfold KEQ at z3
    obtain ⟨k0, k4, k9, k11, k14, k17, k15, k16, k17a, k19, k20, k21, k22, k23, k24, k25, k26⟩ := z3
    have E := C.ce
    have o : ∀ c, c ≠ 98 → (c < 1 ∨ (13 < c ∧ c < 99) ∨ (109 < c ∧ c < 128) ∨ c = 130 ∨ 132 < c) → I2 c = I c := fun c a b => by rw [hI2, und_o (by omega) a, hU c (by omega)]
    have o98 : ∀ k, k ≠ 0 ∧ k ≠ 1 ∧ k ≠ 2 ∧ k ≠ 15 ∧ k ≠ 43 ∧ k ≠ 47 → I2 98 k = I 98 k := fun k hk => by rw [hI2, und_98 hk, hU 98 (by omega)]
    have cq1 : ∀ c, 1 ≤ c → c ≤ 13 → I2 c = bcU I c := fun c a b => by rw [hI2, und_o (by omega) (by omega)]
    have u98 : I2 98 0 = I 98 52 ∧ I2 98 1 = I 98 53 ∧ I2 98 2 = I 98 54 ∧ I2 98 15 = I 98 51 ∧ I2 98 43 = I 98 55 ∧ I2 98 47 = I 98 56 := by rw [hI2]; exact ⟨rfl, rfl, rfl, rfl, rfl, rfl⟩
    have u99 : I2 99 = cpN 6 (I 133) (I 99) := by rw [hI2]; rfl
    have u100 : I2 100 = cpN 6 (I 134) (I 100) := by rw [hI2]; rfl
    have u101 : I2 101 = cpN 6 (I 135) (I 101) := by rw [hI2]; rfl
    have u102 : I2 102 = cpN 6 (I 136) (I 102) := by rw [hI2]; rfl
    have u103 : I2 103 = cpN 6 (I 137) (I 103) := by rw [hI2]; rfl
    have u104 : I2 104 = cpN 6 (I 138) (I 104) := by rw [hI2]; rfl
    have u105 : I2 105 = cpN 6 (I 139) (I 105) := by rw [hI2]; rfl
    have u106 : I2 106 = cpN 6 (I 140) (I 106) := by rw [hI2]; rfl
    have u107 : I2 107 = cpN 6 (I 141) (I 107) := by rw [hI2]; rfl
    have u108 : I2 108 = cpN 24 (I 142) (I 108) := by rw [hI2]; rfl
    have u109 : I2 109 = cpN 5 (I 143) (I 109) := by rw [hI2]; rfl
    have u128 : I2 128 = cpN 6 (I 144) (I 128) := by rw [hI2]; rfl
    have u129 : I2 129 = cpN 6 (I 145) (I 129) := by rw [hI2]; rfl
    have u131 : I2 131 = cpN 8 (I 146) (I 131) := by rw [hI2]; rfl
    have u132 : I2 132 = cpN 8 (I 147) (I 132) := by rw [hI2]; rfl
    have v2 : I2 2 = cpN 6 (I 15) (I 2) := by rw [cq1 2 (by omega) (by omega)]; rfl
    have v3 : I2 3 = cpN 6 (I 16) (I 3) := by rw [cq1 3 (by omega) (by omega)]; rfl
    have v4 : I2 4 = cpN 6 (I 17) (I 4) := by rw [cq1 4 (by omega) (by omega)]; rfl
    have v6 : I2 6 = cpN 6 (I 19) (I 6) := by rw [cq1 6 (by omega) (by omega)]; rfl
    have v7 : I2 7 = cpN 6 (I 20) (I 7) := by rw [cq1 7 (by omega) (by omega)]; rfl
    have v8 : I2 8 = cpN 24 (I 21) (I 8) := by rw [cq1 8 (by omega) (by omega)]; rfl
    have v9 : I2 9 = cpN 5 (I 22) (I 9) := by rw [cq1 9 (by omega) (by omega)]; rfl
    have v10 : I2 10 = cpN 6 (I 23) (I 10) := by rw [cq1 10 (by omega) (by omega)]; rfl
    have v11 : I2 11 = cpN 6 (I 24) (I 11) := by rw [cq1 11 (by omega) (by omega)]; rfl
    have v12 : I2 12 = cpN 8 (I 25) (I 12) := by rw [cq1 12 (by omega) (by omega)]; rfl
    have v13 : I2 13 = cpN 8 (I 26) (I 13) := by rw [cq1 13 (by omega) (by omega)]; rfl
    have V2 : SV I2 nh3 na3 dd3 cb3 ce3 sn3 bn3 := by
      refine z4.rng (fun c k a b hk => ?_) (fun k hk => ?_) (fun c k hc hk => ?_) (fun c a b => ?_) (fun k hk => ?_)
      · rcases (show c = 99 ∨ c = 100 ∨ c = 101 ∨ c = 102 ∨ c = 103 ∨ c = 104 ∨ c = 105 ∨ c = 106 ∨ c = 107 by omega) with rfl | rfl | rfl | rfl | rfl | rfl | rfl | rfl | rfl
        · rw [u99]; exact cpN_lt hk
        · rw [u100]; exact cpN_lt hk
        · rw [u101]; exact cpN_lt hk
        · rw [u102]; exact cpN_lt hk
        · rw [u103]; exact cpN_lt hk
        · rw [u104]; exact cpN_lt hk
        · rw [u105]; exact cpN_lt hk
        · rw [u106]; exact cpN_lt hk
        · rw [u107]; exact cpN_lt hk
      · rw [u108]; exact cpN_lt hk
      · rcases hc with rfl | rfl
        · rw [u131]; exact cpN_lt hk
        · rw [u132]; exact cpN_lt hk
      · rcases (show c = 111 ∨ c = 112 ∨ c = 113 ∨ c = 114 ∨ c = 115 ∨ c = 116 ∨ c = 117 by omega) with rfl | rfl | rfl | rfl | rfl | rfl | rfl <;> exact o _ (by omega) (by omega)
      · rcases hk with rfl | rfl | rfl | rfl | rfl | rfl | rfl
        · exact u98.1
        · exact u98.2.1
        · exact u98.2.2.1
        · exact u98.2.2.2.1
        · exact o98 33 (by decide)
        · exact u98.2.2.2.2.1
        · exact u98.2.2.2.2.2
    have hK5 : ∀ a, a < 6 → upc K 5 (cpN 6 (K 18) (K 5)) 5 a = K 18 a := fun a ha => by rw [upc_eq]; exact cpN_lt ha
    have hKq : ∀ c, c ≠ 5 → upc K 5 (cpN 6 (K 18) (K 5)) c = K c := fun c hc => upc_ne _ _ hc
    have e1 := cq1 1 (by omega) (by omega)
    have hq : ∀ q, 153 ≤ q → q < h.length → I2 q = I q ∧ upc K 5 (cpN 6 (K 18) (K 5)) q = K q ∧ h[q]? = h[q]? := fun q a _ => ⟨o q (by omega) (by omega), hKq q (by omega), rfl⟩
    have a6 := z4.1.na6
    have hCR : CR I2 (upc K 5 (cpN 6 (K 18) (K 5))) h I2 na3 tw := by
      refine ⟨by rw [e1, u98.1]; exact k0, by rw [e1, u98.2.1]; exact k4, by rw [e1, u98.2.2.1]; exact k9, by rw [e1, u98.2.2.2.2.1]; exact k11, by rw [e1, u98.2.2.2.2.2]; exact k14, by rw [e1, u98.2.2.2.1]; exact k17, by rw [v2, u99, k15, E.a2], by rw [v3, u100, k16, E.a3], by rw [v4, u101, k17a, E.a4], by rw [v6, u105, k19, E.a6], by rw [v7, u107, k20, E.a7], by rw [v8, u108, k21, E.a8], by rw [v9, u109, k22, E.a9], by rw [v10, u128, k23, E.a10], by rw [v11, u129, k24, E.a11], by rw [v12, u131, k25, E.a12], by rw [v13, u132, k26, E.a13], by rw [o 0 (by omega) (by omega)]; exact C.tc, C.tw6, by rw [u98.2.2.2.1]; exact z5, by rw [o 29 (by omega) (by omega)]; exact C.no, fun tt ht => ?_, fun a ha => ?_⟩
      · have h6 := C.tw6
        obtain ⟨CL, t1, t2, t3, t4⟩ := C.towns tt ht
        exact ⟨CL, t1.fr (fun j hj => o _ (by omega) (by omega)), by rw [o 111 (by omega) (by omega)]; exact t2, t3, t4.fr (fun c a b => o c (by omega) (by omega))⟩
      · exact (z6 a ha).kh hq (hK5 a (by omega)) (by rw [u102]; exact cpN_lt (by omega)) (by rw [u103]; exact cpN_lt (by omega)) (by rw [u104]; exact cpN_lt (by omega)) (by rw [u106]; exact cpN_lt (by omega))
    have hKP : KEPT I2 (upc K 5 (cpN 6 (K 18) (K 5))) h tw := by
      have h6 := C.tw6
      refine ⟨⟨?_, ZK.fr (fun c hc => o c (by omega) (by omega)) (fun k hk => o98 k (by omega)), ?_⟩, fun tt ht => ?_⟩
      · rw [o 0 (by omega) (by omega), o98 50 (by decide)]; exact z1
      · refine Or.inr ⟨nh3, na3, dd3, cb3, ce3, sn3, bn3, VW.fr z4 (fun c hc => o c (by omega) (by omega)) (fun k hk => o98 k (by omega)), by rw [o98 51 (by decide)]; exact z5, fun a ha => ?_⟩
        exact (z6 a ha).kh hq (congrFun (hKq 18 (by decide)) a) (congrFun (o 136 (by omega) (by omega)) a) (congrFun (o 137 (by omega) (by omega)) a) (congrFun (o 138 (by omega) (by omega)) a) (congrFun (o 140 (by omega) (by omega)) a)
      · obtain ⟨CL, t1, t2, t3, t4⟩ := z9 tt ht
        exact ⟨CL, t1.fr (fun j hj => o _ (by omega) (by omega)), by rw [o 111 (by omega) (by omega)]; exact t2, t3, t4.fr9 (fun c a b => o c (by omega) (by omega))⟩
    refine ⟨_, rfl, hy.trans (Eq.trans ?_ hx.symm), I2, J, _, h, rfl, ⟨⟨S1, hN.mono (by omega)⟩, ⟨nh3, na3, dd3, cb3, ce3, tw, sn3, bn3, V2, hCR, by rw [o98 14 (by decide)]; exact htw, hKP⟩, HD0.fr2 (congrFun (o 0 (by omega) (by omega)) 4) (fun c hc => o c (by omega) (by omega)) (fun k hk => o98 k (by omega)), fun i hi => k18.kh (fun _ _ _ => rfl) hi (hK5 i hi), fun i hi => k18.kh (fun _ _ _ => rfl) hi (congrFun (hKq 18 (by decide)) i)⟩, by rw [o 1000000 (by omega) (by omega)]; exact hsc, by rw [o 1000001 (by omega) (by omega)]; exact hn⟩
    show bcU I 98 53 = I 14 4
    rw [hU 98 (by omega)]
    exact k4.symm
