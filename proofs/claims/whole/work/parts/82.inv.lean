/-! what holds between two calls -/
theorem SV.tr {R R2 : Nat → Nat → Int32} {nh na dd cb ce sn bn : Nat} (H : SV R nh na dd cb ce sn bn) (e : ∀ c, (99 ≤ c ∧ c ≤ 108) ∨ (111 ≤ c ∧ c ≤ 117) ∨ c = 131 ∨ c = 132 → R2 c = R c) (f : ∀ k, k = 0 ∨ k = 1 ∨ k = 2 ∨ k = 15 ∨ k = 33 ∨ k = 43 ∨ k = 47 → R2 98 k = R 98 k) : SV R2 nh na dd cb ce sn bn := by
  obtain ⟨M, Q, N, s1a, b1, b2⟩ := H
  have f0 := f 0 (by omega)
  have f1 := f 1 (by omega)
  have f2 := f 2 (by omega)
  have f15 := f 15 (by omega)
  have f33 := f 33 (by omega)
  have f43 := f 43 (by omega)
  have f47 := f 47 (by omega)
  have e99 := e 99 (by omega)
  have e100 := e 100 (by omega)
  have e101 := e 101 (by omega)
  have e102 := e 102 (by omega)
  have e103 := e 103 (by omega)
  have e104 := e 104 (by omega)
  have e105 := e 105 (by omega)
  have e106 := e 106 (by omega)
  have e107 := e 107 (by omega)
  have e108 := e 108 (by omega)
  have e111 := e 111 (by omega)
  have e112 := e 112 (by omega)
  have e113 := e 113 (by omega)
  have e114 := e 114 (by omega)
  have e115 := e 115 (by omega)
  have e116 := e 116 (by omega)
  have e117 := e 117 (by omega)
  have e131 := e 131 (by omega)
  have e132 := e 132 (by omega)
  refine ⟨⟨by rw [f0]; exact M.nh, M.nh6, by rw [f1]; exact M.na, M.na6, by rw [f2]; exact M.dd, M.dd5, ?_, ?_, by rw [e101]; exact M.worn, by rw [e102]; exact M.kind⟩, ⟨by rw [e101]; exact Q.dist, by rw [e107]; exact Q.used, by rw [e104]; exact Q.hsz, by rw [e99]; exact Q.fsz, by rw [e103]; exact Q.vv, by rw [e105]; exact Q.sk, by rw [e106]; exact Q.tr, by rw [e108]; exact Q.ro, by rw [e100]; exact Q.own, Q.dd9, by rw [f33]; exact Q.mu⟩, ?_, by rw [f43]; exact s1a, by rw [f47]; exact b1, by rw [e131, e132]; exact b2⟩
  · have T := M.th
    unfold TH at T ⊢
    rw [f15, e111]
    exact T
  · intro c h1 h2 h3
    rw [e112] at h3
    have h4 := M.wf c h1 h2 h3
    unfold cOK at h4 ⊢
    rw [e115, e116, e117]
    exact h4
  · unfold CN9 at N ⊢
    rw [e113]
    exact N
theorem CR.fr2 {I I2 R R2 : Nat → Nat → Int32} {K : Nat → Nat → Option Nat} {h : List xSh} {na tw : Nat} (C : CR I K h R na tw) (E : CE I2 R2) (f07 : I2 0 7 = I 0 7) (F : ∀ c, (29 ≤ c ∧ c ≤ 35) ∨ (∃ t j, t < 6 ∧ j ≤ 6 ∧ c = 44 + 9 * t + j) ∨ 153 ≤ c → I2 c = I c) (G : ∀ c, (102 ≤ c ∧ c ≤ 104) ∨ c = 106 ∨ (111 ≤ c ∧ c ≤ 117) → R2 c = R c) (ht : R2 98 15 = R 98 15) : CR I2 K h R2 na tw := by
  have t6 := C.tw6
  refine ⟨E.heads, E.hats, E.day, E.seen, E.booked, E.town, E.a2, E.a3, E.a4, E.a6, E.a7, E.a8, E.a9, E.a10, E.a11, E.a12, E.a13, ?_, C.tw6, ?_, ?_, fun tt htt => ?_, fun a ha => ?_⟩
  · rw [f07]; exact C.tc
  · rw [ht]; exact C.tg
  · rw [F 29 (Or.inl (by decide))]; exact C.no
  · obtain ⟨CL, h1, h2, h3, h4⟩ := C.towns tt htt
    refine ⟨CL, h1.fr (fun j hj => F _ (Or.inr (Or.inl ⟨tt, j, by omega, hj, rfl⟩))), ?_, h3, h4.fr (fun c h1 h2 => G c (by omega))⟩
    rw [G 111 (by omega)]; exact h2
  · rw [G 102 (by omega), G 103 (by omega), G 104 (by omega), G 106 (by omega)]
    exact (C.hat a ha).fr (fun q hq => F q (Or.inr (Or.inr hq)))
/-- the reference as if the kept scene were on -/
def VW (I : Nat → Nat → Int32) : Nat → Nat → Int32 := fun c k => match c with
  | 98 => (match k with
    | 0 => I 98 52
    | 1 => I 98 53
    | 2 => I 98 54
    | 15 => I 98 51
    | 43 => I 98 55
    | 47 => I 98 56
    | k => I 98 k)
  | 99 => I 133 k
  | 100 => I 134 k
  | 101 => I 135 k
  | 102 => I 136 k
  | 103 => I 137 k
  | 104 => I 138 k
  | 105 => I 139 k
  | 106 => I 140 k
  | 107 => I 141 k
  | 108 => I 142 k
  | 109 => I 143 k
  | 128 => I 144 k
  | 129 => I 145 k
  | 131 => I 146 k
  | 132 => I 147 k
  | c => I c k
/-- the cells that both keep of the kept scene -/
def KEQ (I : Nat → Nat → Int32) : Prop := I 14 0 = I 98 52 ∧ I 14 4 = I 98 53 ∧ I 14 9 = I 98 54 ∧ I 14 11 = I 98 55 ∧ I 14 14 = I 98 56 ∧ I 14 17 = I 98 51 ∧ I 15 = I 133 ∧ I 16 = I 134 ∧ I 17 = I 135 ∧ I 19 = I 139 ∧ I 20 = I 141 ∧ I 21 = I 142 ∧ I 22 = I 143 ∧ I 23 = I 144 ∧ I 24 = I 145 ∧ I 25 = I 146 ∧ I 26 = I 147
/-- the towns as both keep them -/
def TW9 (I : Nat → Nat → Int32) (tw : Nat) : Prop := ∀ tt, tt < tw → ∃ CL : List xCl, CTg I (44 + 9 * tt) CL ∧ I 111 tt = nI CL.length ∧ CL.length ≤ 10 ∧ RTg I (I 117) tt CL (100 * tt + 100)
def KEP0 (I : Nat → Nat → Int32) (K : Nat → Nat → Option Nat) (h : List xSh) (tw : Nat) : Prop := I 0 2 = I 98 50 ∧ KEQ I ∧ (I 98 50 = 0 ∨ (∃ nh na dd cb ce sn bn, SV (VW I) nh na dd cb ce sn bn ∧ (I 98 51 = -1 ∨ ∃ tt, tt < tw ∧ I 98 51 = nI tt) ∧ ∀ a, a < na → HO I K h (K 18) (I 136) (I 137) (I 138) (I 140) a))
def KEPT (I : Nat → Nat → Int32) (K : Nat → Nat → Option Nat) (h : List xSh) (tw : Nat) : Prop := KEP0 I K h tw ∧ TW9 I tw
/-- what is the same on both sides beside the scene -/
def SID (I : Nat → Nat → Int32) (J : Nat → Nat → Int64) : Prop := (∃ c fd, TX I c fd) ∧ (I 0 4 = I 98 16 ∧ I 27 = I 110) ∧ LT9 I ∧ (I 36 1 = I 98 72 ∧ I 37 = I 148 ∧ ∃ r, r < 100 ∧ I 98 72 = nI r) ∧ TPR I J I (J 151) ∧ TPI I
/-- the heap's bounds: cells and slots -/
def HL (h : List xSh) (N : Nat) : Prop := h.length ≤ N ∧ xsz h ≤ 1000000 + 20 * N
theorem HL.mono {h : List xSh} {N N2 : Nat} (H : HL h N) (hN : N ≤ N2) : HL h N2 := ⟨Nat.le_trans H.1 hN, Nat.le_trans H.2 (by omega)⟩
/-- what holds between two calls -/
def INV (I : Nat → Nat → Int32) (J : Nat → Nat → Int64) (K : Nat → Nat → Option Nat) (h : List xSh) (N : Nat) : Prop := (St K h ∧ HL h N) ∧ (∃ nh na dd cb ce tw sn bn, SV I nh na dd cb ce sn bn ∧ CR I K h I na tw ∧ I 98 14 = nI tw ∧ KEPT I K h tw) ∧ SID I J ∧ KHT K h 5 ∧ KHT K h 18
theorem SID.fr {I I2 : Nat → Nat → Int32} {J : Nat → Nat → Int64} (H : SID I J) (F : ∀ c, c = 0 ∨ (13 < c ∧ c < 39) ∨ (43 < c ∧ c < 98) ∨ (110 ≤ c ∧ c ≤ 119) ∨ 133 ≤ c → I2 c = I c) (f : ∀ k, k = 16 ∨ k = 72 → I2 98 k = I 98 k) : SID I2 J := by
  obtain ⟨⟨c, fd, X⟩, ⟨a1, a2⟩, L, ⟨t1, t2, t3⟩, T, TI⟩ := H
  have f16 := f 16 (by omega)
  have f72 := f 72 (by omega)
  refine ⟨⟨c, fd, ?_⟩, ⟨by rw [F 0 (by omega), f16]; exact a1, by rw [F 27 (by omega), F 110 (by omega)]; exact a2⟩, fun i hi => by rw [F 119 (by omega)]; exact L i hi, ⟨by rw [F 36 (by omega), f72]; exact t1, by rw [F 37 (by omega), F 148 (by omega)]; exact t2, by rw [f72]; exact t3⟩, fun t ht => ?_, ?_⟩
  · unfold TX at X ⊢
    rw [f16, F 110 (by omega)]
    exact X
  · rw [F (51 + 9 * t) (by omega), F 149 (by omega), F 150 (by omega)]
    exact T t ht
  · unfold TPI TP at TI ⊢
    rw [F 149 (by omega), F 150 (by omega)]
    exact TI
theorem HO.fr2 {I I2 : Nat → Nat → Int32} {K : Nat → Nat → Option Nat} {h : List xSh} {KA : Nat → Option Nat} {R2 R3 R4 R6 : Nat → Int32} {a : Nat} (H : HO I K h KA R2 R3 R4 R6 a) (e : ∀ q, 153 ≤ q → I2 q = I q) : HO I2 K h KA R2 R3 R4 R6 a := H.fr e
theorem KEP0.fr {I I2 : Nat → Nat → Int32} {K : Nat → Nat → Option Nat} {h : List xSh} {tw : Nat} (H : KEP0 I K h tw) (f02 : I2 0 2 = I 0 2) (F : ∀ c, (14 ≤ c ∧ c ≤ 26) ∨ (111 ≤ c ∧ c ≤ 117) ∨ (133 ≤ c ∧ c ≤ 147) ∨ 153 ≤ c → I2 c = I c) (f : ∀ k, k = 33 ∨ (50 ≤ k ∧ k ≤ 56) → I2 98 k = I 98 k) : KEP0 I2 K h tw := by
  obtain ⟨h1, h3, h2⟩ := H
  refine ⟨by rw [f02, f 50 (by omega)]; exact h1, ?_, ?_⟩
  · unfold KEQ at h3 ⊢
    rw [F 14 (by omega), f 52 (by omega), f 53 (by omega), f 54 (by omega), f 55 (by omega), f 56 (by omega), f 51 (by omega)]
    rw [F 15 (by omega), F 16 (by omega), F 17 (by omega), F 19 (by omega), F 20 (by omega), F 21 (by omega), F 22 (by omega), F 23 (by omega), F 24 (by omega), F 25 (by omega), F 26 (by omega)]
    rw [F 133 (by omega), F 134 (by omega), F 135 (by omega), F 139 (by omega), F 141 (by omega), F 142 (by omega), F 143 (by omega), F 144 (by omega), F 145 (by omega), F 146 (by omega), F 147 (by omega)]
    exact h3
  rw [f 50 (by omega)]
  rcases h2 with h2 | ⟨nh, na, dd, cb, ce, sn, bn, h4, h5, h6⟩
  · exact Or.inl h2
  · refine Or.inr ⟨nh, na, dd, cb, ce, sn, bn, h4.tr (fun c hc => ?_) (fun k hk => ?_), ?_, fun a ha => ?_⟩
    · have hx : c = 99 ∨ c = 100 ∨ c = 101 ∨ c = 102 ∨ c = 103 ∨ c = 104 ∨ c = 105 ∨ c = 106 ∨ c = 107 ∨ c = 108 ∨ c = 111 ∨ c = 112 ∨ c = 113 ∨ c = 114 ∨ c = 115 ∨ c = 116 ∨ c = 117 ∨ c = 131 ∨ c = 132 := by omega
      rcases hx with rfl | rfl | rfl | rfl | rfl | rfl | rfl | rfl | rfl | rfl | rfl | rfl | rfl | rfl | rfl | rfl | rfl | rfl | rfl
      · exact F 133 (by omega)
      · exact F 134 (by omega)
      · exact F 135 (by omega)
      · exact F 136 (by omega)
      · exact F 137 (by omega)
      · exact F 138 (by omega)
      · exact F 139 (by omega)
      · exact F 140 (by omega)
      · exact F 141 (by omega)
      · exact F 142 (by omega)
      · exact F 111 (by omega)
      · exact F 112 (by omega)
      · exact F 113 (by omega)
      · exact F 114 (by omega)
      · exact F 115 (by omega)
      · exact F 116 (by omega)
      · exact F 117 (by omega)
      · exact F 146 (by omega)
      · exact F 147 (by omega)
    · rcases hk with rfl | rfl | rfl | rfl | rfl | rfl | rfl
      · exact f 52 (by omega)
      · exact f 53 (by omega)
      · exact f 54 (by omega)
      · exact f 51 (by omega)
      · exact f 33 (by omega)
      · exact f 55 (by omega)
      · exact f 56 (by omega)
    · rw [f 51 (by omega)]; exact h5
    · rw [F 136 (by omega), F 137 (by omega), F 138 (by omega), F 140 (by omega)]
      exact (h6 a ha).fr (fun q hq => F q (by omega))
theorem RTg.fr9 {R R2 : Nat → Nat → Int32} {tt m : Nat} {CL : List xCl} (h : RTg R (R 117) tt CL m) (e : ∀ c, 112 ≤ c → c ≤ 117 → R2 c = R c) : RTg R2 (R2 117) tt CL m := by
  intro i hi
  have h2 := h i hi
  unfold RClg at h2 ⊢
  rw [e 112 (by omega) (by omega), e 113 (by omega) (by omega), e 114 (by omega) (by omega), e 115 (by omega) (by omega), e 116 (by omega) (by omega), e 117 (by omega) (by omega)]
  exact h2
theorem KEPT.fr {I I2 : Nat → Nat → Int32} {K : Nat → Nat → Option Nat} {h : List xSh} {tw : Nat} (htw : tw ≤ 6) (H : KEPT I K h tw) (f02 : I2 0 2 = I 0 2) (F : ∀ c, (14 ≤ c ∧ c ≤ 26) ∨ (111 ≤ c ∧ c ≤ 117) ∨ (133 ≤ c ∧ c ≤ 147) ∨ 153 ≤ c ∨ (∃ t j, t < 6 ∧ j ≤ 6 ∧ c = 44 + 9 * t + j) → I2 c = I c) (f : ∀ k, k = 33 ∨ (50 ≤ k ∧ k ≤ 56) → I2 98 k = I 98 k) : KEPT I2 K h tw := by
  refine ⟨H.1.fr f02 (fun c hc => F c (by omega)) f, fun tt ht => ?_⟩
  obtain ⟨CL, h1, h2, h3, h4⟩ := H.2 tt ht
  exact ⟨CL, h1.fr (fun j hj => F _ (Or.inr (Or.inr (Or.inr (Or.inr ⟨tt, j, by omega, hj, rfl⟩))))), by rw [F 111 (by omega)]; exact h2, h3, h4.fr9 (fun c a b => F c (by omega))⟩
/-- a step that leaves all but the scene's own places -/
theorem INV.step {I I2 : Nat → Nat → Int32} {J : Nat → Nat → Int64} {K : Nat → Nat → Option Nat} {h : List xSh} {N : Nat} {nh na dd cb ce tw sn bn : Nat} (H : INV I J K h N) (C : CR I K h I na tw) (ht : I 98 14 = nI tw) (hk : KEPT I K h tw) (E : CE I2 I2) (F : ∀ c, c = 0 ∨ (13 < c ∧ c < 39) ∨ (43 < c ∧ c < 98) ∨ (110 ≤ c ∧ c ≤ 119) ∨ 133 ≤ c → I2 c = I c) (f : ∀ k, k = 14 ∨ k = 15 ∨ k = 16 ∨ k = 33 ∨ (50 ≤ k ∧ k ≤ 56) ∨ k = 72 → I2 98 k = I 98 k) (G : ∀ c, (102 ≤ c ∧ c ≤ 104) ∨ c = 106 → I2 c = I c) (S2 : SV I2 nh na dd cb ce sn bn) : INV I2 J K h N := by
  obtain ⟨HS, _, HD, k5, k18⟩ := H
  refine ⟨HS, ⟨nh, na, dd, cb, ce, tw, sn, bn, S2, C.fr2 E (by rw [F 0 (by omega)]) (fun c hc => F c (by rcases hc with z | ⟨t, j, z1, z2, z3⟩ | z <;> omega)) (fun c hc => ?_) (f 15 (by omega)), by rw [f 14 (by omega)]; exact ht, hk.fr C.tw6 (by rw [F 0 (by omega)]) (fun c hc => F c (by rcases hc with z | z | z | z | ⟨t, j, z1, z2, z3⟩ <;> omega)) (fun k hk => f k (by omega))⟩, HD.fr F (fun k hk => f k (by omega)), k5, k18⟩
  by_cases e : c ≤ 106
  · exact G c (by omega)
  · exact F c (by omega)
/-- a step beside the scene -/
theorem INV.side {I I2 : Nat → Nat → Int32} {J J2 : Nat → Nat → Int64} {K : Nat → Nat → Option Nat} {h : List xSh} {N : Nat} (H : INV I J K h N) (F : ∀ c, c ≠ 0 → c ≠ 98 → c ≠ 27 → c ≠ 36 → c ≠ 37 → c ≠ 110 → c ≠ 148 → c ≠ 149 → c ≠ 150 → (∀ t, t < 6 → c ≠ 51 + 9 * t) → I2 c = I c) (f0 : ∀ k, k ≠ 4 → I2 0 k = I 0 k) (f : ∀ k, k ≠ 16 → k ≠ 72 → I2 98 k = I 98 k) (D2 : SID I2 J2) : INV I2 J2 K h N := by
  obtain ⟨HS, ⟨nh, na, dd, cb, ce, tw, sn, bn, V, C, ht, hk⟩, HD, k5, k18⟩ := H
  have E := C.ce
  have f98 : ∀ k, k ≠ 16 → k ≠ 72 → I2 98 k = I 98 k := f
  have F9 : ∀ c, c ≠ 0 → c ≠ 98 → c ≠ 27 → c ≠ 36 → c ≠ 37 → c ≠ 110 → c ≠ 148 → c ≠ 149 → c ≠ 150 → (∀ t, t < 6 → c ≠ 51 + 9 * t) → I2 c = I c := F
  have lo : ∀ c, c ≠ 0 → c ≠ 27 → c ≠ 36 → c ≠ 37 → c < 44 → I2 c = I c := fun c a1 a2 a3 a4 a5 => F c a1 (by omega) a2 a3 a4 (by omega) (by omega) (by omega) (by omega) (fun t ht => by omega)
  have hi : ∀ c, 98 < c → c ≠ 110 → c ≠ 148 → c ≠ 149 → c ≠ 150 → I2 c = I c := fun c a1 a2 a3 a4 a5 => F c (by omega) (by omega) (by omega) (by omega) (by omega) a2 a3 a4 a5 (fun t ht => by omega)
  have e1 := lo 1 (by omega) (by omega) (by omega) (by omega) (by omega)
  have E2 : CE I2 I2 := ⟨by rw [e1, f98 0 (by omega) (by omega)]; exact E.heads, by rw [e1, f98 1 (by omega) (by omega)]; exact E.hats, by rw [e1, f98 2 (by omega) (by omega)]; exact E.day, by rw [e1, f98 43 (by omega) (by omega)]; exact E.seen, by rw [e1, f98 47 (by omega) (by omega)]; exact E.booked, by rw [e1, f98 15 (by omega) (by omega)]; exact E.town, by rw [lo 2 (by omega) (by omega) (by omega) (by omega) (by omega), hi 99 (by omega) (by omega) (by omega) (by omega) (by omega)]; exact E.a2, by rw [lo 3 (by omega) (by omega) (by omega) (by omega) (by omega), hi 100 (by omega) (by omega) (by omega) (by omega) (by omega)]; exact E.a3, by rw [lo 4 (by omega) (by omega) (by omega) (by omega) (by omega), hi 101 (by omega) (by omega) (by omega) (by omega) (by omega)]; exact E.a4, by rw [lo 6 (by omega) (by omega) (by omega) (by omega) (by omega), hi 105 (by omega) (by omega) (by omega) (by omega) (by omega)]; exact E.a6, by rw [lo 7 (by omega) (by omega) (by omega) (by omega) (by omega), hi 107 (by omega) (by omega) (by omega) (by omega) (by omega)]; exact E.a7, by rw [lo 8 (by omega) (by omega) (by omega) (by omega) (by omega), hi 108 (by omega) (by omega) (by omega) (by omega) (by omega)]; exact E.a8, by rw [lo 9 (by omega) (by omega) (by omega) (by omega) (by omega), hi 109 (by omega) (by omega) (by omega) (by omega) (by omega)]; exact E.a9, by rw [lo 10 (by omega) (by omega) (by omega) (by omega) (by omega), hi 128 (by omega) (by omega) (by omega) (by omega) (by omega)]; exact E.a10, by rw [lo 11 (by omega) (by omega) (by omega) (by omega) (by omega), hi 129 (by omega) (by omega) (by omega) (by omega) (by omega)]; exact E.a11, by rw [lo 12 (by omega) (by omega) (by omega) (by omega) (by omega), hi 131 (by omega) (by omega) (by omega) (by omega) (by omega)]; exact E.a12, by rw [lo 13 (by omega) (by omega) (by omega) (by omega) (by omega), hi 132 (by omega) (by omega) (by omega) (by omega) (by omega)]; exact E.a13⟩
  refine ⟨HS, ⟨nh, na, dd, cb, ce, tw, sn, bn, V.tr (fun c hc => hi c (by omega) (by omega) (by omega) (by omega) (by omega)) (fun k hk => f98 k (by omega) (by omega)), C.fr2 E2 (f0 7 (by decide)) (fun c hc => ?_) (fun c hc => hi c (by omega) (by omega) (by omega) (by omega) (by omega)) (f98 15 (by decide) (by decide)), by rw [f98 14 (by decide) (by decide)]; exact ht, hk.fr C.tw6 (f0 2 (by decide)) (fun c hc => ?_) (fun k hk => f98 k (by omega) (by omega))⟩, D2, k5, k18⟩
  · rcases hc with z | ⟨t, j, z1, z2, z3⟩ | z
    · exact lo c (by omega) (by omega) (by omega) (by omega) (by omega)
    · exact F c (by omega) (by omega) (by omega) (by omega) (by omega) (by omega) (by omega) (by omega) (by omega) (fun t2 ht2 => by omega)
    · exact hi c (by omega) (by omega) (by omega) (by omega) (by omega)
  · rcases hc with z | z | z | z | ⟨t, j, z1, z2, z3⟩
    · exact lo c (by omega) (by omega) (by omega) (by omega) (by omega)
    · exact hi c (by omega) (by omega) (by omega) (by omega) (by omega)
    · exact hi c (by omega) (by omega) (by omega) (by omega) (by omega)
    · exact hi c (by omega) (by omega) (by omega) (by omega) (by omega)
    · exact F c (by omega) (by omega) (by omega) (by omega) (by omega) (by omega) (by omega) (by omega) (by omega) (fun t2 ht2 => by omega)
