/-! the class and the reference: what ties them; towns, E, fits, deedOn -/
/-- a code as the class writes it -/
def ctN (k : Nat) : Int32 := if k = 6000 then -1 else if k = 6001 then -2 else if k = 6002 then -3 else nI ((k / 1000 * 3 + k / 100 % 10) * 100 + k % 100)
/-- a clause as the class keeps it, in the town at b -/
def CClg (I : Nat → Nat → Int32) (b i : Nat) (x : xCl) : Prop := I (b + 1) i = nI x.1 ∧ I (b + 2) i = nI x.2.1 ∧ (x.1 = 3 → I (b + 3) i = nI x.2.2.1) ∧ (x.1 < 2 → ∃ f0, f0 + x.2.2.2.length ≤ 100 ∧ I (b + 4) i = nI f0 ∧ I (b + 5) i = nI (f0 + x.2.2.2.length) ∧ ∀ j, j < x.2.2.2.length → I (b + 6) (f0 + j) = ctN (x.2.2.2.getD j 0))
def CTg (I : Nat → Nat → Int32) (b : Nat) (R : List xCl) : Prop := I b 0 = nI R.length ∧ ∀ i, i < R.length → CClg I b i (R.getD i (0, 0, 0, []))
/-- the cells of a town at b -/
def TS (K : Nat → Nat → Option Nat) (h : List xSh) (b : Nat) : Prop := (h[b]? = some (.inl 8) ∧ h[b + 1]? = some (.inr (.int, 10)) ∧ h[b + 2]? = some (.inr (.int, 10)) ∧ h[b + 3]? = some (.inr (.int, 10)) ∧ h[b + 4]? = some (.inr (.int, 10)) ∧ h[b + 5]? = some (.inr (.int, 10)) ∧ h[b + 6]? = some (.inr (.int, 100))) ∧ K b 1 = some (b + 1) ∧ K b 2 = some (b + 2) ∧ K b 3 = some (b + 3) ∧ K b 4 = some (b + 4) ∧ K b 5 = some (b + 5) ∧ K b 7 = some (b + 6)
theorem TS_29 {K : Nat → Nat → Option Nat} {h : List xSh} (S : St K h) : TS K h 29 := ⟨⟨s_29 S, s_30 S, s_31 S, s_32 S, s_33 S, s_34 S, s_35 S⟩, r_29_1 S, r_29_2 S, r_29_3 S, r_29_4 S, r_29_5 S, r_29_7 S⟩
theorem TS_44 {K : Nat → Nat → Option Nat} {h : List xSh} (S : St K h) : TS K h 44 := ⟨⟨s_44 S, s_45 S, s_46 S, s_47 S, s_48 S, s_49 S, s_50 S⟩, r_44_1 S, r_44_2 S, r_44_3 S, r_44_4 S, r_44_5 S, r_44_7 S⟩
theorem TS_53 {K : Nat → Nat → Option Nat} {h : List xSh} (S : St K h) : TS K h 53 := ⟨⟨s_53 S, s_54 S, s_55 S, s_56 S, s_57 S, s_58 S, s_59 S⟩, r_53_1 S, r_53_2 S, r_53_3 S, r_53_4 S, r_53_5 S, r_53_7 S⟩
theorem TS_62 {K : Nat → Nat → Option Nat} {h : List xSh} (S : St K h) : TS K h 62 := ⟨⟨s_62 S, s_63 S, s_64 S, s_65 S, s_66 S, s_67 S, s_68 S⟩, r_62_1 S, r_62_2 S, r_62_3 S, r_62_4 S, r_62_5 S, r_62_7 S⟩
theorem TS_71 {K : Nat → Nat → Option Nat} {h : List xSh} (S : St K h) : TS K h 71 := ⟨⟨s_71 S, s_72 S, s_73 S, s_74 S, s_75 S, s_76 S, s_77 S⟩, r_71_1 S, r_71_2 S, r_71_3 S, r_71_4 S, r_71_5 S, r_71_7 S⟩
theorem TS_80 {K : Nat → Nat → Option Nat} {h : List xSh} (S : St K h) : TS K h 80 := ⟨⟨s_80 S, s_81 S, s_82 S, s_83 S, s_84 S, s_85 S, s_86 S⟩, r_80_1 S, r_80_2 S, r_80_3 S, r_80_4 S, r_80_5 S, r_80_7 S⟩
theorem TS_89 {K : Nat → Nat → Option Nat} {h : List xSh} (S : St K h) : TS K h 89 := ⟨⟨s_89 S, s_90 S, s_91 S, s_92 S, s_93 S, s_94 S, s_95 S⟩, r_89_1 S, r_89_2 S, r_89_3 S, r_89_4 S, r_89_5 S, r_89_7 S⟩
theorem TS_t {K : Nat → Nat → Option Nat} {h : List xSh} (S : St K h) {t : Nat} (ht : t < 6) : TS K h (44 + 9 * t) ∧ K 28 t = some (44 + 9 * t) := by
  rcases (show t = 0 ∨ t = 1 ∨ t = 2 ∨ t = 3 ∨ t = 4 ∨ t = 5 by omega) with rfl | rfl | rfl | rfl | rfl | rfl
  · exact ⟨TS_44 S, r_28_0 S⟩
  · exact ⟨TS_53 S, r_28_1 S⟩
  · exact ⟨TS_62 S, r_28_2 S⟩
  · exact ⟨TS_71 S, r_28_3 S⟩
  · exact ⟨TS_80 S, r_28_4 S⟩
  · exact ⟨TS_89 S, r_28_5 S⟩
/-- the town that holds, in the class at b, in the reference at cb .. ce - 1 -/
def CUR (I : Nat → Nat → Int32) (K : Nat → Nat → Option Nat) (h : List xSh) (R : Nat → Nat → Int32) (b cb ce : Nat) : Prop := (TS K h b ∧ (b = 29 ∨ 44 ≤ b)) ∧ ∃ CL : List xCl, CTg I b CL ∧ ce = cb + CL.length ∧ CL.length ≤ 10 ∧ ∀ i, i < CL.length → RClg R (R 117) (cb + i) (CL.getD i (0, 0, 0, [])) 600
theorem CTg.up {I : Nat → Nat → Int32} {b c : Nat} {CL : List xCl} (h : CTg I b CL) (hb : b = 29 ∨ 44 ≤ b) (hc : 36 ≤ c ∧ c < 44) (g : Nat → Int32) : CTg (upc I c g) b CL := by
  have e : ∀ j, j ≤ 6 → upc I c g (b + j) = I (b + j) := fun j hj => upc_ne _ _ (by omega)
  refine ⟨?_, fun i hi => ?_⟩
  · have := e 0 (by omega); rw [Nat.add_zero] at this; rw [this]; exact h.1
  · obtain ⟨h1, h2, h3, h4⟩ := h.2 i hi
    unfold CClg
    rw [e 1 (by omega), e 2 (by omega), e 3 (by omega), e 4 (by omega), e 5 (by omega), e 6 (by omega)]
    exact ⟨h1, h2, h3, h4⟩
theorem CUR.up {I R : Nat → Nat → Int32} {K : Nat → Nat → Option Nat} {h : List xSh} {b cb ce c : Nat} (C : CUR I K h R b cb ce) (hc : 36 ≤ c ∧ c < 44) (g : Nat → Int32) : CUR (upc I c g) K h R b cb ce := by
  obtain ⟨h1, CL, h2, h3⟩ := C
  exact ⟨h1, CL, h2.up h1.2 hc g, h3⟩
/-- a hat as the class keeps it -/
def HO (I : Nat → Nat → Int32) (K : Nat → Nat → Option Nat) (h : List xSh) (KA : Nat → Option Nat) (R2 R3 R4 R6 : Nat → Int32) (a : Nat) : Prop := ∃ q k, (KA a = some q ∧ 153 ≤ q) ∧ (k < 7 ∧ R2 a = nI k ∧ h[q]? = some (.inl ((([2, 6, 10, 0, 4, 1, 7] : List Nat)).getD k 2))) ∧ I q 0 = nI k ∧ I q 1 = nI a ∧ I q 2 = R3 a ∧ I q 3 = R4 a ∧ I q 4 = R6 a ∧ K q 5 = some 36
theorem HO.up {I : Nat → Nat → Int32} {K : Nat → Nat → Option Nat} {h : List xSh} {KA : Nat → Option Nat} {R2 R3 R4 R6 : Nat → Int32} {a c : Nat} (H : HO I K h KA R2 R3 R4 R6 a) (hc : c < 153) (g : Nat → Int32) : HO (upc I c g) K h KA R2 R3 R4 R6 a := by
  obtain ⟨q, k, ⟨h1, h2⟩, h3, h4, h5, h6, h7, h8, h9⟩ := H
  have e : upc I c g q = I q := upc_ne _ _ (by omega)
  refine ⟨q, k, ⟨h1, h2⟩, h3, ?_⟩
  rw [e]
  exact ⟨h4, h5, h6, h7, h8, h9⟩
/-- what ties the class to the reference, as far as asking goes -/
def CR (I : Nat → Nat → Int32) (K : Nat → Nat → Option Nat) (h : List xSh) (R : Nat → Nat → Int32) (na tw : Nat) : Prop := (I 1 0 = R 98 0) ∧ (I 1 4 = R 98 1) ∧ (I 1 9 = R 98 2) ∧ (I 1 11 = R 98 43) ∧ (I 1 14 = R 98 47) ∧ (I 1 17 = R 98 15) ∧ (I 2 = R 99) ∧ (I 3 = R 100) ∧ (I 4 = R 101) ∧ (I 6 = R 105) ∧ (I 7 = R 107) ∧ (I 8 = R 108) ∧ (I 9 = R 109) ∧ (I 10 = R 128) ∧ (I 11 = R 129) ∧ (I 12 = R 131) ∧ (I 13 = R 132) ∧ (I 0 7 = nI tw) ∧ (tw ≤ 6) ∧ (R 98 15 = -1 ∨ ∃ tt, tt < tw ∧ R 98 15 = nI tt) ∧ (I 29 0 = nI 0) ∧ (∀ tt, tt < tw → ∃ CL : List xCl, CTg I (44 + 9 * tt) CL ∧ R 111 tt = nI CL.length ∧ CL.length ≤ 10 ∧ RTg R (R 117) tt CL 600) ∧ (∀ a, a < na → HO I K h (K 5) (R 102) (R 103) (R 104) (R 106) a)
theorem CR.heads {I : Nat → Nat → Int32} {K : Nat → Nat → Option Nat} {h : List xSh} {R : Nat → Nat → Int32} {na tw : Nat} (M : CR I K h R na tw) : I 1 0 = R 98 0 := M.1
theorem CR.hats {I : Nat → Nat → Int32} {K : Nat → Nat → Option Nat} {h : List xSh} {R : Nat → Nat → Int32} {na tw : Nat} (M : CR I K h R na tw) : I 1 4 = R 98 1 := M.2.1
theorem CR.day {I : Nat → Nat → Int32} {K : Nat → Nat → Option Nat} {h : List xSh} {R : Nat → Nat → Int32} {na tw : Nat} (M : CR I K h R na tw) : I 1 9 = R 98 2 := M.2.2.1
theorem CR.seen {I : Nat → Nat → Int32} {K : Nat → Nat → Option Nat} {h : List xSh} {R : Nat → Nat → Int32} {na tw : Nat} (M : CR I K h R na tw) : I 1 11 = R 98 43 := M.2.2.2.1
theorem CR.booked {I : Nat → Nat → Int32} {K : Nat → Nat → Option Nat} {h : List xSh} {R : Nat → Nat → Int32} {na tw : Nat} (M : CR I K h R na tw) : I 1 14 = R 98 47 := M.2.2.2.2.1
theorem CR.town {I : Nat → Nat → Int32} {K : Nat → Nat → Option Nat} {h : List xSh} {R : Nat → Nat → Int32} {na tw : Nat} (M : CR I K h R na tw) : I 1 17 = R 98 15 := M.2.2.2.2.2.1
theorem CR.a2 {I : Nat → Nat → Int32} {K : Nat → Nat → Option Nat} {h : List xSh} {R : Nat → Nat → Int32} {na tw : Nat} (M : CR I K h R na tw) : I 2 = R 99 := M.2.2.2.2.2.2.1
theorem CR.a3 {I : Nat → Nat → Int32} {K : Nat → Nat → Option Nat} {h : List xSh} {R : Nat → Nat → Int32} {na tw : Nat} (M : CR I K h R na tw) : I 3 = R 100 := M.2.2.2.2.2.2.2.1
theorem CR.a4 {I : Nat → Nat → Int32} {K : Nat → Nat → Option Nat} {h : List xSh} {R : Nat → Nat → Int32} {na tw : Nat} (M : CR I K h R na tw) : I 4 = R 101 := M.2.2.2.2.2.2.2.2.1
theorem CR.a6 {I : Nat → Nat → Int32} {K : Nat → Nat → Option Nat} {h : List xSh} {R : Nat → Nat → Int32} {na tw : Nat} (M : CR I K h R na tw) : I 6 = R 105 := M.2.2.2.2.2.2.2.2.2.1
theorem CR.a7 {I : Nat → Nat → Int32} {K : Nat → Nat → Option Nat} {h : List xSh} {R : Nat → Nat → Int32} {na tw : Nat} (M : CR I K h R na tw) : I 7 = R 107 := M.2.2.2.2.2.2.2.2.2.2.1
theorem CR.a8 {I : Nat → Nat → Int32} {K : Nat → Nat → Option Nat} {h : List xSh} {R : Nat → Nat → Int32} {na tw : Nat} (M : CR I K h R na tw) : I 8 = R 108 := M.2.2.2.2.2.2.2.2.2.2.2.1
theorem CR.a9 {I : Nat → Nat → Int32} {K : Nat → Nat → Option Nat} {h : List xSh} {R : Nat → Nat → Int32} {na tw : Nat} (M : CR I K h R na tw) : I 9 = R 109 := M.2.2.2.2.2.2.2.2.2.2.2.2.1
theorem CR.a10 {I : Nat → Nat → Int32} {K : Nat → Nat → Option Nat} {h : List xSh} {R : Nat → Nat → Int32} {na tw : Nat} (M : CR I K h R na tw) : I 10 = R 128 := M.2.2.2.2.2.2.2.2.2.2.2.2.2.1
theorem CR.a11 {I : Nat → Nat → Int32} {K : Nat → Nat → Option Nat} {h : List xSh} {R : Nat → Nat → Int32} {na tw : Nat} (M : CR I K h R na tw) : I 11 = R 129 := M.2.2.2.2.2.2.2.2.2.2.2.2.2.2.1
theorem CR.a12 {I : Nat → Nat → Int32} {K : Nat → Nat → Option Nat} {h : List xSh} {R : Nat → Nat → Int32} {na tw : Nat} (M : CR I K h R na tw) : I 12 = R 131 := M.2.2.2.2.2.2.2.2.2.2.2.2.2.2.2.1
theorem CR.a13 {I : Nat → Nat → Int32} {K : Nat → Nat → Option Nat} {h : List xSh} {R : Nat → Nat → Int32} {na tw : Nat} (M : CR I K h R na tw) : I 13 = R 132 := M.2.2.2.2.2.2.2.2.2.2.2.2.2.2.2.2.1
theorem CR.tc {I : Nat → Nat → Int32} {K : Nat → Nat → Option Nat} {h : List xSh} {R : Nat → Nat → Int32} {na tw : Nat} (M : CR I K h R na tw) : I 0 7 = nI tw := M.2.2.2.2.2.2.2.2.2.2.2.2.2.2.2.2.2.1
theorem CR.tw6 {I : Nat → Nat → Int32} {K : Nat → Nat → Option Nat} {h : List xSh} {R : Nat → Nat → Int32} {na tw : Nat} (M : CR I K h R na tw) : tw ≤ 6 := M.2.2.2.2.2.2.2.2.2.2.2.2.2.2.2.2.2.2.1
theorem CR.tg {I : Nat → Nat → Int32} {K : Nat → Nat → Option Nat} {h : List xSh} {R : Nat → Nat → Int32} {na tw : Nat} (M : CR I K h R na tw) : R 98 15 = -1 ∨ ∃ tt, tt < tw ∧ R 98 15 = nI tt := M.2.2.2.2.2.2.2.2.2.2.2.2.2.2.2.2.2.2.2.1
theorem CR.no {I : Nat → Nat → Int32} {K : Nat → Nat → Option Nat} {h : List xSh} {R : Nat → Nat → Int32} {na tw : Nat} (M : CR I K h R na tw) : I 29 0 = nI 0 := M.2.2.2.2.2.2.2.2.2.2.2.2.2.2.2.2.2.2.2.2.1
theorem CR.towns {I : Nat → Nat → Int32} {K : Nat → Nat → Option Nat} {h : List xSh} {R : Nat → Nat → Int32} {na tw : Nat} (M : CR I K h R na tw) : ∀ tt, tt < tw → ∃ CL : List xCl, CTg I (44 + 9 * tt) CL ∧ R 111 tt = nI CL.length ∧ CL.length ≤ 10 ∧ RTg R (R 117) tt CL 600 := M.2.2.2.2.2.2.2.2.2.2.2.2.2.2.2.2.2.2.2.2.2.1
theorem CR.hat {I : Nat → Nat → Int32} {K : Nat → Nat → Option Nat} {h : List xSh} {R : Nat → Nat → Int32} {na tw : Nat} (M : CR I K h R na tw) : ∀ a, a < na → HO I K h (K 5) (R 102) (R 103) (R 104) (R 106) a := M.2.2.2.2.2.2.2.2.2.2.2.2.2.2.2.2.2.2.2.2.2.2
theorem CR.up {I R : Nat → Nat → Int32} {K : Nat → Nat → Option Nat} {h : List xSh} {na tw c : Nat} (C : CR I K h R na tw) (hc : 38 < c ∧ c < 44) (g : Nat → Int32) : CR (upc I c g) K h R na tw := by
  have e : ∀ x, x < 39 → upc I c g x = I x := fun x hx => upc_ne _ _ (by omega)
  refine ⟨?_, ?_, ?_, ?_, ?_, ?_, ?_, ?_, ?_, ?_, ?_, ?_, ?_, ?_, ?_, ?_, ?_, ?_, C.tw6, C.tg, ?_, fun tt ht => ?_, fun a ha => (C.hat a ha).up (by omega) g⟩
  · rw [e 1 (by omega)]; exact C.heads
  · rw [e 1 (by omega)]; exact C.hats
  · rw [e 1 (by omega)]; exact C.day
  · rw [e 1 (by omega)]; exact C.seen
  · rw [e 1 (by omega)]; exact C.booked
  · rw [e 1 (by omega)]; exact C.town
  · rw [e 2 (by omega)]; exact C.a2
  · rw [e 3 (by omega)]; exact C.a3
  · rw [e 4 (by omega)]; exact C.a4
  · rw [e 6 (by omega)]; exact C.a6
  · rw [e 7 (by omega)]; exact C.a7
  · rw [e 8 (by omega)]; exact C.a8
  · rw [e 9 (by omega)]; exact C.a9
  · rw [e 10 (by omega)]; exact C.a10
  · rw [e 11 (by omega)]; exact C.a11
  · rw [e 12 (by omega)]; exact C.a12
  · rw [e 13 (by omega)]; exact C.a13
  · rw [e 0 (by omega)]; exact C.tc
  · rw [e 29 (by omega)]; exact C.no
  · obtain ⟨CL, h1, h2⟩ := C.towns tt ht
    exact ⟨CL, h1.up (Or.inr (by omega)) (by omega) g, h2⟩
theorem CR.cur {I R : Nat → Nat → Int32} {K : Nat → Nat → Option Nat} {h : List xSh} {na tw cb ce : Nat} (C : CR I K h R na tw) (S : St K h) (hT : TH R cb ce) : (R 98 15 = -1 ∧ CUR I K h R 29 cb ce) ∨ ∃ tt, tt < tw ∧ R 98 15 = nI tt ∧ CUR I K h R (44 + 9 * tt) cb ce := by
  have htw := C.tw6
  rcases C.tg with e | ⟨tt, h1, e⟩
  · refine Or.inl ⟨e, ⟨TS_29 S, Or.inl rfl⟩, [], ⟨C.no, fun i hi => absurd hi (Nat.not_lt_zero _)⟩, ?_, Nat.zero_le _, fun i hi => absurd hi (Nat.not_lt_zero _)⟩
    rcases hT with ⟨-, h2, h3⟩ | ⟨t2, nc, h2, h3, -⟩
    · show ce = cb + 0; omega
    · rw [e] at h3; exact absurd h3.symm (nI_neg (by omega) (by decide))
  · refine Or.inr ⟨tt, h1, e, ⟨(TS_t S (by omega)).1, Or.inr (by omega)⟩, ?_⟩
    obtain ⟨CL, k1, k2, k3, k4⟩ := C.towns tt h1
    refine ⟨CL, k1, ?_⟩
    rcases hT with ⟨h2, -⟩ | ⟨t2, nc, h2, h3, h4, h5, h6, h7⟩
    · rw [e] at h2; exact absurd h2 (opt_neg (by omega))
    · rw [e] at h3
      have e2 : tt = t2 := nI_inj (by omega) (by omega) h3
      subst e2
      rw [k2] at h4
      have e3 : CL.length = nc := nI_inj (by omega) (by omega) h4
      refine ⟨by omega, k3, fun i hi => ?_⟩
      rw [h6]
      exact k4 i hi
set_option maxRecDepth 100000 in
set_option maxHeartbeats 4000000 in
theorem C_holding {d : Nat} {I : Nat → Nat → Int32} {J : Nat → Nat → Int64} {K : Nat → Nat → Option Nat} {h : List xSh} (S : St K h) {R : Nat → Nat → Int32} {na tw cb ce : Nat} (C : CR I K h R na tw) (hT : TH R cb ce) : EvP (d + 1) 109 0 [(0, .ref (0))] [] (I, J, K, h) (QR (fun b t => CUR I K h R b cb ce ∧ t = (I, J, K, h))) := by
  have htw := C.tw6
  rcases C.cur S hT with ⟨e, hC⟩ | ⟨tt, ht, e, hC⟩
  · have e2 : I 1 17 = -1 := C.town.trans e
    have hin : inB (-1) (nI 0) (nI tw - nI 1) = false := inB_f1 (by decide)
    refine p_aload_n k109_0 rfl ?_
    refine p_getRv k109_1 (s_0 S) f_11_14_11 (r_0_0 S) ?_
    refine p_getIv k109_4 (s_1 S) f_11_187_3 e2 ?_
    refine p_iconst (v := nI 0) k109_7 (by decide) ?_
    refine p_aload_n k109_8 rfl ?_
    refine p_getIv k109_9 (s_0 S) f_11_44_11 C.tc ?_
    refine p_iconst (v := nI 1) k109_12 (by decide) ?_
    refine p_isub k109_13 ?_
    refine p_cS3i k109_14 c_11_101 rfl rfl rfl (Nat.le_of_ble_eq_true rfl) (C_within S _ _ _) (fun x1 m1 hq => ?_)
    obtain ⟨rfl, rfl⟩ := hq
    rw [hin]
    refine p_if_eqB (tgt := 35) k109_17 (by decide) (fun _ => ?_) (fun c => False.elim (by cases c))
    refine p_aload_n k109_35 rfl ?_
    refine p_getRv k109_36 (s_0 S) f_11_40_11 (r_0_6 S) ?_
    refine p_areturn k109_39 rt_109 ?_
    exact ⟨hC, rfl⟩
  · have e2 : I 1 17 = nI tt := C.town.trans e
    have hin : inB (nI tt) (nI 0) (nI tw - nI 1) = true := by rw [show nI 1 = 1 from rfl, show nI 0 = 0 from rfl, ixB_in (by omega), ixB_nI (by omega)]; exact decide_eq_true ht
    refine p_aload_n k109_0 rfl ?_
    refine p_getRv k109_1 (s_0 S) f_11_14_11 (r_0_0 S) ?_
    refine p_getIv k109_4 (s_1 S) f_11_187_3 e2 ?_
    refine p_iconst (v := nI 0) k109_7 (by decide) ?_
    refine p_aload_n k109_8 rfl ?_
    refine p_getIv k109_9 (s_0 S) f_11_44_11 C.tc ?_
    refine p_iconst (v := nI 1) k109_12 (by decide) ?_
    refine p_isub k109_13 ?_
    refine p_cS3i k109_14 c_11_101 rfl rfl rfl (Nat.le_of_ble_eq_true rfl) (C_within S _ _ _) (fun x1 m1 hq => ?_)
    obtain ⟨rfl, rfl⟩ := hq
    rw [hin]
    refine p_if_eqB (tgt := 35) k109_17 (by decide) (fun c => False.elim (by cases c)) (fun _ => ?_)
    refine p_aload_n k109_20 rfl ?_
    refine p_getRv k109_21 (s_0 S) f_11_35_11 (r_0_5 S) ?_
    refine p_aload_n k109_24 rfl ?_
    refine p_getRv k109_25 (s_0 S) f_11_14_11 (r_0_0 S) ?_
    refine p_getIv k109_28 (s_1 S) f_11_187_3 e2 ?_
    refine p_aaldNj k109_31 (s_28 S) xaty_8 (by omega) (by decide) (TS_t S (show tt < 6 by omega)).2 ?_
    refine p_goto (tgt := 39) k109_32 (by decide) ?_
    refine p_areturn k109_39 rt_109 ?_
    exact ⟨hC, rfl⟩

theorem fld_shift {α : Type} {f g : Nat → α → α} {a : Nat} : ∀ {j k : Nat} {s : α}, (∀ i, k ≤ i → i < k + j → ∀ s, f (a + i) s = g i s) → fld f j (a + k) s = fld g j k s := by
  intro j
  induction j with
  | zero => intro k s _; rfl
  | succ j ih =>
    intro k s h
    show fld f j (a + k + 1) (f (a + k) s) = fld g j (k + 1) (g k s)
    rw [h k (Nat.le_refl _) (by omega)]
    exact ih (k := k + 1) (fun i h1 h2 => h i (by omega) (by omega))
/-- the clause that is i-th of those that hold -/
theorem cl_w {I R : Nat → Nat → Int32} {b cb i : Nat} {CL : List xCl} (h1 : CTg I b CL) (h2 : ∀ i, i < CL.length → RClg R (R 117) (cb + i) (CL.getD i (0, 0, 0, [])) 600) (hi : i < CL.length) : I (b + 1) i = R 112 (cb + i) ∧ I (b + 2) i = R 113 (cb + i) ∧ (R 112 (cb + i) = nI 3 → I (b + 3) i = R 114 (cb + i)) ∧ ∃ k v, k < 4 ∧ v < 100 ∧ R 112 (cb + i) = nI k ∧ R 113 (cb + i) = nI v := by
  obtain ⟨g1, g2, g3, g4⟩ := h1.2 i hi
  obtain ⟨⟨k0, k00, k000⟩, k1, k2, k3, k4⟩ := h2 i hi
  refine ⟨g1.trans k1.symm, g2.trans k2.symm, fun e => ?_, _, _, k0, k00, k1, k2⟩
  rw [k1] at e
  have e2 := nI_inj (by omega) (by omega) e
  exact (g3 e2).trans (k3 e2).symm
set_option maxRecDepth 100000 in
set_option maxHeartbeats 4000000 in
theorem C_moth {d : Nat} {I : Nat → Nat → Int32} {J : Nat → Nat → Int64} {K : Nat → Nat → Option Nat} {h : List xSh} (S : St K h) {R : Nat → Nat → Int32} {b cb ce : Nat} (C : CUR I K h R b cb ce)  : EvP d 33 0 [(0, .ref (b))] [] (I, J, K, h) (QI (fun x t => x = mothF R cb ce ∧ t = (I, J, K, h))) := by
  obtain ⟨⟨hTS, hb⟩, CL, hCT, hce, hCL, hRC⟩ := C
  have hm : ce - cb = CL.length := by omega
  refine p_iconst (v := nI 0) k33_0 (by decide) ?_
  refine p_istore_n (ls' := [(0, _), (1, _)]) k33_1 rfl ?_
  refine p_iconst (v := nI 0) k33_2 (by decide) ?_
  refine p_istore_n (ls' := [(0, _), (1, _), (2, _)]) k33_3 rfl ?_
  have L : ∀ (j : Nat) (k : Nat) (s : Int32), k + j = CL.length → fld (fMoth (R 112) (R 113)) j (cb + k) s = mothF R cb ce → EvP d 33 4 [(0, .ref (b)), (1, .int (s)), (2, .int (nI (k)))] [] (I, J, K, h) (QI (fun x t => x = mothF R cb ce ∧ t = (I, J, K, h))) := by
    intro j
    induction j with
    | zero =>
      intro k s hk
      intro hs
      refine p_iload_n k33_4 rfl ?_
      refine p_aload_n k33_5 rfl ?_
      refine p_getIv k33_6 hTS.1.1 f_8_9_8 hCT.1 ?_
      refine p_icmp_geN (tgt := 35) k33_9 (by decide) (by omega) (by omega) (fun _ => ?_) (fun c => False.elim (by omega))
      refine p_iload_n k33_35 rfl ?_
      refine p_ireturn k33_36 rt_33 ?_
      exact ⟨hs, rfl⟩
    | succ j ih =>
      intro k s hk
      intro hs
      obtain ⟨w1, w2, w3, wk, wv, wk4, wv1, w4, w5⟩ := cl_w hCT hRC (show k < CL.length by omega)
      refine p_iload_n k33_4 rfl ?_
      refine p_aload_n k33_5 rfl ?_
      refine p_getIv k33_6 hTS.1.1 f_8_9_8 hCT.1 ?_
      refine p_icmp_geN (tgt := 35) k33_9 (by decide) (by omega) (by omega) (fun c => False.elim (by omega)) (fun _ => ?_)
      refine p_aload_n k33_12 rfl ?_
      refine p_getRv k33_13 hTS.1.1 f_8_15_8 hTS.2.1 ?_
      refine p_iload_n k33_16 rfl ?_
      refine p_ialdN k33_17 hTS.1.2.1 (by omega) (by decide) w1 ?_
      refine p_iconst (v := nI 2) k33_18 (by decide) ?_
      refine p_icmp_ne (tgt := 29) k33_19 (by decide) (fun cq19 => ?_) (fun cq19 => ?_)
      · skip
        refine p_iincN (ls1 := [(0, _), (1, _), (2, _)]) k33_29 rfl rfl ?_
        refine p_goto (tgt := 4) k33_32 (by decide) ?_
        exact ih (k + 1) _ (by omega) (by rw [← hs]; show fld (fMoth (R 112) (R 113)) j (cb + k + 1) _ = fld (fMoth (R 112) (R 113)) j (cb + k + 1) _; congr 1; unfold fMoth; first | rw [if_pos cq19] | rw [if_neg cq19])
      · skip
        refine p_aload_n k33_22 rfl ?_
        refine p_getRv k33_23 hTS.1.1 f_8_19_8 hTS.2.2.1 ?_
        refine p_iload_n k33_26 rfl ?_
        refine p_ialdN k33_27 hTS.1.2.2.1 (by omega) (by decide) w2 ?_
        refine p_istore_n (ls' := [(0, _), (1, _), (2, _)]) k33_28 rfl ?_
        refine p_iincN (ls1 := [(0, _), (1, _), (2, _)]) k33_29 rfl rfl ?_
        refine p_goto (tgt := 4) k33_32 (by decide) ?_
        exact ih (k + 1) _ (by omega) (by rw [← hs]; show fld (fMoth (R 112) (R 113)) j (cb + k + 1) _ = fld (fMoth (R 112) (R 113)) j (cb + k + 1) _; congr 1; unfold fMoth; first | rw [if_pos cq19] | rw [if_neg cq19])
  exact L CL.length 0 (nI 0) (by omega) (by rw [← hm]; rfl)

set_option maxRecDepth 100000 in
set_option maxHeartbeats 4000000 in
theorem C_work {d : Nat} {I : Nat → Nat → Int32} {J : Nat → Nat → Int64} {K : Nat → Nat → Option Nat} {h : List xSh} (S : St K h) {R : Nat → Nat → Int32} {b cb ce : Nat} (C : CUR I K h R b cb ce) (q : Int32) : EvP d 34 0 [(0, .ref (b)), (1, .int (q))] [] (I, J, K, h) (QI (fun x t => x = workF R cb ce q ∧ t = (I, J, K, h))) := by
  obtain ⟨⟨hTS, hb⟩, CL, hCT, hce, hCL, hRC⟩ := C
  have hm : ce - cb = CL.length := by omega
  refine p_bipush (v := nI 10) k34_0 (by decide) ?_
  refine p_istore_n (ls' := [(0, _), (1, _), (2, _)]) k34_2 rfl ?_
  refine p_iconst (v := nI 0) k34_3 (by decide) ?_
  refine p_istore_n (ls' := [(0, _), (1, _), (2, _), (3, _)]) k34_4 rfl ?_
  have L : ∀ (j : Nat) (k : Nat) (s : Int32), k + j = CL.length → fld (fWork (R 112) (R 113) (R 114) q) j (cb + k) s = workF R cb ce q → EvP d 34 5 [(0, .ref (b)), (1, .int (q)), (2, .int (s)), (3, .int (nI (k)))] [] (I, J, K, h) (QI (fun x t => x = workF R cb ce q ∧ t = (I, J, K, h))) := by
    intro j
    induction j with
    | zero =>
      intro k s hk
      intro hs
      refine p_iload_n k34_5 rfl ?_
      refine p_aload_n k34_6 rfl ?_
      refine p_getIv k34_7 hTS.1.1 f_8_9_8 hCT.1 ?_
      refine p_icmp_geN (tgt := 46) k34_10 (by decide) (by omega) (by omega) (fun _ => ?_) (fun c => False.elim (by omega))
      refine p_iload_n k34_46 rfl ?_
      refine p_ireturn k34_47 rt_34 ?_
      exact ⟨hs, rfl⟩
    | succ j ih =>
      intro k s hk
      intro hs
      obtain ⟨w1, w2, w3, wk, wv, wk4, wv1, w4, w5⟩ := cl_w hCT hRC (show k < CL.length by omega)
      refine p_iload_n k34_5 rfl ?_
      refine p_aload_n k34_6 rfl ?_
      refine p_getIv k34_7 hTS.1.1 f_8_9_8 hCT.1 ?_
      refine p_icmp_geN (tgt := 46) k34_10 (by decide) (by omega) (by omega) (fun c => False.elim (by omega)) (fun _ => ?_)
      refine p_aload_n k34_13 rfl ?_
      refine p_getRv k34_14 hTS.1.1 f_8_15_8 hTS.2.1 ?_
      refine p_iload_n k34_17 rfl ?_
      refine p_ialdN k34_18 hTS.1.2.1 (by omega) (by decide) w1 ?_
      refine p_iconst (v := nI 3) k34_19 (by decide) ?_
      refine p_icmp_ne (tgt := 40) k34_20 (by decide) (fun cq20 => ?_) (fun cq20 => ?_)
      · skip
        refine p_iincN (ls1 := [(0, _), (1, _), (2, _), (3, _)]) k34_40 rfl rfl ?_
        refine p_goto (tgt := 5) k34_43 (by decide) ?_
        exact ih (k + 1) _ (by omega) (by rw [← hs]; show fld (fWork (R 112) (R 113) (R 114) q) j (cb + k + 1) _ = fld (fWork (R 112) (R 113) (R 114) q) j (cb + k + 1) _; congr 1; unfold fWork; first | rw [if_pos (And.intro cq20 cq30)] | rw [if_neg (fun z => cq20 z.1)] | rw [if_neg (fun z => cq30 z.2)])
      · skip
        refine p_aload_n k34_23 rfl ?_
        refine p_getRv k34_24 hTS.1.1 f_8_19_8 hTS.2.2.1 ?_
        refine p_iload_n k34_27 rfl ?_
        refine p_ialdN k34_28 hTS.1.2.2.1 (by omega) (by decide) w2 ?_
        refine p_iload_n k34_29 rfl ?_
        refine p_icmp_ne (tgt := 40) k34_30 (by decide) (fun cq30 => ?_) (fun cq30 => ?_)
        · skip
          refine p_iincN (ls1 := [(0, _), (1, _), (2, _), (3, _)]) k34_40 rfl rfl ?_
          refine p_goto (tgt := 5) k34_43 (by decide) ?_
          exact ih (k + 1) _ (by omega) (by rw [← hs]; show fld (fWork (R 112) (R 113) (R 114) q) j (cb + k + 1) _ = fld (fWork (R 112) (R 113) (R 114) q) j (cb + k + 1) _; congr 1; unfold fWork; first | rw [if_pos (And.intro cq20 cq30)] | rw [if_neg (fun z => cq20 z.1)] | rw [if_neg (fun z => cq30 z.2)])
        · skip
          refine p_aload_n k34_33 rfl ?_
          refine p_getRv k34_34 hTS.1.1 f_8_22_8 hTS.2.2.2.1 ?_
          refine p_iload_n k34_37 rfl ?_
          refine p_ialdN k34_38 hTS.1.2.2.2.1 (by omega) (by decide) (w3 cq20) ?_
          refine p_istore_n (ls' := [(0, _), (1, _), (2, _), (3, _)]) k34_39 rfl ?_
          refine p_iincN (ls1 := [(0, _), (1, _), (2, _), (3, _)]) k34_40 rfl rfl ?_
          refine p_goto (tgt := 5) k34_43 (by decide) ?_
          exact ih (k + 1) _ (by omega) (by rw [← hs]; show fld (fWork (R 112) (R 113) (R 114) q) j (cb + k + 1) _ = fld (fWork (R 112) (R 113) (R 114) q) j (cb + k + 1) _; congr 1; unfold fWork; first | rw [if_pos (And.intro cq20 cq30)] | rw [if_neg (fun z => cq20 z.1)] | rw [if_neg (fun z => cq30 z.2)])
  exact L CL.length 0 (nI 10) (by omega) (by rw [← hm]; rfl)

/-- the letters' numbers as they were laid down -/
def FAC (I : Nat → Nat → Int32) (fac : Nat → Int32) : Prop := ∀ j, j < 6 → I 39 j = fac j
theorem cmpI {x y : Int32} : True := trivial
def cmp9 (x y : Int32) : Int32 := if y ≤ x then (if x = y then nI 0 else nI 1) else -1
theorem ct_test {k : Nat} (h : k < 6000) : ctN k = nI ((k / 1000 * 3 + k / 100 % 10) * 100 + k % 100) := by
  unfold ctN
  rw [if_neg (by omega), if_neg (by omega), if_neg (by omega)]
set_option maxRecDepth 100000 in
set_option maxHeartbeats 4000000 in
theorem C_compare {d : Nat} {I : Nat → Nat → Int32} {J : Nat → Nat → Int64} {K : Nat → Nat → Option Nat} {h : List xSh} (S : St K h) (x y : Int32) : EvP d 233 0 [(0, .int (x)), (1, .int (y))] [] (I, J, K, h) (QI (fun z t => z = cmp9 x y ∧ t = (I, J, K, h))) := by
  refine p_iload_n k233_0 rfl ?_
  refine p_iload_n k233_1 rfl ?_
  refine p_icmp_ge (tgt := 9) k233_2 (by decide) (fun cq2 => ?_) (fun cq2 => ?_)
  · skip
    refine p_iload_n k233_9 rfl ?_
    refine p_iload_n k233_10 rfl ?_
    refine p_icmp_ne (tgt := 18) k233_11 (by decide) (fun cq11 => ?_) (fun cq11 => ?_)
    · skip
      refine p_iconst (v := nI 1) k233_18 (by decide) ?_
      refine p_ireturn k233_19 rt_233 ?_
      exact ⟨by unfold cmp9; first | rw [if_pos cq2, if_pos cq11] | rw [if_pos cq2, if_neg cq11] | rw [if_neg cq2], rfl⟩
    · skip
      refine p_iconst (v := nI 0) k233_14 (by decide) ?_
      refine p_goto (tgt := 19) k233_15 (by decide) ?_
      refine p_ireturn k233_19 rt_233 ?_
      exact ⟨by unfold cmp9; first | rw [if_pos cq2, if_pos cq11] | rw [if_pos cq2, if_neg cq11] | rw [if_neg cq2], rfl⟩
  · skip
    refine p_iconst (v := (-1)) k233_5 (by decide) ?_
    refine p_goto (tgt := 19) k233_6 (by decide) ?_
    refine p_ireturn k233_19 rt_233 ?_
    exact ⟨by unfold cmp9; first | rw [if_pos cq2, if_pos cq11] | rw [if_pos cq2, if_neg cq11] | rw [if_neg cq2], rfl⟩

set_option maxRecDepth 100000 in
set_option maxHeartbeats 4000000 in
theorem C_coder {d : Nat} {I : Nat → Nat → Int32} {J : Nat → Nat → Int64} {K : Nat → Nat → Option Nat} {h : List xSh} (S : St K h) {k : Nat} (hk : k < 5) : EvP d 237 0 [(0, .ref (1000001 + k))] [] (I, J, K, h) (QI (fun z t => z = 0 ∧ t = (I, J, K, h))) := by
  refine p_getsC k237_0 rfl ?_
  refine p_if_eq (tgt := 13) k237_3 (by decide) (fun c => False.elim (by exact absurd c (by decide))) (fun _ => ?_)
  refine p_aload_n k237_6 rfl ?_
  refine p_sgetC k237_7 rfl (by omega) ?_
  refine p_goto (tgt := 14) k237_10 (by decide) ?_
  refine p_treturn k237_14 rt_237 rfl ?_
  exact ⟨rfl, rfl⟩

set_option maxRecDepth 100000 in
set_option maxHeartbeats 4000000 in
theorem C_isLatin1 {d : Nat} {I : Nat → Nat → Int32} {J : Nat → Nat → Int64} {K : Nat → Nat → Option Nat} {h : List xSh} (S : St K h) {k : Nat} (hk : k < 5) : EvP d 238 0 [(0, .ref (1000001 + k))] [] (I, J, K, h) (QI (fun z t => z = bI true ∧ t = (I, J, K, h))) := by
  refine p_getsC k238_0 rfl ?_
  refine p_if_eq (tgt := 17) k238_3 (by decide) (fun c => False.elim (by exact absurd c (by decide))) (fun _ => ?_)
  refine p_aload_n k238_6 rfl ?_
  refine p_sgetC k238_7 rfl (by omega) ?_
  refine p_if_ne (tgt := 17) k238_10 (by decide) (fun c => False.elim (by exact absurd rfl c)) (fun _ => ?_)
  refine p_iconst (v := bI true) k238_13 (by decide) ?_
  refine p_goto (tgt := 18) k238_14 (by decide) ?_
  refine p_returnB k238_18 rt_238 ?_
  exact ⟨rfl, rfl⟩

theorem shr_0 (x : Nat) (hx : x < 32) : nI x >>> ((0 : Int32) &&& 31) = nI x := by
  have H : ∀ x : Fin 32, nI x.val >>> ((0 : Int32) &&& 31) = nI x.val := by decide +kernel
  exact H ⟨x, hx⟩
theorem xs_len {k : Nat} (hk : k < 5) : (xStr k).length < 32 := by
  rcases (show k = 0 ∨ k = 1 ∨ k = 2 ∨ k = 3 ∨ k = 4 by omega) with rfl | rfl | rfl | rfl | rfl <;> decide
theorem xs_at {k j : Nat} (hk : k < 5) (hj : j < (xStr k).length) : ((((xStr k).getD j 0) &&& 255).toUInt32 % 65536).toInt32 = (xStr k).getD j 0 ∧ narrow .char (.int ((xStr k).getD j 0)) = .int ((xStr k).getD j 0) := by
  have H : ∀ k : Fin 5, ∀ j : Fin 16, j.val < (xStr k.val).length → ((((xStr k.val).getD j.val 0) &&& 255).toUInt32 % 65536).toInt32 = (xStr k.val).getD j.val 0 ∧ narrow .char (.int ((xStr k.val).getD j.val 0)) = .int ((xStr k.val).getD j.val 0) := by decide +kernel
  have h16 : (xStr k).length ≤ 16 := by
    rcases (show k = 0 ∨ k = 1 ∨ k = 2 ∨ k = 3 ∨ k = 4 by omega) with rfl | rfl | rfl | rfl | rfl <;> decide
  exact H ⟨k, hk⟩ ⟨j, by omega⟩ hj
set_option maxRecDepth 100000 in
set_option maxHeartbeats 4000000 in
theorem C_length {d : Nat} {I : Nat → Nat → Int32} {J : Nat → Nat → Int64} {K : Nat → Nat → Option Nat} {h : List xSh} (S : St K h) {k : Nat} (hk : k < 5) : EvP (d + 1) 235 0 [(0, .ref (1000001 + k))] [] (I, J, K, h) (QI (fun z t => z = nI (xStr k).length ∧ t = (I, J, K, h))) := by
  refine p_aload_n k235_0 rfl ?_
  refine p_sgetV k235_1 rfl (by omega) ?_
  refine p_sblen k235_4 (by omega) ?_
  refine p_aload_n k235_5 rfl ?_
  refine p_cT0i k235_6 (by omega) c_16_335 (Nat.le_of_ble_eq_true rfl) (C_coder S hk) (fun x1 m1 hq => ?_)
  obtain ⟨rfl, rfl⟩ := hq
  refine p_ishr k235_9 ?_
  refine p_ireturn k235_10 rt_235 ?_
  exact ⟨shr_0 _ (xs_len hk), rfl⟩

set_option maxRecDepth 100000 in
set_option maxHeartbeats 4000000 in
theorem C_ck243n {d : Nat} {I : Nat → Nat → Int32} {J : Nat → Nat → Int64} {K : Nat → Nat → Option Nat} {h : List xSh} (S : St K h) {j n : Nat} (hj : j < n) (hn : n < 1000) : EvP d 243 0 [(0, .int (nI (j))), (1, .int (nI (n))), (2, .null)] [] (I, J, K, h) (QI (fun z t => z = nI j ∧ t = (I, J, K, h))) := by
  refine p_iload_n k243_0 rfl ?_
  refine p_if_ltN (tgt := 9) k243_1 (by decide) (by omega) ?_
  refine p_iload_n k243_4 rfl ?_
  refine p_iload_n k243_5 rfl ?_
  refine p_icmp_ltN (tgt := 16) k243_6 (by decide) (by omega) (by omega) (fun _ => ?_) (fun c => False.elim (by omega))
  refine p_iload_n k243_16 rfl ?_
  refine p_ireturn k243_17 rt_243 ?_
  exact ⟨rfl, rfl⟩

set_option maxRecDepth 100000 in
set_option maxHeartbeats 4000000 in
theorem C_ck243r {d : Nat} {I : Nat → Nat → Int32} {J : Nat → Nat → Int64} {K : Nat → Nat → Option Nat} {h : List xSh} (S : St K h) {j n : Nat} (hj : j < n) (hn : n < 1000) : EvP d 243 0 [(0, .int (nI (j))), (1, .int (nI (n))), (2, .ref (1000011))] [] (I, J, K, h) (QI (fun z t => z = nI j ∧ t = (I, J, K, h))) := by
  refine p_iload_n k243_0 rfl ?_
  refine p_if_ltN (tgt := 9) k243_1 (by decide) (by omega) ?_
  refine p_iload_n k243_4 rfl ?_
  refine p_iload_n k243_5 rfl ?_
  refine p_icmp_ltN (tgt := 16) k243_6 (by decide) (by omega) (by omega) (fun _ => ?_) (fun c => False.elim (by omega))
  refine p_iload_n k243_16 rfl ?_
  refine p_ireturn k243_17 rt_243 ?_
  exact ⟨rfl, rfl⟩

set_option maxRecDepth 100000 in
set_option maxHeartbeats 4000000 in
theorem C_ck239 {d : Nat} {I : Nat → Nat → Int32} {J : Nat → Nat → Int64} {K : Nat → Nat → Option Nat} {h : List xSh} (S : St K h) {j n : Nat} (hj : j < n) (hn : n < 1000) : EvP (d + 1) 239 0 [(0, .int (nI (j))), (1, .int (nI (n)))] [] (I, J, K, h) (QV (fun t => t = (I, J, K, h))) := by
  have kn : EvP (d + 1) 239 5 [(0, .int (nI j)), (1, .int (nI n))] [.null, .int (nI n), .int (nI j)] (I, J, K, h) (QV (fun t => t = (I, J, K, h))) := by
    refine p_cS3i k239_5 c_16_1059 rfl rfl rfl (Nat.le_of_ble_eq_true rfl) (C_ck243n S hj hn) (fun x1 m1 hq => ?_)
    obtain ⟨rfl, rfl⟩ := hq
    refine p_pop k239_8 rfl ?_
    refine p_return k239_9 rt_239 ?_
    exact rfl
  have kr : EvP (d + 1) 239 5 [(0, .int (nI j)), (1, .int (nI n))] [.ref (1000011), .int (nI n), .int (nI j)] (I, J, K, h) (QV (fun t => t = (I, J, K, h))) := by
    refine p_cS3i k239_5 c_16_1059 rfl rfl rfl (Nat.le_of_ble_eq_true rfl) (C_ck243r S hj hn) (fun x1 m1 hq => ?_)
    obtain ⟨rfl, rfl⟩ := hq
    refine p_pop k239_8 rfl ?_
    refine p_return k239_9 rt_239 ?_
    exact rfl
  obtain ⟨r0, t0, e0, rfl, rfl⟩ := kn
  obtain ⟨r1, t1, e1, rfl, rfl⟩ := kr
  exact p_iload_n k239_0 rfl (p_iload_n k239_1 rfl (p_getsF k239_2 rfl e0 e1 ⟨rfl, rfl⟩))

set_option maxRecDepth 100000 in
set_option maxHeartbeats 4000000 in
theorem C_lcharAt {d : Nat} {I : Nat → Nat → Int32} {J : Nat → Nat → Int64} {K : Nat → Nat → Option Nat} {h : List xSh} (S : St K h) {k j : Nat} (hk : k < 5) (hj : j < (xStr k).length) : EvP (d + 2) 240 0 [(0, .ref (1000021 + k)), (1, .int (nI (j)))] [] (I, J, K, h) (QI (fun z t => z = (xStr k).getD j 0 ∧ t = (I, J, K, h))) := by
  refine p_iload_n k240_0 rfl ?_
  refine p_aload_n k240_1 rfl ?_
  refine p_sblen k240_2 (by omega) ?_
  refine p_cS2v k240_3 c_17_9 rfl rfl (Nat.le_of_ble_eq_true rfl) (C_ck239 S hj (by have := xs_len hk; omega)) (fun m1 hq => ?_)
  obtain rfl := hq
  refine p_aload_n k240_6 rfl ?_
  refine p_iload_n k240_7 rfl ?_
  refine p_sbald k240_8 (by omega) (by first | omega | assumption) ?_
  refine p_sipush (v := nI 255) k240_9 (by decide) ?_
  refine p_iand k240_12 ?_
  refine p_i2c k240_13 ?_
  refine p_toI (z := ((xStr k).getD j 0)) (xs_at hk hj).1 ?_
  refine p_treturn k240_14 rt_240 (xs_at hk hj).2 ?_
  exact ⟨rfl, rfl⟩

set_option maxRecDepth 100000 in
set_option maxHeartbeats 4000000 in
theorem C_charAt {d : Nat} {I : Nat → Nat → Int32} {J : Nat → Nat → Int64} {K : Nat → Nat → Option Nat} {h : List xSh} (S : St K h) {k j : Nat} (hk : k < 5) (hj : j < (xStr k).length) : EvP (d + 3) 236 0 [(0, .ref (1000001 + k)), (1, .int (nI (j)))] [] (I, J, K, h) (QI (fun z t => z = (xStr k).getD j 0 ∧ t = (I, J, K, h))) := by
  refine p_aload_n k236_0 rfl ?_
  refine p_cT0i k236_1 (by omega) c_16_492 (Nat.le_of_ble_eq_true rfl) (C_isLatin1 S hk) (fun x1 m1 hq => ?_)
  obtain ⟨rfl, rfl⟩ := hq
  refine p_if_eqB (tgt := 16) k236_4 (by decide) (fun c => False.elim (by cases c)) (fun _ => ?_)
  refine p_aload_n k236_7 rfl ?_
  refine p_sgetV k236_8 rfl (by omega) ?_
  refine p_iload_n k236_11 rfl ?_
  refine p_cS2i k236_12 c_16_495 rfl rfl (Nat.le_of_ble_eq_true rfl) (C_lcharAt S hk hj) (fun x1 m1 hq => ?_)
  obtain ⟨rfl, rfl⟩ := hq
  refine p_treturn k236_15 rt_236 (xs_at hk hj).2 ?_
  exact ⟨rfl, rfl⟩

