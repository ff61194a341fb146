/-! the class: total, isEnough, today, enough, gusted, lucky, on, lasts, odds -/
/-- what else holds of the reference between calls -/
def AR (R : Nat → Nat → Int32) (nh na dd : Nat) : Prop := (∀ k l a, k < nh → l < nh → a < na → R 101 k = nI a → R 101 l = nI a → k = l) ∧ (∀ a, a < na → ∃ u, u ≤ 9999 ∧ R 107 a = nI u) ∧ (∀ a, a < na → ∃ x, x ≤ 9 ∧ R 104 a = nI x) ∧ (∀ k, k < nh → ∃ y, y ≤ 9 ∧ R 99 k = nI y) ∧ (∀ a, a < na → ∃ v, v ≤ 9 ∧ R 103 a = nI v) ∧ (∀ a, a < na → ∃ s, s ≤ 50 ∧ R 105 a = nI s) ∧ (∀ a, a < na → ∃ t, t < 5 ∧ R 106 a = nI t) ∧ (∀ a p, a < na → p < 4 → ∃ r, r ≤ 9 ∧ R 108 (4 * a + p) = nI r) ∧ (∀ k, k < nh → R 100 k = -1 ∨ ∃ a, a < na ∧ R 100 k = nI a) ∧ (dd ≤ 9999) ∧ (R 98 33 = nI 9999)
theorem AR.dist {R : Nat → Nat → Int32} {nh na dd : Nat} (M : AR R nh na dd) : ∀ k l a, k < nh → l < nh → a < na → R 101 k = nI a → R 101 l = nI a → k = l := M.1
theorem AR.used {R : Nat → Nat → Int32} {nh na dd : Nat} (M : AR R nh na dd) : ∀ a, a < na → ∃ u, u ≤ 9999 ∧ R 107 a = nI u := M.2.1
theorem AR.hsz {R : Nat → Nat → Int32} {nh na dd : Nat} (M : AR R nh na dd) : ∀ a, a < na → ∃ x, x ≤ 9 ∧ R 104 a = nI x := M.2.2.1
theorem AR.fsz {R : Nat → Nat → Int32} {nh na dd : Nat} (M : AR R nh na dd) : ∀ k, k < nh → ∃ y, y ≤ 9 ∧ R 99 k = nI y := M.2.2.2.1
theorem AR.vv {R : Nat → Nat → Int32} {nh na dd : Nat} (M : AR R nh na dd) : ∀ a, a < na → ∃ v, v ≤ 9 ∧ R 103 a = nI v := M.2.2.2.2.1
theorem AR.sk {R : Nat → Nat → Int32} {nh na dd : Nat} (M : AR R nh na dd) : ∀ a, a < na → ∃ s, s ≤ 50 ∧ R 105 a = nI s := M.2.2.2.2.2.1
theorem AR.tr {R : Nat → Nat → Int32} {nh na dd : Nat} (M : AR R nh na dd) : ∀ a, a < na → ∃ t, t < 5 ∧ R 106 a = nI t := M.2.2.2.2.2.2.1
theorem AR.ro {R : Nat → Nat → Int32} {nh na dd : Nat} (M : AR R nh na dd) : ∀ a p, a < na → p < 4 → ∃ r, r ≤ 9 ∧ R 108 (4 * a + p) = nI r := M.2.2.2.2.2.2.2.1
theorem AR.own {R : Nat → Nat → Int32} {nh na dd : Nat} (M : AR R nh na dd) : ∀ k, k < nh → R 100 k = -1 ∨ ∃ a, a < na ∧ R 100 k = nI a := M.2.2.2.2.2.2.2.2.1
theorem AR.dd9 {R : Nat → Nat → Int32} {nh na dd : Nat} (M : AR R nh na dd) : dd ≤ 9999 := M.2.2.2.2.2.2.2.2.2.1
theorem AR.mu {R : Nat → Nat → Int32} {nh na dd : Nat} (M : AR R nh na dd) : R 98 33 = nI 9999 := M.2.2.2.2.2.2.2.2.2.2
/-- ah days ahead of R0 it is as R says -/
def AHD (R0 R : Nat → Nat → Int32) (nh na dd ah : Nat) : Prop := (∀ c, 99 ≤ c → c < 119 → c ≠ 107 → R c = R0 c) ∧ R 98 2 = nI (dd + ah) ∧ dd + ah < 20000 ∧ ∀ a k, a < na → k < nh → R0 101 k = nI a → ∃ u, R0 107 a = nI u ∧ R 107 a = nI (u + ah) ∧ u + ah < 20000
theorem AHD.zero {R : Nat → Nat → Int32} {nh na dd cb ce : Nat} (M : MI R nh na dd cb ce) (Q : AR R nh na dd) : AHD R R nh na dd 0 := ⟨fun _ _ _ _ => rfl, M.dd, by have := Q.dd9; omega, fun a k ha hk e => by
  obtain ⟨u, h1, h2⟩ := Q.used a ha
  exact ⟨u, h2, h2, by omega⟩⟩
def fTc (R : Nat → Nat → Int32) (cb ce nh gg : Nat) (q : Int32) (k : Nat) (s : Int32) : Int32 := s + (if R 101 k < 0 then nI 0 else if q = -1 ∨ R 106 (R 101 k).toNatClampNeg = q then deedM R cb ce (R 101 k).toNatClampNeg ((k + gg) % nh) else nI 0)
/-- the class's sum -/
def totC (R : Nat → Nat → Int32) (cb ce nh gg : Nat) (q : Int32) : Int32 := fld (fTc R cb ce nh gg q) nh 0 (nI 0)
set_option maxRecDepth 100000 in
set_option maxHeartbeats 4000000 in
theorem C_total {d : Nat} {I : Nat → Nat → Int32} {J : Nat → Nat → Int64} {K : Nat → Nat → Option Nat} {h : List xSh} (S : St K h) {R0 : Nat → Nat → Int32} {nh na dd cb ce tw : Nat} (C : CR I K h R0 na tw) (M : MI R0 nh na dd cb ce) (Q : AR R0 nh na dd) (g : Nat → Int32) {R : Nat → Nat → Int32} {ah gg : Nat} (hA : AHD R0 R nh na dd ah) (hgg : gg < 6) (q : Int32) : EvP (d + 6) 111 0 [(0, .ref (0)), (1, .int (q)), (2, .int (nI (gg))), (3, .int (nI (ah)))] [] (upc I 39 g, J, K, h) (QI (fun x t => x = totC R cb ce nh gg q ∧ ∃ g, t = (upc I 39 g, J, K, h))) := by
  have hnh6 := M.nh6
  have hna6 := M.na6
  have hR101 : R 101 = R0 101 := hA.1 101 (by decide) (by decide) (by decide)
  refine p_iconst (v := nI 0) k111_0 (by decide) ?_
  refine p_istore (ls' := [(0, _), (1, _), (2, _), (3, _), (4, _)]) k111_1 rfl ?_
  refine p_iconst (v := nI 0) k111_3 (by decide) ?_
  refine p_istore (ls' := [(0, _), (1, _), (2, _), (3, _), (4, _), (5, _)]) k111_4 rfl ?_
  have L : ∀ (j : Nat) (k : Nat) (s : Int32) (g : Nat → Int32), k + j = nh → fld (fTc R cb ce nh gg q) j k s = totC R cb ce nh gg q → EvP (d + 6) 111 6 [(0, .ref (0)), (1, .int (q)), (2, .int (nI (gg))), (3, .int (nI (ah))), (4, .int (s)), (5, .int (nI (k)))] [] (upc I 39 g, J, K, h) (QI (fun x t => x = totC R cb ce nh gg q ∧ ∃ g, t = (upc I 39 g, J, K, h))) := by
    intro j
    induction j with
    | zero =>
      intro k s g hk
      intro hs
      refine p_iload k111_6 rfl ?_
      refine p_aload_n k111_8 rfl ?_
      refine p_getRv k111_9 (s_0 S) f_11_14_11 (r_0_0 S) ?_
      refine p_getIv k111_12 (s_1 S) f_11_89_3 (show _ = nI nh from C.heads.trans M.nh) ?_
      refine p_icmp_geN (tgt := 94) k111_15 (by decide) (by omega) (by omega) (fun _ => ?_) (fun c => False.elim (by omega))
      refine p_iload k111_94 rfl ?_
      refine p_ireturn k111_96 rt_111 ?_
      exact ⟨hs, g, rfl⟩
    | succ j ih =>
      intro k s g hk
      intro hs
      rcases M.worn k (by omega) with hkw | ⟨a, ha, hka⟩
      · skip
        have hw0 : R 101 k < 0 := by rw [hR101, hkw]; decide
        have hx0 : ixB (-1) na = false := by unfold ixB; exact decide_eq_false (by show ¬ ((0 : Int) ≤ -1 ∧ _); omega)
        refine p_iload k111_6 rfl ?_
        refine p_aload_n k111_8 rfl ?_
        refine p_getRv k111_9 (s_0 S) f_11_14_11 (r_0_0 S) ?_
        refine p_getIv k111_12 (s_1 S) f_11_89_3 (show _ = nI nh from C.heads.trans M.nh) ?_
        refine p_icmp_geN (tgt := 94) k111_15 (by decide) (by omega) (by omega) (fun c => False.elim (by omega)) (fun _ => ?_)
        refine p_aload_n k111_18 rfl ?_
        refine p_getRv k111_19 (s_0 S) f_11_14_11 (r_0_0 S) ?_
        refine p_getRv k111_22 (s_1 S) f_11_98_3 (r_1_3 S) ?_
        refine p_iload k111_25 rfl ?_
        refine p_ialdN k111_27 (s_4 S) (by omega) (by decide) (show _ = -1 from (congrFun C.a4 k).trans hkw) ?_
        refine p_istore (ls' := [(0, _), (1, _), (2, _), (3, _), (4, _), (5, _), (6, _)]) k111_28 rfl ?_
        refine p_aload_n k111_30 rfl ?_
        refine p_getRv k111_31 (s_0 S) f_11_14_11 (r_0_0 S) ?_
        refine p_iload k111_34 rfl ?_
        refine p_cV1i k111_36 (s_1 S) c_11_151_3 rfl (Nat.le_of_ble_eq_true rfl) (C_isHat S (n := na) (show upc I 39 g 1 4 = nI na from C.hats.trans M.na) hna6 (-1)) (fun x1 m1 hq => ?_)
        obtain ⟨rfl, rfl⟩ := hq
        rw [hx0]
        refine p_if_eqB (tgt := 88) k111_39 (by decide) (fun _ => ?_) (fun c => False.elim (by cases c))
        refine p_iincN (ls1 := [(0, _), (1, _), (2, _), (3, _), (4, _), (5, _), (6, _)]) k111_88 rfl rfl ?_
        refine p_goto (tgt := 6) k111_91 (by decide) ?_
        refine p_drop [0, 1, 2, 3, 4, 5] rfl ?_
        exact ih (k + 1) _ _ (by omega) (by rw [← hs]; show fld (fTc R cb ce nh gg q) j (k + 1) _ = fld (fTc R cb ce nh gg q) j (k + 1) _; congr 1; unfold fTc; rw [if_pos hw0]; exact (Int32.add_zero _).symm)
      · skip
        have hcl : (R 101 k).toNatClampNeg = a := by rw [hR101, hka, nI_clamp (by omega)]
        have hw0 : ¬ R 101 k < 0 := by rw [hR101, hka]; exact opt_neg (by omega)
        have hx1 : ixB (nI a) na = true := by rw [ixB_nI (by omega)]; exact decide_eq_true ha
        obtain ⟨qq, kk, ⟨hKq, hq153⟩, ⟨hk7, hkR, hqs⟩, e0, e1, e2, e3, e4, e5⟩ := C.hat a ha
        obtain ⟨xx, hx9, hxx⟩ := Q.hsz a ha
        obtain ⟨u, hu0, hu1, hu2⟩ := hA.2.2.2 a k ha (by omega) hka
        have hmn := Nat.mod_lt (k + gg) (show 0 < nh by omega)
        obtain ⟨yy, hy9, hyy⟩ := Q.fsz ((k + gg) % nh) hmn
        have ht6 : R 106 a = R0 106 a := by rw [hA.1 106 (by decide) (by decide) (by decide)]
        obtain ⟨ci, hci⟩ : ∃ ci, ci = ([2, 6, 10, 0, 4, 1, 7] : List Nat).getD kk 2 := ⟨_, rfl⟩
        rw [← hci] at hqs
        refine p_iload k111_6 rfl ?_
        refine p_aload_n k111_8 rfl ?_
        refine p_getRv k111_9 (s_0 S) f_11_14_11 (r_0_0 S) ?_
        refine p_getIv k111_12 (s_1 S) f_11_89_3 (show _ = nI nh from C.heads.trans M.nh) ?_
        refine p_icmp_geN (tgt := 94) k111_15 (by decide) (by omega) (by omega) (fun c => False.elim (by omega)) (fun _ => ?_)
        refine p_aload_n k111_18 rfl ?_
        refine p_getRv k111_19 (s_0 S) f_11_14_11 (r_0_0 S) ?_
        refine p_getRv k111_22 (s_1 S) f_11_98_3 (r_1_3 S) ?_
        refine p_iload k111_25 rfl ?_
        refine p_ialdN k111_27 (s_4 S) (by omega) (by decide) (show _ = nI a from (congrFun C.a4 k).trans hka) ?_
        refine p_istore (ls' := [(0, _), (1, _), (2, _), (3, _), (4, _), (5, _), (6, _)]) k111_28 rfl ?_
        refine p_aload_n k111_30 rfl ?_
        refine p_getRv k111_31 (s_0 S) f_11_14_11 (r_0_0 S) ?_
        refine p_iload k111_34 rfl ?_
        refine p_cV1i k111_36 (s_1 S) c_11_151_3 rfl (Nat.le_of_ble_eq_true rfl) (C_isHat S (n := na) (show upc I 39 g 1 4 = nI na from C.hats.trans M.na) hna6 (nI a)) (fun x1 m1 hq => ?_)
        obtain ⟨rfl, rfl⟩ := hq
        rw [hx1]
        refine p_if_eqB (tgt := 88) k111_39 (by decide) (fun c => False.elim (by cases c)) (fun _ => ?_)
        refine p_iload_n k111_42 rfl ?_
        refine p_iconst (v := (-1)) k111_43 (by decide) ?_
        refine p_icmp_eq (tgt := 64) k111_44 (by decide) (fun cq44 => ?_) (fun cq44 => ?_)
        · skip
          refine p_iload k111_64 rfl ?_
          refine p_aload_n k111_66 rfl ?_
          refine p_iload k111_67 rfl ?_
          refine p_iload k111_69 rfl ?_
          refine p_iload_n k111_71 rfl ?_
          refine p_iaddN k111_72 ?_
          refine p_aload_n k111_73 rfl ?_
          refine p_getRv k111_74 (s_0 S) f_11_14_11 (r_0_0 S) ?_
          refine p_getIv k111_77 (s_1 S) f_11_89_3 (show _ = nI nh from C.heads.trans M.nh) ?_
          refine p_iremN (by omega) (by omega) (by omega) k111_80 ?_
          refine p_iload_n k111_81 rfl ?_
          refine p_cV3i k111_82 (s_0 S) c_11_176_11 rfl rfl rfl (Nat.le_of_ble_eq_true rfl) (C_deedOn S C M g hA.1 (a := a) (hh := (k + gg) % nh) (ah := ah) (u := u) ha hmn hu0 hu1 hA.2.1 hu2 hA.2.2.1 hxx hx9 hyy hy9) (fun x1 m1 hq => ?_)
          obtain ⟨rfl, g, rfl⟩ := hq
          refine p_iadd k111_85 ?_
          refine p_istore (ls' := [(0, _), (1, _), (2, _), (3, _), (4, _), (5, _), (6, _)]) k111_86 rfl ?_
          refine p_iincN (ls1 := [(0, _), (1, _), (2, _), (3, _), (4, _), (5, _), (6, _)]) k111_88 rfl rfl ?_
          refine p_goto (tgt := 6) k111_91 (by decide) ?_
          refine p_drop [0, 1, 2, 3, 4, 5] rfl ?_
          exact ih (k + 1) _ _ (by omega) (by rw [← hs]; show fld (fTc R cb ce nh gg q) j (k + 1) _ = fld (fTc R cb ce nh gg q) j (k + 1) _; congr 1; unfold fTc; first | (rw [if_neg hw0, hcl, if_pos (Or.inl cq44)]; done) | (rw [if_neg hw0, hcl, if_pos (Or.inr (ht6.trans cq61))]; done) | (rw [if_neg hw0, hcl, if_neg (fun z => z.elim cq44 (fun z => cq61 (ht6.symm.trans z)))]; exact (Int32.add_zero _).symm))
        · skip
          refine p_aload_n k111_47 rfl ?_
          refine p_getRv k111_48 (s_0 S) f_11_14_11 (r_0_0 S) ?_
          refine p_getRv k111_51 (s_1 S) f_11_111_3 (r_1_5 S) ?_
          refine p_iload k111_54 rfl ?_
          refine p_aaldNj k111_56 (s_5 S) xaty_2 (by omega) (by decide) (show K 5 a = some qq from hKq) ?_
          rcases (show kk = 0 ∨ kk = 1 ∨ kk = 2 ∨ kk = 3 ∨ kk = 4 ∨ kk = 5 ∨ kk = 6 by omega) with rfl | rfl | rfl | rfl | rfl | rfl | rfl
          · skip
            replace hqs : h[qq]? = some (.inl 2) := by rw [hqs, hci]; rfl
            refine p_getIv k111_57 hqs f_11_163_2 (show _ = R0 106 a from (congrFun (M39 I _ hq153) 4).trans e4) ?_
            refine p_iload_n k111_60 rfl ?_
            refine p_icmp_ne (tgt := 88) k111_61 (by decide) (fun cq61 => ?_) (fun cq61 => ?_)
            · skip
              refine p_iincN (ls1 := [(0, _), (1, _), (2, _), (3, _), (4, _), (5, _), (6, _)]) k111_88 rfl rfl ?_
              refine p_goto (tgt := 6) k111_91 (by decide) ?_
              refine p_drop [0, 1, 2, 3, 4, 5] rfl ?_
              exact ih (k + 1) _ _ (by omega) (by rw [← hs]; show fld (fTc R cb ce nh gg q) j (k + 1) _ = fld (fTc R cb ce nh gg q) j (k + 1) _; congr 1; unfold fTc; first | (rw [if_neg hw0, hcl, if_pos (Or.inl cq44)]; done) | (rw [if_neg hw0, hcl, if_pos (Or.inr (ht6.trans cq61))]; done) | (rw [if_neg hw0, hcl, if_neg (fun z => z.elim cq44 (fun z => cq61 (ht6.symm.trans z)))]; exact (Int32.add_zero _).symm))
            · skip
              refine p_iload k111_64 rfl ?_
              refine p_aload_n k111_66 rfl ?_
              refine p_iload k111_67 rfl ?_
              refine p_iload k111_69 rfl ?_
              refine p_iload_n k111_71 rfl ?_
              refine p_iaddN k111_72 ?_
              refine p_aload_n k111_73 rfl ?_
              refine p_getRv k111_74 (s_0 S) f_11_14_11 (r_0_0 S) ?_
              refine p_getIv k111_77 (s_1 S) f_11_89_3 (show _ = nI nh from C.heads.trans M.nh) ?_
              refine p_iremN (by omega) (by omega) (by omega) k111_80 ?_
              refine p_iload_n k111_81 rfl ?_
              refine p_cV3i k111_82 (s_0 S) c_11_176_11 rfl rfl rfl (Nat.le_of_ble_eq_true rfl) (C_deedOn S C M g hA.1 (a := a) (hh := (k + gg) % nh) (ah := ah) (u := u) ha hmn hu0 hu1 hA.2.1 hu2 hA.2.2.1 hxx hx9 hyy hy9) (fun x1 m1 hq => ?_)
              obtain ⟨rfl, g, rfl⟩ := hq
              refine p_iadd k111_85 ?_
              refine p_istore (ls' := [(0, _), (1, _), (2, _), (3, _), (4, _), (5, _), (6, _)]) k111_86 rfl ?_
              refine p_iincN (ls1 := [(0, _), (1, _), (2, _), (3, _), (4, _), (5, _), (6, _)]) k111_88 rfl rfl ?_
              refine p_goto (tgt := 6) k111_91 (by decide) ?_
              refine p_drop [0, 1, 2, 3, 4, 5] rfl ?_
              exact ih (k + 1) _ _ (by omega) (by rw [← hs]; show fld (fTc R cb ce nh gg q) j (k + 1) _ = fld (fTc R cb ce nh gg q) j (k + 1) _; congr 1; unfold fTc; first | (rw [if_neg hw0, hcl, if_pos (Or.inl cq44)]; done) | (rw [if_neg hw0, hcl, if_pos (Or.inr (ht6.trans cq61))]; done) | (rw [if_neg hw0, hcl, if_neg (fun z => z.elim cq44 (fun z => cq61 (ht6.symm.trans z)))]; exact (Int32.add_zero _).symm))
          · skip
            replace hqs : h[qq]? = some (.inl 6) := by rw [hqs, hci]; rfl
            refine p_getIv k111_57 hqs f_11_163_6 (show _ = R0 106 a from (congrFun (M39 I _ hq153) 4).trans e4) ?_
            refine p_iload_n k111_60 rfl ?_
            refine p_icmp_ne (tgt := 88) k111_61 (by decide) (fun cq61 => ?_) (fun cq61 => ?_)
            · skip
              refine p_iincN (ls1 := [(0, _), (1, _), (2, _), (3, _), (4, _), (5, _), (6, _)]) k111_88 rfl rfl ?_
              refine p_goto (tgt := 6) k111_91 (by decide) ?_
              refine p_drop [0, 1, 2, 3, 4, 5] rfl ?_
              exact ih (k + 1) _ _ (by omega) (by rw [← hs]; show fld (fTc R cb ce nh gg q) j (k + 1) _ = fld (fTc R cb ce nh gg q) j (k + 1) _; congr 1; unfold fTc; first | (rw [if_neg hw0, hcl, if_pos (Or.inl cq44)]; done) | (rw [if_neg hw0, hcl, if_pos (Or.inr (ht6.trans cq61))]; done) | (rw [if_neg hw0, hcl, if_neg (fun z => z.elim cq44 (fun z => cq61 (ht6.symm.trans z)))]; exact (Int32.add_zero _).symm))
            · skip
              refine p_iload k111_64 rfl ?_
              refine p_aload_n k111_66 rfl ?_
              refine p_iload k111_67 rfl ?_
              refine p_iload k111_69 rfl ?_
              refine p_iload_n k111_71 rfl ?_
              refine p_iaddN k111_72 ?_
              refine p_aload_n k111_73 rfl ?_
              refine p_getRv k111_74 (s_0 S) f_11_14_11 (r_0_0 S) ?_
              refine p_getIv k111_77 (s_1 S) f_11_89_3 (show _ = nI nh from C.heads.trans M.nh) ?_
              refine p_iremN (by omega) (by omega) (by omega) k111_80 ?_
              refine p_iload_n k111_81 rfl ?_
              refine p_cV3i k111_82 (s_0 S) c_11_176_11 rfl rfl rfl (Nat.le_of_ble_eq_true rfl) (C_deedOn S C M g hA.1 (a := a) (hh := (k + gg) % nh) (ah := ah) (u := u) ha hmn hu0 hu1 hA.2.1 hu2 hA.2.2.1 hxx hx9 hyy hy9) (fun x1 m1 hq => ?_)
              obtain ⟨rfl, g, rfl⟩ := hq
              refine p_iadd k111_85 ?_
              refine p_istore (ls' := [(0, _), (1, _), (2, _), (3, _), (4, _), (5, _), (6, _)]) k111_86 rfl ?_
              refine p_iincN (ls1 := [(0, _), (1, _), (2, _), (3, _), (4, _), (5, _), (6, _)]) k111_88 rfl rfl ?_
              refine p_goto (tgt := 6) k111_91 (by decide) ?_
              refine p_drop [0, 1, 2, 3, 4, 5] rfl ?_
              exact ih (k + 1) _ _ (by omega) (by rw [← hs]; show fld (fTc R cb ce nh gg q) j (k + 1) _ = fld (fTc R cb ce nh gg q) j (k + 1) _; congr 1; unfold fTc; first | (rw [if_neg hw0, hcl, if_pos (Or.inl cq44)]; done) | (rw [if_neg hw0, hcl, if_pos (Or.inr (ht6.trans cq61))]; done) | (rw [if_neg hw0, hcl, if_neg (fun z => z.elim cq44 (fun z => cq61 (ht6.symm.trans z)))]; exact (Int32.add_zero _).symm))
          · skip
            replace hqs : h[qq]? = some (.inl 10) := by rw [hqs, hci]; rfl
            refine p_getIv k111_57 hqs f_11_163_10 (show _ = R0 106 a from (congrFun (M39 I _ hq153) 4).trans e4) ?_
            refine p_iload_n k111_60 rfl ?_
            refine p_icmp_ne (tgt := 88) k111_61 (by decide) (fun cq61 => ?_) (fun cq61 => ?_)
            · skip
              refine p_iincN (ls1 := [(0, _), (1, _), (2, _), (3, _), (4, _), (5, _), (6, _)]) k111_88 rfl rfl ?_
              refine p_goto (tgt := 6) k111_91 (by decide) ?_
              refine p_drop [0, 1, 2, 3, 4, 5] rfl ?_
              exact ih (k + 1) _ _ (by omega) (by rw [← hs]; show fld (fTc R cb ce nh gg q) j (k + 1) _ = fld (fTc R cb ce nh gg q) j (k + 1) _; congr 1; unfold fTc; first | (rw [if_neg hw0, hcl, if_pos (Or.inl cq44)]; done) | (rw [if_neg hw0, hcl, if_pos (Or.inr (ht6.trans cq61))]; done) | (rw [if_neg hw0, hcl, if_neg (fun z => z.elim cq44 (fun z => cq61 (ht6.symm.trans z)))]; exact (Int32.add_zero _).symm))
            · skip
              refine p_iload k111_64 rfl ?_
              refine p_aload_n k111_66 rfl ?_
              refine p_iload k111_67 rfl ?_
              refine p_iload k111_69 rfl ?_
              refine p_iload_n k111_71 rfl ?_
              refine p_iaddN k111_72 ?_
              refine p_aload_n k111_73 rfl ?_
              refine p_getRv k111_74 (s_0 S) f_11_14_11 (r_0_0 S) ?_
              refine p_getIv k111_77 (s_1 S) f_11_89_3 (show _ = nI nh from C.heads.trans M.nh) ?_
              refine p_iremN (by omega) (by omega) (by omega) k111_80 ?_
              refine p_iload_n k111_81 rfl ?_
              refine p_cV3i k111_82 (s_0 S) c_11_176_11 rfl rfl rfl (Nat.le_of_ble_eq_true rfl) (C_deedOn S C M g hA.1 (a := a) (hh := (k + gg) % nh) (ah := ah) (u := u) ha hmn hu0 hu1 hA.2.1 hu2 hA.2.2.1 hxx hx9 hyy hy9) (fun x1 m1 hq => ?_)
              obtain ⟨rfl, g, rfl⟩ := hq
              refine p_iadd k111_85 ?_
              refine p_istore (ls' := [(0, _), (1, _), (2, _), (3, _), (4, _), (5, _), (6, _)]) k111_86 rfl ?_
              refine p_iincN (ls1 := [(0, _), (1, _), (2, _), (3, _), (4, _), (5, _), (6, _)]) k111_88 rfl rfl ?_
              refine p_goto (tgt := 6) k111_91 (by decide) ?_
              refine p_drop [0, 1, 2, 3, 4, 5] rfl ?_
              exact ih (k + 1) _ _ (by omega) (by rw [← hs]; show fld (fTc R cb ce nh gg q) j (k + 1) _ = fld (fTc R cb ce nh gg q) j (k + 1) _; congr 1; unfold fTc; first | (rw [if_neg hw0, hcl, if_pos (Or.inl cq44)]; done) | (rw [if_neg hw0, hcl, if_pos (Or.inr (ht6.trans cq61))]; done) | (rw [if_neg hw0, hcl, if_neg (fun z => z.elim cq44 (fun z => cq61 (ht6.symm.trans z)))]; exact (Int32.add_zero _).symm))
          · skip
            replace hqs : h[qq]? = some (.inl 0) := by rw [hqs, hci]; rfl
            refine p_getIv k111_57 hqs f_11_163_0 (show _ = R0 106 a from (congrFun (M39 I _ hq153) 4).trans e4) ?_
            refine p_iload_n k111_60 rfl ?_
            refine p_icmp_ne (tgt := 88) k111_61 (by decide) (fun cq61 => ?_) (fun cq61 => ?_)
            · skip
              refine p_iincN (ls1 := [(0, _), (1, _), (2, _), (3, _), (4, _), (5, _), (6, _)]) k111_88 rfl rfl ?_
              refine p_goto (tgt := 6) k111_91 (by decide) ?_
              refine p_drop [0, 1, 2, 3, 4, 5] rfl ?_
              exact ih (k + 1) _ _ (by omega) (by rw [← hs]; show fld (fTc R cb ce nh gg q) j (k + 1) _ = fld (fTc R cb ce nh gg q) j (k + 1) _; congr 1; unfold fTc; first | (rw [if_neg hw0, hcl, if_pos (Or.inl cq44)]; done) | (rw [if_neg hw0, hcl, if_pos (Or.inr (ht6.trans cq61))]; done) | (rw [if_neg hw0, hcl, if_neg (fun z => z.elim cq44 (fun z => cq61 (ht6.symm.trans z)))]; exact (Int32.add_zero _).symm))
            · skip
              refine p_iload k111_64 rfl ?_
              refine p_aload_n k111_66 rfl ?_
              refine p_iload k111_67 rfl ?_
              refine p_iload k111_69 rfl ?_
              refine p_iload_n k111_71 rfl ?_
              refine p_iaddN k111_72 ?_
              refine p_aload_n k111_73 rfl ?_
              refine p_getRv k111_74 (s_0 S) f_11_14_11 (r_0_0 S) ?_
              refine p_getIv k111_77 (s_1 S) f_11_89_3 (show _ = nI nh from C.heads.trans M.nh) ?_
              refine p_iremN (by omega) (by omega) (by omega) k111_80 ?_
              refine p_iload_n k111_81 rfl ?_
              refine p_cV3i k111_82 (s_0 S) c_11_176_11 rfl rfl rfl (Nat.le_of_ble_eq_true rfl) (C_deedOn S C M g hA.1 (a := a) (hh := (k + gg) % nh) (ah := ah) (u := u) ha hmn hu0 hu1 hA.2.1 hu2 hA.2.2.1 hxx hx9 hyy hy9) (fun x1 m1 hq => ?_)
              obtain ⟨rfl, g, rfl⟩ := hq
              refine p_iadd k111_85 ?_
              refine p_istore (ls' := [(0, _), (1, _), (2, _), (3, _), (4, _), (5, _), (6, _)]) k111_86 rfl ?_
              refine p_iincN (ls1 := [(0, _), (1, _), (2, _), (3, _), (4, _), (5, _), (6, _)]) k111_88 rfl rfl ?_
              refine p_goto (tgt := 6) k111_91 (by decide) ?_
              refine p_drop [0, 1, 2, 3, 4, 5] rfl ?_
              exact ih (k + 1) _ _ (by omega) (by rw [← hs]; show fld (fTc R cb ce nh gg q) j (k + 1) _ = fld (fTc R cb ce nh gg q) j (k + 1) _; congr 1; unfold fTc; first | (rw [if_neg hw0, hcl, if_pos (Or.inl cq44)]; done) | (rw [if_neg hw0, hcl, if_pos (Or.inr (ht6.trans cq61))]; done) | (rw [if_neg hw0, hcl, if_neg (fun z => z.elim cq44 (fun z => cq61 (ht6.symm.trans z)))]; exact (Int32.add_zero _).symm))
          · skip
            replace hqs : h[qq]? = some (.inl 4) := by rw [hqs, hci]; rfl
            refine p_getIv k111_57 hqs f_11_163_4 (show _ = R0 106 a from (congrFun (M39 I _ hq153) 4).trans e4) ?_
            refine p_iload_n k111_60 rfl ?_
            refine p_icmp_ne (tgt := 88) k111_61 (by decide) (fun cq61 => ?_) (fun cq61 => ?_)
            · skip
              refine p_iincN (ls1 := [(0, _), (1, _), (2, _), (3, _), (4, _), (5, _), (6, _)]) k111_88 rfl rfl ?_
              refine p_goto (tgt := 6) k111_91 (by decide) ?_
              refine p_drop [0, 1, 2, 3, 4, 5] rfl ?_
              exact ih (k + 1) _ _ (by omega) (by rw [← hs]; show fld (fTc R cb ce nh gg q) j (k + 1) _ = fld (fTc R cb ce nh gg q) j (k + 1) _; congr 1; unfold fTc; first | (rw [if_neg hw0, hcl, if_pos (Or.inl cq44)]; done) | (rw [if_neg hw0, hcl, if_pos (Or.inr (ht6.trans cq61))]; done) | (rw [if_neg hw0, hcl, if_neg (fun z => z.elim cq44 (fun z => cq61 (ht6.symm.trans z)))]; exact (Int32.add_zero _).symm))
            · skip
              refine p_iload k111_64 rfl ?_
              refine p_aload_n k111_66 rfl ?_
              refine p_iload k111_67 rfl ?_
              refine p_iload k111_69 rfl ?_
              refine p_iload_n k111_71 rfl ?_
              refine p_iaddN k111_72 ?_
              refine p_aload_n k111_73 rfl ?_
              refine p_getRv k111_74 (s_0 S) f_11_14_11 (r_0_0 S) ?_
              refine p_getIv k111_77 (s_1 S) f_11_89_3 (show _ = nI nh from C.heads.trans M.nh) ?_
              refine p_iremN (by omega) (by omega) (by omega) k111_80 ?_
              refine p_iload_n k111_81 rfl ?_
              refine p_cV3i k111_82 (s_0 S) c_11_176_11 rfl rfl rfl (Nat.le_of_ble_eq_true rfl) (C_deedOn S C M g hA.1 (a := a) (hh := (k + gg) % nh) (ah := ah) (u := u) ha hmn hu0 hu1 hA.2.1 hu2 hA.2.2.1 hxx hx9 hyy hy9) (fun x1 m1 hq => ?_)
              obtain ⟨rfl, g, rfl⟩ := hq
              refine p_iadd k111_85 ?_
              refine p_istore (ls' := [(0, _), (1, _), (2, _), (3, _), (4, _), (5, _), (6, _)]) k111_86 rfl ?_
              refine p_iincN (ls1 := [(0, _), (1, _), (2, _), (3, _), (4, _), (5, _), (6, _)]) k111_88 rfl rfl ?_
              refine p_goto (tgt := 6) k111_91 (by decide) ?_
              refine p_drop [0, 1, 2, 3, 4, 5] rfl ?_
              exact ih (k + 1) _ _ (by omega) (by rw [← hs]; show fld (fTc R cb ce nh gg q) j (k + 1) _ = fld (fTc R cb ce nh gg q) j (k + 1) _; congr 1; unfold fTc; first | (rw [if_neg hw0, hcl, if_pos (Or.inl cq44)]; done) | (rw [if_neg hw0, hcl, if_pos (Or.inr (ht6.trans cq61))]; done) | (rw [if_neg hw0, hcl, if_neg (fun z => z.elim cq44 (fun z => cq61 (ht6.symm.trans z)))]; exact (Int32.add_zero _).symm))
          · skip
            replace hqs : h[qq]? = some (.inl 1) := by rw [hqs, hci]; rfl
            refine p_getIv k111_57 hqs f_11_163_1 (show _ = R0 106 a from (congrFun (M39 I _ hq153) 4).trans e4) ?_
            refine p_iload_n k111_60 rfl ?_
            refine p_icmp_ne (tgt := 88) k111_61 (by decide) (fun cq61 => ?_) (fun cq61 => ?_)
            · skip
              refine p_iincN (ls1 := [(0, _), (1, _), (2, _), (3, _), (4, _), (5, _), (6, _)]) k111_88 rfl rfl ?_
              refine p_goto (tgt := 6) k111_91 (by decide) ?_
              refine p_drop [0, 1, 2, 3, 4, 5] rfl ?_
              exact ih (k + 1) _ _ (by omega) (by rw [← hs]; show fld (fTc R cb ce nh gg q) j (k + 1) _ = fld (fTc R cb ce nh gg q) j (k + 1) _; congr 1; unfold fTc; first | (rw [if_neg hw0, hcl, if_pos (Or.inl cq44)]; done) | (rw [if_neg hw0, hcl, if_pos (Or.inr (ht6.trans cq61))]; done) | (rw [if_neg hw0, hcl, if_neg (fun z => z.elim cq44 (fun z => cq61 (ht6.symm.trans z)))]; exact (Int32.add_zero _).symm))
            · skip
              refine p_iload k111_64 rfl ?_
              refine p_aload_n k111_66 rfl ?_
              refine p_iload k111_67 rfl ?_
              refine p_iload k111_69 rfl ?_
              refine p_iload_n k111_71 rfl ?_
              refine p_iaddN k111_72 ?_
              refine p_aload_n k111_73 rfl ?_
              refine p_getRv k111_74 (s_0 S) f_11_14_11 (r_0_0 S) ?_
              refine p_getIv k111_77 (s_1 S) f_11_89_3 (show _ = nI nh from C.heads.trans M.nh) ?_
              refine p_iremN (by omega) (by omega) (by omega) k111_80 ?_
              refine p_iload_n k111_81 rfl ?_
              refine p_cV3i k111_82 (s_0 S) c_11_176_11 rfl rfl rfl (Nat.le_of_ble_eq_true rfl) (C_deedOn S C M g hA.1 (a := a) (hh := (k + gg) % nh) (ah := ah) (u := u) ha hmn hu0 hu1 hA.2.1 hu2 hA.2.2.1 hxx hx9 hyy hy9) (fun x1 m1 hq => ?_)
              obtain ⟨rfl, g, rfl⟩ := hq
              refine p_iadd k111_85 ?_
              refine p_istore (ls' := [(0, _), (1, _), (2, _), (3, _), (4, _), (5, _), (6, _)]) k111_86 rfl ?_
              refine p_iincN (ls1 := [(0, _), (1, _), (2, _), (3, _), (4, _), (5, _), (6, _)]) k111_88 rfl rfl ?_
              refine p_goto (tgt := 6) k111_91 (by decide) ?_
              refine p_drop [0, 1, 2, 3, 4, 5] rfl ?_
              exact ih (k + 1) _ _ (by omega) (by rw [← hs]; show fld (fTc R cb ce nh gg q) j (k + 1) _ = fld (fTc R cb ce nh gg q) j (k + 1) _; congr 1; unfold fTc; first | (rw [if_neg hw0, hcl, if_pos (Or.inl cq44)]; done) | (rw [if_neg hw0, hcl, if_pos (Or.inr (ht6.trans cq61))]; done) | (rw [if_neg hw0, hcl, if_neg (fun z => z.elim cq44 (fun z => cq61 (ht6.symm.trans z)))]; exact (Int32.add_zero _).symm))
          · skip
            replace hqs : h[qq]? = some (.inl 7) := by rw [hqs, hci]; rfl
            refine p_getIv k111_57 hqs f_11_163_7 (show _ = R0 106 a from (congrFun (M39 I _ hq153) 4).trans e4) ?_
            refine p_iload_n k111_60 rfl ?_
            refine p_icmp_ne (tgt := 88) k111_61 (by decide) (fun cq61 => ?_) (fun cq61 => ?_)
            · skip
              refine p_iincN (ls1 := [(0, _), (1, _), (2, _), (3, _), (4, _), (5, _), (6, _)]) k111_88 rfl rfl ?_
              refine p_goto (tgt := 6) k111_91 (by decide) ?_
              refine p_drop [0, 1, 2, 3, 4, 5] rfl ?_
              exact ih (k + 1) _ _ (by omega) (by rw [← hs]; show fld (fTc R cb ce nh gg q) j (k + 1) _ = fld (fTc R cb ce nh gg q) j (k + 1) _; congr 1; unfold fTc; first | (rw [if_neg hw0, hcl, if_pos (Or.inl cq44)]; done) | (rw [if_neg hw0, hcl, if_pos (Or.inr (ht6.trans cq61))]; done) | (rw [if_neg hw0, hcl, if_neg (fun z => z.elim cq44 (fun z => cq61 (ht6.symm.trans z)))]; exact (Int32.add_zero _).symm))
            · skip
              refine p_iload k111_64 rfl ?_
              refine p_aload_n k111_66 rfl ?_
              refine p_iload k111_67 rfl ?_
              refine p_iload k111_69 rfl ?_
              refine p_iload_n k111_71 rfl ?_
              refine p_iaddN k111_72 ?_
              refine p_aload_n k111_73 rfl ?_
              refine p_getRv k111_74 (s_0 S) f_11_14_11 (r_0_0 S) ?_
              refine p_getIv k111_77 (s_1 S) f_11_89_3 (show _ = nI nh from C.heads.trans M.nh) ?_
              refine p_iremN (by omega) (by omega) (by omega) k111_80 ?_
              refine p_iload_n k111_81 rfl ?_
              refine p_cV3i k111_82 (s_0 S) c_11_176_11 rfl rfl rfl (Nat.le_of_ble_eq_true rfl) (C_deedOn S C M g hA.1 (a := a) (hh := (k + gg) % nh) (ah := ah) (u := u) ha hmn hu0 hu1 hA.2.1 hu2 hA.2.2.1 hxx hx9 hyy hy9) (fun x1 m1 hq => ?_)
              obtain ⟨rfl, g, rfl⟩ := hq
              refine p_iadd k111_85 ?_
              refine p_istore (ls' := [(0, _), (1, _), (2, _), (3, _), (4, _), (5, _), (6, _)]) k111_86 rfl ?_
              refine p_iincN (ls1 := [(0, _), (1, _), (2, _), (3, _), (4, _), (5, _), (6, _)]) k111_88 rfl rfl ?_
              refine p_goto (tgt := 6) k111_91 (by decide) ?_
              refine p_drop [0, 1, 2, 3, 4, 5] rfl ?_
              exact ih (k + 1) _ _ (by omega) (by rw [← hs]; show fld (fTc R cb ce nh gg q) j (k + 1) _ = fld (fTc R cb ce nh gg q) j (k + 1) _; congr 1; unfold fTc; first | (rw [if_neg hw0, hcl, if_pos (Or.inl cq44)]; done) | (rw [if_neg hw0, hcl, if_pos (Or.inr (ht6.trans cq61))]; done) | (rw [if_neg hw0, hcl, if_neg (fun z => z.elim cq44 (fun z => cq61 (ht6.symm.trans z)))]; exact (Int32.add_zero _).symm))
  exact L nh 0 (nI 0) g (by omega) rfl

theorem AHD.work {R0 R : Nat → Nat → Int32} {nh na dd ah cb ce : Nat} (hA : AHD R0 R nh na dd ah) (q : Int32) : workF R cb ce q = workF R0 cb ce q := by
  unfold workF
  rw [hA.1 112 (by decide) (by decide) (by decide), hA.1 113 (by decide) (by decide) (by decide), hA.1 114 (by decide) (by decide) (by decide)]
set_option maxRecDepth 100000 in
set_option maxHeartbeats 4000000 in
theorem C_isEnough {d : Nat} {I : Nat → Nat → Int32} {J : Nat → Nat → Int64} {K : Nat → Nat → Option Nat} {h : List xSh} (S : St K h) {R0 : Nat → Nat → Int32} {nh na dd cb ce tw : Nat} (C : CR I K h R0 na tw) (M : MI R0 nh na dd cb ce) (Q : AR R0 nh na dd) (g : Nat → Int32) {R : Nat → Nat → Int32} {ah gg : Nat} (hA : AHD R0 R nh na dd ah) (hgg : gg < 6) (q : Int32) : EvP (d + 7) 112 0 [(0, .ref (0)), (1, .int (q)), (2, .int (nI (gg))), (3, .int (nI (ah)))] [] (upc I 39 g, J, K, h) (QI (fun x t => x = bI (!(decide (totC R cb ce nh gg q < workF R0 cb ce q))) ∧ ∃ g, t = (upc I 39 g, J, K, h))) := by
  refine p_aload_n k112_0 rfl ?_
  refine p_iload_n k112_1 rfl ?_
  refine p_iload_n k112_2 rfl ?_
  refine p_iload_n k112_3 rfl ?_
  refine p_cV3i k112_4 (s_0 S) c_11_206_11 rfl rfl rfl (Nat.le_of_ble_eq_true rfl) (C_total S C M Q g hA hgg q) (fun x1 m1 hq => ?_)
  obtain ⟨rfl, g, rfl⟩ := hq
  refine p_aload_n k112_7 rfl ?_
  refine p_cV0r k112_8 (s_0 S) c_11_193_11 (Nat.le_of_ble_eq_true rfl) (C_holding S (C.up (by omega) g) M.th) (fun x1 m1 hq => ?_)
  obtain ⟨hCU, rfl⟩ := hq
  generalize x1 = b at hCU ⊢
  have hTS := hCU.1.1
  refine p_iload_n k112_11 rfl ?_
  refine p_cV1i k112_12 hTS.1.1 c_11_203_8 rfl (Nat.le_of_ble_eq_true rfl) (C_work S hCU q) (fun x1 m1 hq => ?_)
  obtain ⟨rfl, rfl⟩ := hq
  refine p_icmp_lt (tgt := 22) k112_15 (by decide) (fun cq15 => ?_) (fun cq15 => ?_)
  · skip
    refine p_iconst (v := bI false) k112_22 (by decide) ?_
    refine p_returnB k112_23 rt_112 ?_
    exact ⟨by first | rw [decide_eq_true cq15]; rfl | rw [decide_eq_false cq15]; rfl, g, rfl⟩
  · skip
    refine p_iconst (v := bI true) k112_18 (by decide) ?_
    refine p_goto (tgt := 23) k112_19 (by decide) ?_
    refine p_returnB k112_23 rt_112 ?_
    exact ⟨by first | rw [decide_eq_true cq15]; rfl | rw [decide_eq_false cq15]; rfl, g, rfl⟩

/-- a sum around a ring -/
theorem rot_sum {n gg : Nat} (hn : n ≤ 6) (hg : gg < 6) (f : Nat → Int32) (s0 : Int32) : fld (fun k s => s + f ((k + gg) % n)) n 0 s0 = fld (fun k s => s + f k) n 0 s0 := by
  rcases (show n = 0 ∨ n = 1 ∨ n = 2 ∨ n = 3 ∨ n = 4 ∨ n = 5 ∨ n = 6 by omega) with rfl | rfl | rfl | rfl | rfl | rfl | rfl <;> rcases (show gg = 0 ∨ gg = 1 ∨ gg = 2 ∨ gg = 3 ∨ gg = 4 ∨ gg = 5 by omega) with rfl | rfl | rfl | rfl | rfl | rfl <;> (simp only [fld, Nat.reduceAdd, Nat.reduceMod, Nat.zero_add, Nat.zero_mod] <;> ac_rfl)
theorem rot_back {n gg k : Nat} (hn : n ≤ 6) (hg : gg < 6) (hk : k < n) : ((k + gg) % n + 6 * n - gg) % n = k := by
  rcases (show n = 1 ∨ n = 2 ∨ n = 3 ∨ n = 4 ∨ n = 5 ∨ n = 6 by omega) with rfl | rfl | rfl | rfl | rfl | rfl <;> omega
theorem tq_iff {q : Int32} (hq : q = -1 ∨ ixB q 5 = true) : (q < 0 ↔ q = -1) := by
  rcases hq with e | e
  · subst e; exact ⟨fun _ => rfl, fun _ => by decide⟩
  · obtain ⟨k, hk, rfl⟩ := ixB_of (by decide) e
    exact ⟨fun z => absurd z (opt_neg (by omega)), fun z => absurd z (nI_neg (by omega) (by decide))⟩
/-- the class's sum after a gust is the reference's -/
theorem totC_gus {R : Nat → Nat → Int32} {cb ce nh gg : Nat} {q : Int32} (hn : nh ≤ 6) (hg : gg < 6) (hq : q = -1 ∨ ixB q 5 = true) : totC R cb ce nh gg q = gusM R gg nh cb ce q := by
  let V := upc R 101 (gusV R gg nh)
  have h1 : totC R cb ce nh gg q = fld (fun k s => s + (fun m => if V 101 m < 0 then nI 0 else if q < 0 ∨ V 106 (V 101 m).toNatClampNeg = q then deedM V cb ce (V 101 m).toNatClampNeg m else nI 0) ((k + gg) % nh)) nh 0 (nI 0) := by
    refine fld_congr (fun k h1 h2 s => ?_)
    have hm := Nat.mod_lt (k + gg) (show 0 < nh by omega)
    have e : V 101 ((k + gg) % nh) = R 101 k := by
      show gusV R gg nh ((k + gg) % nh) = R 101 k
      unfold gusV
      rw [if_pos hm, rot_back hn hg (by omega)]
    show fTc R cb ce nh gg q k s = s + (if V 101 ((k + gg) % nh) < 0 then nI 0 else if q < 0 ∨ R 106 (V 101 ((k + gg) % nh)).toNatClampNeg = q then deedM R cb ce (V 101 ((k + gg) % nh)).toNatClampNeg ((k + gg) % nh) else nI 0)
    rw [e]
    unfold fTc
    by_cases cq1 : R 101 k < 0
    · rw [if_pos cq1, if_pos cq1]
    · rw [if_neg cq1, if_neg cq1]
      by_cases cq2 : q = -1 ∨ R 106 (R 101 k).toNatClampNeg = q
      · rw [if_pos cq2, if_pos (cq2.imp (tq_iff hq).mpr id)]
      · rw [if_neg cq2, if_neg (fun z => cq2 (z.imp (tq_iff hq).mp id))]
  exact h1.trans ((rot_sum hn hg (fun m => if V 101 m < 0 then nI 0 else if q < 0 ∨ V 106 (V 101 m).toNatClampNeg = q then deedM V cb ce (V 101 m).toNatClampNeg m else nI 0) (nI 0)).trans rfl)
theorem totC_0 {R : Nat → Nat → Int32} {cb ce nh : Nat} {q : Int32} (hq : q = -1 ∨ ixB q 5 = true) : totC R cb ce nh 0 q = todM R cb ce nh q := by
  refine fld_congr (fun k h1 h2 s => ?_)
  unfold fTc fTod
  rw [Nat.add_zero, Nat.mod_eq_of_lt (by omega)]
  by_cases cq1 : R 101 k < 0
  · rw [if_pos cq1, if_pos cq1]
  · rw [if_neg cq1, if_neg cq1]
    by_cases cq2 : q = -1 ∨ R 106 (R 101 k).toNatClampNeg = q
    · rw [if_pos cq2, if_pos (cq2.imp (tq_iff hq).mpr id)]
    · rw [if_neg cq2, if_neg (fun z => cq2 (z.imp (tq_iff hq).mp id))]
