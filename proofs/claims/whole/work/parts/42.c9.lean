/-! the class: act, taken, of -/
theorem nts_tr : ∀ (L : List Nat) (I R : Nat → Nat → Int32) (r : Nat), I 36 1 = R 98 72 → I 37 = R 148 → (ncs I r L) 36 1 = (nts R r L) 98 72 ∧ (ncs I r L) 37 = (nts R r L) 148 := by
  intro L
  induction L with
  | nil => intro I R r h1 h2; exact ⟨h1, h2⟩
  | cons b L ih =>
    intro I R r h1 h2
    refine ih (nc1 I r b) (nt1 R r b) (r + 1) rfl ?_
    show (if r < 20 then upc (I 37) r (nI b) else I 37) = (if r < 20 then upc (R 148) r (nI b) else R 148)
    rw [h2]
theorem aS_ss {k i : Nat} {v x : Int32} (hk : k < 7) : aS (([2, 6, 10, 0, 4, 1, 7] : List Nat).getD k 2) i v x = ssA k i v x := by
  rcases (show k = 0 ∨ k = 1 ∨ k = 2 ∨ k = 3 ∨ k = 4 ∨ k = 5 ∨ k = 6 by omega) with rfl | rfl | rfl | rfl | rfl | rfl | rfl <;> rfl
theorem a9_hd {k i : Nat} {v x : Int32} (hk : k < 7) : a9 (([2, 6, 10, 0, 4, 1, 7] : List Nat).getD k 2) i v x = hdA k i v x := by
  unfold a9 hdA
  rw [aS_ss hk]
theorem aD_da {k i : Nat} {v x : Int32} (hk : k < 7) : aD (([2, 6, 10, 0, 4, 1, 7] : List Nat).getD k 2) i v x = daA k i v x := by
  have h := fun x => a9_hd (i := i) (v := v) (x := x) hk
  rcases (show k = 0 ∨ k = 1 ∨ k = 2 ∨ k = 3 ∨ k = 4 ∨ k = 5 ∨ k = 6 by omega) with rfl | rfl | rfl | rfl | rfl | rfl | rfl
  · exact h x
  · show a27 6 i v x = tdA 1 i v x
    unfold a27 tdA; rw [show a9 6 i v x = hdA 1 i v x from h x]
  · exact h x
  · exact h x
  · show a20 4 i v x = ((tdA 4 i v (x + nI 1)).1, 51 :: (tdA 4 i v (x + nI 1)).2)
    unfold a20 a27 tdA; rw [show a9 4 i v (x + nI 1) = hdA 4 i v (x + nI 1) from h _]
  · exact h x
  · show a30 7 i v x = ((hdA 6 i v x).1 + (nI 2 + nI i), 70 :: ((hdA 6 i v x).2 ++ [10]))
    unfold a30; rw [show a9 7 i v x = hdA 6 i v x from h x]; rfl
theorem aT_ta {k i : Nat} {v x : Int32} (hk : k < 7) : aT (([2, 6, 10, 0, 4, 1, 7] : List Nat).getD k 2) i v x = taA k i v x := by
  have h := fun x => aD_da (i := i) (v := v) (x := x) hk
  have h2 : ∀ x, a10 (([2, 6, 10, 0, 4, 1, 7] : List Nat).getD k 2) i v x = htA k i v x := by
    intro x
    unfold a10 htA
    rw [h x]
  rcases (show k = 0 ∨ k = 1 ∨ k = 2 ∨ k = 3 ∨ k = 4 ∨ k = 5 ∨ k = 6 by omega) with rfl | rfl | rfl | rfl | rfl | rfl | rfl
  · exact h2 x
  · exact h2 x
  · exact h2 x
  · show a2 0 i v x = ((htA 3 i v x).1 + (daA 3 i v (nI 1)).1, 40 :: ((htA 3 i v x).2 ++ (daA 3 i v (nI 1)).2))
    unfold a2; rw [show a10 0 i v x = htA 3 i v x from h2 x, show aD 0 i v (nI 1) = daA 3 i v (nI 1) from h _]
  · exact h2 x
  · show a5 1 i v x = ((htA 5 i v (x - nI i)).1, 60 :: (htA 5 i v (x - nI i)).2)
    unfold a5; rw [show a10 1 i v (x - nI i) = htA 5 i v (x - nI i) from h2 _]
  · show a2 7 i v x = ((htA 6 i v x).1 + (daA 6 i v (nI 1)).1, 40 :: ((htA 6 i v x).2 ++ (daA 6 i v (nI 1)).2))
    unfold a2; rw [show a10 7 i v x = htA 6 i v x from h2 x, show aD 7 i v (nI 1) = daA 6 i v (nI 1) from h _]
set_option maxRecDepth 100000 in
set_option maxHeartbeats 4000000 in
theorem C_clear {d : Nat} {I : Nat → Nat → Int32} {J : Nat → Nat → Int64} {K : Nat → Nat → Option Nat} {h : List xSh} (S : St K h)  : EvP d 49 0 [(0, .ref (36))] [] (I, J, K, h) (QV (fun t => t = (s1 I 36 1 (nI 0), J, K, h))) := by
  refine p_aload_n k49_0 rfl ?_
  refine p_iconst (v := nI 0) k49_1 (by decide) ?_
  refine p_putIv k49_2 (s_36 S) g_9_15_9 n_49_9_1 ?_
  refine p_return k49_5 rt_49 ?_
  exact rfl

set_option maxRecDepth 100000 in
set_option maxHeartbeats 4000000 in
theorem C_act {d : Nat} {I : Nat → Nat → Int32} {J : Nat → Nat → Int64} {K : Nat → Nat → Option Nat} {h : List xSh} (S : St K h) {R0 : Nat → Nat → Int32} {nh na dd cb ce tw : Nat} (C : CR I K h R0 na tw) (M : MI R0 nh na dd cb ce) (Q : AR R0 nh na dd) (htr2 : I 37 = R0 148) (v w x : Int32) : EvP (d + 8) 93 0 [(0, .ref (0)), (1, .int (v)), (2, .int (w)), (3, .int (x))] [] (I, J, K, h) (QI (fun z t => z = (actM R0 na v w x).1 ∧ ∃ I2, t = (I2, J, K, h) ∧ I2 36 1 = (actM R0 na v w x).2 98 72 ∧ I2 37 = (actM R0 na v w x).2 148 ∧ ∀ c, c ≠ 36 → c ≠ 37 → I2 c = I c)) := by
  have hnh6 := M.nh6
  have hna6 := M.na6
  refine p_aload_n k93_0 rfl ?_
  refine p_getRv k93_1 (s_0 S) f_11_50_11 (r_0_8 S) ?_
  refine p_cV0v k93_4 (s_36 S) c_11_307_9 (Nat.le_of_ble_eq_true rfl) (C_clear S) (fun m1 hq => ?_)
  obtain rfl := hq
  refine p_aload_n k93_7 rfl ?_
  refine p_getRv k93_8 (s_0 S) f_11_14_11 (r_0_0 S) ?_
  refine p_iload_n k93_11 rfl ?_
  refine p_cV1i k93_12 (s_1 S) c_11_151_3 rfl (Nat.le_of_ble_eq_true rfl) (C_isHat S (I := (s1 I 36 1 (nI 0))) (n := na) (C.hats.trans M.na) hna6 v) (fun x1 m1 hq => ?_)
  obtain ⟨rfl, rfl⟩ := hq
  refine p_if_neB (tgt := 20) k93_15 (by decide) (fun cq15 => ?_) (fun cq15 => ?_)
  · skip
    obtain ⟨a, ha, rfl⟩ := ixB_of (n := na) (by omega) cq15
    have hca := nI_clamp (n := a) (by omega)
    refine p_iload_n k93_20 rfl ?_
    obtain ⟨qq, kk, ⟨hKq, hq153⟩, ⟨hk7, hkR, hqs⟩, e0, e1, e2, e3, e4, e5⟩ := C.hat a ha
    have hkc : (R0 102 a).toNatClampNeg = kk := by rw [hkR, nI_clamp (by omega)]
    have hq6 : qq ≠ 36 := by omega
    have hq7 : qq ≠ 37 := by omega
    have f1 : (s1 I 36 1 (nI 0)) qq 1 = nI a := (congrFun (show (s1 I 36 1 (nI 0)) qq = I qq from upc_ne _ _ hq6) 1).trans e1
    have f2 : (s1 I 36 1 (nI 0)) qq 2 = R0 103 a := (congrFun (show (s1 I 36 1 (nI 0)) qq = I qq from upc_ne _ _ hq6) 2).trans e2
    by_cases hw3 : ixB w 3 = true
    · skip
      have hin : inB w (nI 0) (nI 2) = true := by rw [ixB_in0 (by decide)]; exact hw3
      obtain ⟨k, hk, rfl⟩ := ixB_of (by decide) hw3
      rcases (show k = 0 ∨ k = 1 ∨ k = 2 by omega) with rfl | rfl | rfl
      · skip
        have hE : actM R0 na (nI a) (nI 0) x = ((ssA kk a (R0 103 a) x).1, nts (s1 R0 98 72 (nI 0)) 0 (ssA kk a (R0 103 a) x).2) := by
          unfold actM
          rw [if_neg (by rw [cq15, hin]; decide), hca, hkc]
          unfold actA
          rw [if_pos (show nI 0 = 0 from rfl)]
        rw [hE]
        have hT := nts_tr (ssA kk a (R0 103 a) x).2 (s1 I 36 1 (nI 0)) (s1 R0 98 72 (nI 0)) 0 rfl htr2
        rw [← aS_ss hk7] at hT ⊢
        rcases (show kk = 0 ∨ kk = 1 ∨ kk = 2 ∨ kk = 3 ∨ kk = 4 ∨ kk = 5 ∨ kk = 6 by omega) with rfl | rfl | rfl | rfl | rfl | rfl | rfl
        · skip
          replace hqs : h[qq]? = some (.inl 2) := hqs
          refine p_tswI (tgt := 48) k93_21 (by decide) (by decide) (by decide) rfl (by decide) ?_
          refine p_aload_n k93_48 rfl ?_
          refine p_getRv k93_49 (s_0 S) f_11_14_11 (r_0_0 S) ?_
          refine p_getRv k93_52 (s_1 S) f_11_111_3 (r_1_5 S) ?_
          refine p_iload_n k93_55 rfl ?_
          refine p_aaldNj k93_56 (s_5 S) xaty_2 (by omega) (by decide) hKq ?_
          refine p_iload_n k93_57 rfl ?_
          refine p_cV1i k93_58 hqs c_11_310_2 rfl (Nat.le_of_ble_eq_true rfl) (C_act8_2 S (I := (s1 I 36 1 (nI 0))) (q := qq) (i := a) (v := R0 103 a) (r := 0) hqs e5 f1 f2 rfl (by omega) hq6 hq7 x) (fun x1 m1 hq => ?_)
          obtain ⟨rfl, rfl⟩ := hq
          refine p_ireturn k93_61 rt_93 ?_
          exact ⟨rfl, _, rfl, hT.1, hT.2, fun c h1 h2 => (ncs_at _ _ _ _ h1 h2).trans (upc_ne _ _ h1)⟩
        · skip
          replace hqs : h[qq]? = some (.inl 6) := hqs
          refine p_tswI (tgt := 48) k93_21 (by decide) (by decide) (by decide) rfl (by decide) ?_
          refine p_aload_n k93_48 rfl ?_
          refine p_getRv k93_49 (s_0 S) f_11_14_11 (r_0_0 S) ?_
          refine p_getRv k93_52 (s_1 S) f_11_111_3 (r_1_5 S) ?_
          refine p_iload_n k93_55 rfl ?_
          refine p_aaldNj k93_56 (s_5 S) xaty_2 (by omega) (by decide) hKq ?_
          refine p_iload_n k93_57 rfl ?_
          refine p_cV1i k93_58 hqs c_11_310_6 rfl (Nat.le_of_ble_eq_true rfl) (C_act8_6 S (I := (s1 I 36 1 (nI 0))) (q := qq) (i := a) (v := R0 103 a) (r := 0) hqs e5 f1 f2 rfl (by omega) hq6 hq7 x) (fun x1 m1 hq => ?_)
          obtain ⟨rfl, rfl⟩ := hq
          refine p_ireturn k93_61 rt_93 ?_
          exact ⟨rfl, _, rfl, hT.1, hT.2, fun c h1 h2 => (ncs_at _ _ _ _ h1 h2).trans (upc_ne _ _ h1)⟩
        · skip
          replace hqs : h[qq]? = some (.inl 10) := hqs
          refine p_tswI (tgt := 48) k93_21 (by decide) (by decide) (by decide) rfl (by decide) ?_
          refine p_aload_n k93_48 rfl ?_
          refine p_getRv k93_49 (s_0 S) f_11_14_11 (r_0_0 S) ?_
          refine p_getRv k93_52 (s_1 S) f_11_111_3 (r_1_5 S) ?_
          refine p_iload_n k93_55 rfl ?_
          refine p_aaldNj k93_56 (s_5 S) xaty_2 (by omega) (by decide) hKq ?_
          refine p_iload_n k93_57 rfl ?_
          refine p_cV1i k93_58 hqs c_11_310_10 rfl (Nat.le_of_ble_eq_true rfl) (C_act53_10 S (I := (s1 I 36 1 (nI 0))) (q := qq) (i := a) (v := R0 103 a) (r := 0) hqs e5 f1 f2 rfl (by omega) hq6 hq7 x) (fun x1 m1 hq => ?_)
          obtain ⟨rfl, rfl⟩ := hq
          refine p_ireturn k93_61 rt_93 ?_
          exact ⟨rfl, _, rfl, hT.1, hT.2, fun c h1 h2 => (ncs_at _ _ _ _ h1 h2).trans (upc_ne _ _ h1)⟩
        · skip
          replace hqs : h[qq]? = some (.inl 0) := hqs
          refine p_tswI (tgt := 48) k93_21 (by decide) (by decide) (by decide) rfl (by decide) ?_
          refine p_aload_n k93_48 rfl ?_
          refine p_getRv k93_49 (s_0 S) f_11_14_11 (r_0_0 S) ?_
          refine p_getRv k93_52 (s_1 S) f_11_111_3 (r_1_5 S) ?_
          refine p_iload_n k93_55 rfl ?_
          refine p_aaldNj k93_56 (s_5 S) xaty_2 (by omega) (by decide) hKq ?_
          refine p_iload_n k93_57 rfl ?_
          refine p_cV1i k93_58 hqs c_11_310_0 rfl (Nat.le_of_ble_eq_true rfl) (C_act8_0 S (I := (s1 I 36 1 (nI 0))) (q := qq) (i := a) (v := R0 103 a) (r := 0) hqs e5 f1 f2 rfl (by omega) hq6 hq7 x) (fun x1 m1 hq => ?_)
          obtain ⟨rfl, rfl⟩ := hq
          refine p_ireturn k93_61 rt_93 ?_
          exact ⟨rfl, _, rfl, hT.1, hT.2, fun c h1 h2 => (ncs_at _ _ _ _ h1 h2).trans (upc_ne _ _ h1)⟩
        · skip
          replace hqs : h[qq]? = some (.inl 4) := hqs
          refine p_tswI (tgt := 48) k93_21 (by decide) (by decide) (by decide) rfl (by decide) ?_
          refine p_aload_n k93_48 rfl ?_
          refine p_getRv k93_49 (s_0 S) f_11_14_11 (r_0_0 S) ?_
          refine p_getRv k93_52 (s_1 S) f_11_111_3 (r_1_5 S) ?_
          refine p_iload_n k93_55 rfl ?_
          refine p_aaldNj k93_56 (s_5 S) xaty_2 (by omega) (by decide) hKq ?_
          refine p_iload_n k93_57 rfl ?_
          refine p_cV1i k93_58 hqs c_11_310_4 rfl (Nat.le_of_ble_eq_true rfl) (C_act19_4 S (I := (s1 I 36 1 (nI 0))) (q := qq) (i := a) (v := R0 103 a) (r := 0) hqs e5 f1 f2 rfl (by omega) hq6 hq7 x) (fun x1 m1 hq => ?_)
          obtain ⟨rfl, rfl⟩ := hq
          refine p_ireturn k93_61 rt_93 ?_
          exact ⟨rfl, _, rfl, hT.1, hT.2, fun c h1 h2 => (ncs_at _ _ _ _ h1 h2).trans (upc_ne _ _ h1)⟩
        · skip
          replace hqs : h[qq]? = some (.inl 1) := hqs
          refine p_tswI (tgt := 48) k93_21 (by decide) (by decide) (by decide) rfl (by decide) ?_
          refine p_aload_n k93_48 rfl ?_
          refine p_getRv k93_49 (s_0 S) f_11_14_11 (r_0_0 S) ?_
          refine p_getRv k93_52 (s_1 S) f_11_111_3 (r_1_5 S) ?_
          refine p_iload_n k93_55 rfl ?_
          refine p_aaldNj k93_56 (s_5 S) xaty_2 (by omega) (by decide) hKq ?_
          refine p_iload_n k93_57 rfl ?_
          refine p_cV1i k93_58 hqs c_11_310_1 rfl (Nat.le_of_ble_eq_true rfl) (C_act53_1 S (I := (s1 I 36 1 (nI 0))) (q := qq) (i := a) (v := R0 103 a) (r := 0) hqs e5 f1 f2 rfl (by omega) hq6 hq7 x) (fun x1 m1 hq => ?_)
          obtain ⟨rfl, rfl⟩ := hq
          refine p_ireturn k93_61 rt_93 ?_
          exact ⟨rfl, _, rfl, hT.1, hT.2, fun c h1 h2 => (ncs_at _ _ _ _ h1 h2).trans (upc_ne _ _ h1)⟩
        · skip
          replace hqs : h[qq]? = some (.inl 7) := hqs
          refine p_tswI (tgt := 48) k93_21 (by decide) (by decide) (by decide) rfl (by decide) ?_
          refine p_aload_n k93_48 rfl ?_
          refine p_getRv k93_49 (s_0 S) f_11_14_11 (r_0_0 S) ?_
          refine p_getRv k93_52 (s_1 S) f_11_111_3 (r_1_5 S) ?_
          refine p_iload_n k93_55 rfl ?_
          refine p_aaldNj k93_56 (s_5 S) xaty_2 (by omega) (by decide) hKq ?_
          refine p_iload_n k93_57 rfl ?_
          refine p_cV1i k93_58 hqs c_11_310_7 rfl (Nat.le_of_ble_eq_true rfl) (C_act31_7 S (I := (s1 I 36 1 (nI 0))) (q := qq) (i := a) (v := R0 103 a) (r := 0) hqs e5 f1 f2 rfl (by omega) hq6 hq7 x) (fun x1 m1 hq => ?_)
          obtain ⟨rfl, rfl⟩ := hq
          refine p_ireturn k93_61 rt_93 ?_
          exact ⟨rfl, _, rfl, hT.1, hT.2, fun c h1 h2 => (ncs_at _ _ _ _ h1 h2).trans (upc_ne _ _ h1)⟩
      · skip
        have hE : actM R0 na (nI a) (nI 1) x = ((daA kk a (R0 103 a) x).1, nts (s1 R0 98 72 (nI 0)) 0 (daA kk a (R0 103 a) x).2) := by
          unfold actM
          rw [if_neg (by rw [cq15, hin]; decide), hca, hkc]
          unfold actA
          rw [if_neg (show ¬ nI 1 = 0 by decide), if_pos (show nI 1 = nI 1 from rfl)]
        rw [hE]
        have hT := nts_tr (daA kk a (R0 103 a) x).2 (s1 I 36 1 (nI 0)) (s1 R0 98 72 (nI 0)) 0 rfl htr2
        rw [← aD_da hk7] at hT ⊢
        rcases (show kk = 0 ∨ kk = 1 ∨ kk = 2 ∨ kk = 3 ∨ kk = 4 ∨ kk = 5 ∨ kk = 6 by omega) with rfl | rfl | rfl | rfl | rfl | rfl | rfl
        · skip
          replace hqs : h[qq]? = some (.inl 2) := hqs
          refine p_tswI (tgt := 62) k93_21 (by decide) (by decide) (by decide) rfl (by decide) ?_
          refine p_aload_n k93_62 rfl ?_
          refine p_getRv k93_63 (s_0 S) f_11_14_11 (r_0_0 S) ?_
          refine p_getRv k93_66 (s_1 S) f_11_111_3 (r_1_5 S) ?_
          refine p_iload_n k93_69 rfl ?_
          refine p_aaldNj k93_70 (s_5 S) xaty_2 (by omega) (by decide) hKq ?_
          refine p_iload_n k93_71 rfl ?_
          refine p_cV1i k93_72 hqs c_11_313_2 rfl (Nat.le_of_ble_eq_true rfl) (C_act9_2 S (I := (s1 I 36 1 (nI 0))) (q := qq) (i := a) (v := R0 103 a) (r := 0) hqs e5 f1 f2 rfl (by omega) hq6 hq7 x) (fun x1 m1 hq => ?_)
          obtain ⟨rfl, rfl⟩ := hq
          refine p_ireturn k93_75 rt_93 ?_
          exact ⟨rfl, _, rfl, hT.1, hT.2, fun c h1 h2 => (ncs_at _ _ _ _ h1 h2).trans (upc_ne _ _ h1)⟩
        · skip
          replace hqs : h[qq]? = some (.inl 6) := hqs
          refine p_tswI (tgt := 62) k93_21 (by decide) (by decide) (by decide) rfl (by decide) ?_
          refine p_aload_n k93_62 rfl ?_
          refine p_getRv k93_63 (s_0 S) f_11_14_11 (r_0_0 S) ?_
          refine p_getRv k93_66 (s_1 S) f_11_111_3 (r_1_5 S) ?_
          refine p_iload_n k93_69 rfl ?_
          refine p_aaldNj k93_70 (s_5 S) xaty_2 (by omega) (by decide) hKq ?_
          refine p_iload_n k93_71 rfl ?_
          refine p_cV1i k93_72 hqs c_11_313_6 rfl (Nat.le_of_ble_eq_true rfl) (C_act27_6 S (I := (s1 I 36 1 (nI 0))) (q := qq) (i := a) (v := R0 103 a) (r := 0) hqs e5 f1 f2 rfl (by omega) hq6 hq7 x) (fun x1 m1 hq => ?_)
          obtain ⟨rfl, rfl⟩ := hq
          refine p_ireturn k93_75 rt_93 ?_
          exact ⟨rfl, _, rfl, hT.1, hT.2, fun c h1 h2 => (ncs_at _ _ _ _ h1 h2).trans (upc_ne _ _ h1)⟩
        · skip
          replace hqs : h[qq]? = some (.inl 10) := hqs
          refine p_tswI (tgt := 62) k93_21 (by decide) (by decide) (by decide) rfl (by decide) ?_
          refine p_aload_n k93_62 rfl ?_
          refine p_getRv k93_63 (s_0 S) f_11_14_11 (r_0_0 S) ?_
          refine p_getRv k93_66 (s_1 S) f_11_111_3 (r_1_5 S) ?_
          refine p_iload_n k93_69 rfl ?_
          refine p_aaldNj k93_70 (s_5 S) xaty_2 (by omega) (by decide) hKq ?_
          refine p_iload_n k93_71 rfl ?_
          refine p_cV1i k93_72 hqs c_11_313_10 rfl (Nat.le_of_ble_eq_true rfl) (C_act9_10 S (I := (s1 I 36 1 (nI 0))) (q := qq) (i := a) (v := R0 103 a) (r := 0) hqs e5 f1 f2 rfl (by omega) hq6 hq7 x) (fun x1 m1 hq => ?_)
          obtain ⟨rfl, rfl⟩ := hq
          refine p_ireturn k93_75 rt_93 ?_
          exact ⟨rfl, _, rfl, hT.1, hT.2, fun c h1 h2 => (ncs_at _ _ _ _ h1 h2).trans (upc_ne _ _ h1)⟩
        · skip
          replace hqs : h[qq]? = some (.inl 0) := hqs
          refine p_tswI (tgt := 62) k93_21 (by decide) (by decide) (by decide) rfl (by decide) ?_
          refine p_aload_n k93_62 rfl ?_
          refine p_getRv k93_63 (s_0 S) f_11_14_11 (r_0_0 S) ?_
          refine p_getRv k93_66 (s_1 S) f_11_111_3 (r_1_5 S) ?_
          refine p_iload_n k93_69 rfl ?_
          refine p_aaldNj k93_70 (s_5 S) xaty_2 (by omega) (by decide) hKq ?_
          refine p_iload_n k93_71 rfl ?_
          refine p_cV1i k93_72 hqs c_11_313_0 rfl (Nat.le_of_ble_eq_true rfl) (C_act9_0 S (I := (s1 I 36 1 (nI 0))) (q := qq) (i := a) (v := R0 103 a) (r := 0) hqs e5 f1 f2 rfl (by omega) hq6 hq7 x) (fun x1 m1 hq => ?_)
          obtain ⟨rfl, rfl⟩ := hq
          refine p_ireturn k93_75 rt_93 ?_
          exact ⟨rfl, _, rfl, hT.1, hT.2, fun c h1 h2 => (ncs_at _ _ _ _ h1 h2).trans (upc_ne _ _ h1)⟩
        · skip
          replace hqs : h[qq]? = some (.inl 4) := hqs
          refine p_tswI (tgt := 62) k93_21 (by decide) (by decide) (by decide) rfl (by decide) ?_
          refine p_aload_n k93_62 rfl ?_
          refine p_getRv k93_63 (s_0 S) f_11_14_11 (r_0_0 S) ?_
          refine p_getRv k93_66 (s_1 S) f_11_111_3 (r_1_5 S) ?_
          refine p_iload_n k93_69 rfl ?_
          refine p_aaldNj k93_70 (s_5 S) xaty_2 (by omega) (by decide) hKq ?_
          refine p_iload_n k93_71 rfl ?_
          refine p_cV1i k93_72 hqs c_11_313_4 rfl (Nat.le_of_ble_eq_true rfl) (C_act20_4 S (I := (s1 I 36 1 (nI 0))) (q := qq) (i := a) (v := R0 103 a) (r := 0) hqs e5 f1 f2 rfl (by omega) hq6 hq7 x) (fun x1 m1 hq => ?_)
          obtain ⟨rfl, rfl⟩ := hq
          refine p_ireturn k93_75 rt_93 ?_
          exact ⟨rfl, _, rfl, hT.1, hT.2, fun c h1 h2 => (ncs_at _ _ _ _ h1 h2).trans (upc_ne _ _ h1)⟩
        · skip
          replace hqs : h[qq]? = some (.inl 1) := hqs
          refine p_tswI (tgt := 62) k93_21 (by decide) (by decide) (by decide) rfl (by decide) ?_
          refine p_aload_n k93_62 rfl ?_
          refine p_getRv k93_63 (s_0 S) f_11_14_11 (r_0_0 S) ?_
          refine p_getRv k93_66 (s_1 S) f_11_111_3 (r_1_5 S) ?_
          refine p_iload_n k93_69 rfl ?_
          refine p_aaldNj k93_70 (s_5 S) xaty_2 (by omega) (by decide) hKq ?_
          refine p_iload_n k93_71 rfl ?_
          refine p_cV1i k93_72 hqs c_11_313_1 rfl (Nat.le_of_ble_eq_true rfl) (C_act9_1 S (I := (s1 I 36 1 (nI 0))) (q := qq) (i := a) (v := R0 103 a) (r := 0) hqs e5 f1 f2 rfl (by omega) hq6 hq7 x) (fun x1 m1 hq => ?_)
          obtain ⟨rfl, rfl⟩ := hq
          refine p_ireturn k93_75 rt_93 ?_
          exact ⟨rfl, _, rfl, hT.1, hT.2, fun c h1 h2 => (ncs_at _ _ _ _ h1 h2).trans (upc_ne _ _ h1)⟩
        · skip
          replace hqs : h[qq]? = some (.inl 7) := hqs
          refine p_tswI (tgt := 62) k93_21 (by decide) (by decide) (by decide) rfl (by decide) ?_
          refine p_aload_n k93_62 rfl ?_
          refine p_getRv k93_63 (s_0 S) f_11_14_11 (r_0_0 S) ?_
          refine p_getRv k93_66 (s_1 S) f_11_111_3 (r_1_5 S) ?_
          refine p_iload_n k93_69 rfl ?_
          refine p_aaldNj k93_70 (s_5 S) xaty_2 (by omega) (by decide) hKq ?_
          refine p_iload_n k93_71 rfl ?_
          refine p_cV1i k93_72 hqs c_11_313_7 rfl (Nat.le_of_ble_eq_true rfl) (C_act30_7 S (I := (s1 I 36 1 (nI 0))) (q := qq) (i := a) (v := R0 103 a) (r := 0) hqs e5 f1 f2 rfl (by omega) hq6 hq7 x) (fun x1 m1 hq => ?_)
          obtain ⟨rfl, rfl⟩ := hq
          refine p_ireturn k93_75 rt_93 ?_
          exact ⟨rfl, _, rfl, hT.1, hT.2, fun c h1 h2 => (ncs_at _ _ _ _ h1 h2).trans (upc_ne _ _ h1)⟩
      · skip
        have hE : actM R0 na (nI a) (nI 2) x = ((taA kk a (R0 103 a) x).1, nts (s1 R0 98 72 (nI 0)) 0 (taA kk a (R0 103 a) x).2) := by
          unfold actM
          rw [if_neg (by rw [cq15, hin]; decide), hca, hkc]
          unfold actA
          rw [if_neg (show ¬ nI 2 = 0 by decide), if_neg (show ¬ nI 2 = nI 1 by decide)]
        rw [hE]
        have hT := nts_tr (taA kk a (R0 103 a) x).2 (s1 I 36 1 (nI 0)) (s1 R0 98 72 (nI 0)) 0 rfl htr2
        rw [← aT_ta hk7] at hT ⊢
        rcases (show kk = 0 ∨ kk = 1 ∨ kk = 2 ∨ kk = 3 ∨ kk = 4 ∨ kk = 5 ∨ kk = 6 by omega) with rfl | rfl | rfl | rfl | rfl | rfl | rfl
        · skip
          replace hqs : h[qq]? = some (.inl 2) := hqs
          refine p_tswI (tgt := 76) k93_21 (by decide) (by decide) (by decide) rfl (by decide) ?_
          refine p_aload_n k93_76 rfl ?_
          refine p_getRv k93_77 (s_0 S) f_11_14_11 (r_0_0 S) ?_
          refine p_getRv k93_80 (s_1 S) f_11_111_3 (r_1_5 S) ?_
          refine p_iload_n k93_83 rfl ?_
          refine p_aaldNj k93_84 (s_5 S) xaty_2 (by omega) (by decide) hKq ?_
          refine p_iload_n k93_85 rfl ?_
          refine p_cV1i k93_86 hqs c_11_316_2 rfl (Nat.le_of_ble_eq_true rfl) (C_act10_2 S (I := (s1 I 36 1 (nI 0))) (q := qq) (i := a) (v := R0 103 a) (r := 0) hqs e5 f1 f2 rfl (by omega) hq6 hq7 x) (fun x1 m1 hq => ?_)
          obtain ⟨rfl, rfl⟩ := hq
          refine p_ireturn k93_89 rt_93 ?_
          exact ⟨rfl, _, rfl, hT.1, hT.2, fun c h1 h2 => (ncs_at _ _ _ _ h1 h2).trans (upc_ne _ _ h1)⟩
        · skip
          replace hqs : h[qq]? = some (.inl 6) := hqs
          refine p_tswI (tgt := 76) k93_21 (by decide) (by decide) (by decide) rfl (by decide) ?_
          refine p_aload_n k93_76 rfl ?_
          refine p_getRv k93_77 (s_0 S) f_11_14_11 (r_0_0 S) ?_
          refine p_getRv k93_80 (s_1 S) f_11_111_3 (r_1_5 S) ?_
          refine p_iload_n k93_83 rfl ?_
          refine p_aaldNj k93_84 (s_5 S) xaty_2 (by omega) (by decide) hKq ?_
          refine p_iload_n k93_85 rfl ?_
          refine p_cV1i k93_86 hqs c_11_316_6 rfl (Nat.le_of_ble_eq_true rfl) (C_act10_6 S (I := (s1 I 36 1 (nI 0))) (q := qq) (i := a) (v := R0 103 a) (r := 0) hqs e5 f1 f2 rfl (by omega) hq6 hq7 x) (fun x1 m1 hq => ?_)
          obtain ⟨rfl, rfl⟩ := hq
          refine p_ireturn k93_89 rt_93 ?_
          exact ⟨rfl, _, rfl, hT.1, hT.2, fun c h1 h2 => (ncs_at _ _ _ _ h1 h2).trans (upc_ne _ _ h1)⟩
        · skip
          replace hqs : h[qq]? = some (.inl 10) := hqs
          refine p_tswI (tgt := 76) k93_21 (by decide) (by decide) (by decide) rfl (by decide) ?_
          refine p_aload_n k93_76 rfl ?_
          refine p_getRv k93_77 (s_0 S) f_11_14_11 (r_0_0 S) ?_
          refine p_getRv k93_80 (s_1 S) f_11_111_3 (r_1_5 S) ?_
          refine p_iload_n k93_83 rfl ?_
          refine p_aaldNj k93_84 (s_5 S) xaty_2 (by omega) (by decide) hKq ?_
          refine p_iload_n k93_85 rfl ?_
          refine p_cV1i k93_86 hqs c_11_316_10 rfl (Nat.le_of_ble_eq_true rfl) (C_act10_10 S (I := (s1 I 36 1 (nI 0))) (q := qq) (i := a) (v := R0 103 a) (r := 0) hqs e5 f1 f2 rfl (by omega) hq6 hq7 x) (fun x1 m1 hq => ?_)
          obtain ⟨rfl, rfl⟩ := hq
          refine p_ireturn k93_89 rt_93 ?_
          exact ⟨rfl, _, rfl, hT.1, hT.2, fun c h1 h2 => (ncs_at _ _ _ _ h1 h2).trans (upc_ne _ _ h1)⟩
        · skip
          replace hqs : h[qq]? = some (.inl 0) := hqs
          refine p_tswI (tgt := 76) k93_21 (by decide) (by decide) (by decide) rfl (by decide) ?_
          refine p_aload_n k93_76 rfl ?_
          refine p_getRv k93_77 (s_0 S) f_11_14_11 (r_0_0 S) ?_
          refine p_getRv k93_80 (s_1 S) f_11_111_3 (r_1_5 S) ?_
          refine p_iload_n k93_83 rfl ?_
          refine p_aaldNj k93_84 (s_5 S) xaty_2 (by omega) (by decide) hKq ?_
          refine p_iload_n k93_85 rfl ?_
          refine p_cV1i k93_86 hqs c_11_316_0 rfl (Nat.le_of_ble_eq_true rfl) (C_act2_0 S (I := (s1 I 36 1 (nI 0))) (q := qq) (i := a) (v := R0 103 a) (r := 0) hqs e5 f1 f2 rfl (by omega) hq6 hq7 x) (fun x1 m1 hq => ?_)
          obtain ⟨rfl, rfl⟩ := hq
          refine p_ireturn k93_89 rt_93 ?_
          exact ⟨rfl, _, rfl, hT.1, hT.2, fun c h1 h2 => (ncs_at _ _ _ _ h1 h2).trans (upc_ne _ _ h1)⟩
        · skip
          replace hqs : h[qq]? = some (.inl 4) := hqs
          refine p_tswI (tgt := 76) k93_21 (by decide) (by decide) (by decide) rfl (by decide) ?_
          refine p_aload_n k93_76 rfl ?_
          refine p_getRv k93_77 (s_0 S) f_11_14_11 (r_0_0 S) ?_
          refine p_getRv k93_80 (s_1 S) f_11_111_3 (r_1_5 S) ?_
          refine p_iload_n k93_83 rfl ?_
          refine p_aaldNj k93_84 (s_5 S) xaty_2 (by omega) (by decide) hKq ?_
          refine p_iload_n k93_85 rfl ?_
          refine p_cV1i k93_86 hqs c_11_316_4 rfl (Nat.le_of_ble_eq_true rfl) (C_act10_4 S (I := (s1 I 36 1 (nI 0))) (q := qq) (i := a) (v := R0 103 a) (r := 0) hqs e5 f1 f2 rfl (by omega) hq6 hq7 x) (fun x1 m1 hq => ?_)
          obtain ⟨rfl, rfl⟩ := hq
          refine p_ireturn k93_89 rt_93 ?_
          exact ⟨rfl, _, rfl, hT.1, hT.2, fun c h1 h2 => (ncs_at _ _ _ _ h1 h2).trans (upc_ne _ _ h1)⟩
        · skip
          replace hqs : h[qq]? = some (.inl 1) := hqs
          refine p_tswI (tgt := 76) k93_21 (by decide) (by decide) (by decide) rfl (by decide) ?_
          refine p_aload_n k93_76 rfl ?_
          refine p_getRv k93_77 (s_0 S) f_11_14_11 (r_0_0 S) ?_
          refine p_getRv k93_80 (s_1 S) f_11_111_3 (r_1_5 S) ?_
          refine p_iload_n k93_83 rfl ?_
          refine p_aaldNj k93_84 (s_5 S) xaty_2 (by omega) (by decide) hKq ?_
          refine p_iload_n k93_85 rfl ?_
          refine p_cV1i k93_86 hqs c_11_316_1 rfl (Nat.le_of_ble_eq_true rfl) (C_act5_1 S (I := (s1 I 36 1 (nI 0))) (q := qq) (i := a) (v := R0 103 a) (r := 0) hqs e5 f1 f2 rfl (by omega) hq6 hq7 x) (fun x1 m1 hq => ?_)
          obtain ⟨rfl, rfl⟩ := hq
          refine p_ireturn k93_89 rt_93 ?_
          exact ⟨rfl, _, rfl, hT.1, hT.2, fun c h1 h2 => (ncs_at _ _ _ _ h1 h2).trans (upc_ne _ _ h1)⟩
        · skip
          replace hqs : h[qq]? = some (.inl 7) := hqs
          refine p_tswI (tgt := 76) k93_21 (by decide) (by decide) (by decide) rfl (by decide) ?_
          refine p_aload_n k93_76 rfl ?_
          refine p_getRv k93_77 (s_0 S) f_11_14_11 (r_0_0 S) ?_
          refine p_getRv k93_80 (s_1 S) f_11_111_3 (r_1_5 S) ?_
          refine p_iload_n k93_83 rfl ?_
          refine p_aaldNj k93_84 (s_5 S) xaty_2 (by omega) (by decide) hKq ?_
          refine p_iload_n k93_85 rfl ?_
          refine p_cV1i k93_86 hqs c_11_316_7 rfl (Nat.le_of_ble_eq_true rfl) (C_act2_7 S (I := (s1 I 36 1 (nI 0))) (q := qq) (i := a) (v := R0 103 a) (r := 0) hqs e5 f1 f2 rfl (by omega) hq6 hq7 x) (fun x1 m1 hq => ?_)
          obtain ⟨rfl, rfl⟩ := hq
          refine p_ireturn k93_89 rt_93 ?_
          exact ⟨rfl, _, rfl, hT.1, hT.2, fun c h1 h2 => (ncs_at _ _ _ _ h1 h2).trans (upc_ne _ _ h1)⟩
    · skip
      have hE : actM R0 na (nI a) w x = (nI 0, s1 R0 98 72 (nI 0)) := by unfold actM; rw [if_pos (Or.inr (by rw [ixB_in0 (by decide)]; exact Bool.eq_false_iff.mpr hw3))]
      rw [hE]
      refine p_tableOut (tgt := 90) k93_21 (by have z := ixB_out hw3; omega) (by decide) ?_
      refine p_iconst (v := nI 0) k93_90 (by decide) ?_
      refine p_ireturn k93_91 rt_93 ?_
      exact ⟨rfl, _, rfl, rfl, htr2, fun c h1 h2 => upc_ne _ _ h1⟩
  · skip
    refine p_iconst (v := nI 0) k93_18 (by decide) ?_
    refine p_ireturn k93_19 rt_93 ?_
    rw [show actM R0 na v w x = (nI 0, s1 R0 98 72 (nI 0)) from by unfold actM; rw [if_pos (Or.inl cq15)]]
    exact ⟨rfl, _, rfl, rfl, htr2, fun c h1 h2 => upc_ne _ _ h1⟩

set_option maxRecDepth 100000 in
set_option maxHeartbeats 4000000 in
theorem C_kind_2_0 {d : Nat} {I : Nat → Nat → Int32} {J : Nat → Nat → Int64} {K : Nat → Nat → Option Nat} {h : List xSh} (S : St K h) {q : Nat} (hq : h[q]? = some (.inl 2)) : EvP d 108 0 [(0, .ref (q)), (1, .int (nI (0)))] [] (I, J, K, h) (QI (fun x t => x = bI true ∧ t = (I, J, K, h))) := by
  refine p_iload_n k108_0 rfl ?_
  refine p_tswO (tgt := 70) k108_1 (by decide) (by decide) (by decide) ?_
  refine p_iconst (v := bI true) k108_70 (by decide) ?_
  refine p_returnB k108_71 rt_108 ?_
  exact ⟨rfl, rfl⟩

set_option maxRecDepth 100000 in
set_option maxHeartbeats 4000000 in
theorem C_kind_2_1 {d : Nat} {I : Nat → Nat → Int32} {J : Nat → Nat → Int64} {K : Nat → Nat → Option Nat} {h : List xSh} (S : St K h) {q : Nat} (hq : h[q]? = some (.inl 2)) : EvP d 108 0 [(0, .ref (q)), (1, .int (nI (1)))] [] (I, J, K, h) (QI (fun x t => x = bI false ∧ t = (I, J, K, h))) := by
  refine p_iload_n k108_0 rfl ?_
  refine p_tswI (tgt := 40) k108_1 (by decide) (by decide) (by decide) rfl (by decide) ?_
  refine p_aload_n k108_40 rfl ?_
  refine p_inst0 (ti := 6) k108_41 hq (by decide) (by decide) ?_
  refine p_zreturn k108_44 rt_108 (by decide) ?_
  exact ⟨rfl, rfl⟩

set_option maxRecDepth 100000 in
set_option maxHeartbeats 4000000 in
theorem C_kind_2_2 {d : Nat} {I : Nat → Nat → Int32} {J : Nat → Nat → Int64} {K : Nat → Nat → Option Nat} {h : List xSh} (S : St K h) {q : Nat} (hq : h[q]? = some (.inl 2)) : EvP d 108 0 [(0, .ref (q)), (1, .int (nI (2)))] [] (I, J, K, h) (QI (fun x t => x = bI false ∧ t = (I, J, K, h))) := by
  refine p_iload_n k108_0 rfl ?_
  refine p_tswI (tgt := 45) k108_1 (by decide) (by decide) (by decide) rfl (by decide) ?_
  refine p_aload_n k108_45 rfl ?_
  refine p_inst0 (ti := 10) k108_46 hq (by decide) (by decide) ?_
  refine p_zreturn k108_49 rt_108 (by decide) ?_
  exact ⟨rfl, rfl⟩

set_option maxRecDepth 100000 in
set_option maxHeartbeats 4000000 in
theorem C_kind_2_3 {d : Nat} {I : Nat → Nat → Int32} {J : Nat → Nat → Int64} {K : Nat → Nat → Option Nat} {h : List xSh} (S : St K h) {q : Nat} (hq : h[q]? = some (.inl 2)) : EvP d 108 0 [(0, .ref (q)), (1, .int (nI (3)))] [] (I, J, K, h) (QI (fun x t => x = bI false ∧ t = (I, J, K, h))) := by
  refine p_iload_n k108_0 rfl ?_
  refine p_tswI (tgt := 50) k108_1 (by decide) (by decide) (by decide) rfl (by decide) ?_
  refine p_aload_n k108_50 rfl ?_
  refine p_inst0 (ti := 0) k108_51 hq (by decide) (by decide) ?_
  refine p_zreturn k108_54 rt_108 (by decide) ?_
  exact ⟨rfl, rfl⟩

set_option maxRecDepth 100000 in
set_option maxHeartbeats 4000000 in
theorem C_kind_2_4 {d : Nat} {I : Nat → Nat → Int32} {J : Nat → Nat → Int64} {K : Nat → Nat → Option Nat} {h : List xSh} (S : St K h) {q : Nat} (hq : h[q]? = some (.inl 2)) : EvP d 108 0 [(0, .ref (q)), (1, .int (nI (4)))] [] (I, J, K, h) (QI (fun x t => x = bI false ∧ t = (I, J, K, h))) := by
  refine p_iload_n k108_0 rfl ?_
  refine p_tswI (tgt := 55) k108_1 (by decide) (by decide) (by decide) rfl (by decide) ?_
  refine p_aload_n k108_55 rfl ?_
  refine p_inst0 (ti := 4) k108_56 hq (by decide) (by decide) ?_
  refine p_zreturn k108_59 rt_108 (by decide) ?_
  exact ⟨rfl, rfl⟩

set_option maxRecDepth 100000 in
set_option maxHeartbeats 4000000 in
theorem C_kind_2_5 {d : Nat} {I : Nat → Nat → Int32} {J : Nat → Nat → Int64} {K : Nat → Nat → Option Nat} {h : List xSh} (S : St K h) {q : Nat} (hq : h[q]? = some (.inl 2)) : EvP d 108 0 [(0, .ref (q)), (1, .int (nI (5)))] [] (I, J, K, h) (QI (fun x t => x = bI false ∧ t = (I, J, K, h))) := by
  refine p_iload_n k108_0 rfl ?_
  refine p_tswI (tgt := 60) k108_1 (by decide) (by decide) (by decide) rfl (by decide) ?_
  refine p_aload_n k108_60 rfl ?_
  refine p_inst0 (ti := 1) k108_61 hq (by decide) (by decide) ?_
  refine p_zreturn k108_64 rt_108 (by decide) ?_
  exact ⟨rfl, rfl⟩

set_option maxRecDepth 100000 in
set_option maxHeartbeats 4000000 in
theorem C_kind_2_6 {d : Nat} {I : Nat → Nat → Int32} {J : Nat → Nat → Int64} {K : Nat → Nat → Option Nat} {h : List xSh} (S : St K h) {q : Nat} (hq : h[q]? = some (.inl 2)) : EvP d 108 0 [(0, .ref (q)), (1, .int (nI (6)))] [] (I, J, K, h) (QI (fun x t => x = bI false ∧ t = (I, J, K, h))) := by
  refine p_iload_n k108_0 rfl ?_
  refine p_tswI (tgt := 65) k108_1 (by decide) (by decide) (by decide) rfl (by decide) ?_
  refine p_aload_n k108_65 rfl ?_
  refine p_inst0 (ti := 7) k108_66 hq (by decide) (by decide) ?_
  refine p_zreturn k108_69 rt_108 (by decide) ?_
  exact ⟨rfl, rfl⟩

set_option maxRecDepth 100000 in
set_option maxHeartbeats 4000000 in
theorem C_kind_6_0 {d : Nat} {I : Nat → Nat → Int32} {J : Nat → Nat → Int64} {K : Nat → Nat → Option Nat} {h : List xSh} (S : St K h) {q : Nat} (hq : h[q]? = some (.inl 6)) : EvP d 108 0 [(0, .ref (q)), (1, .int (nI (0)))] [] (I, J, K, h) (QI (fun x t => x = bI true ∧ t = (I, J, K, h))) := by
  refine p_iload_n k108_0 rfl ?_
  refine p_tswO (tgt := 70) k108_1 (by decide) (by decide) (by decide) ?_
  refine p_iconst (v := bI true) k108_70 (by decide) ?_
  refine p_returnB k108_71 rt_108 ?_
  exact ⟨rfl, rfl⟩

set_option maxRecDepth 100000 in
set_option maxHeartbeats 4000000 in
theorem C_kind_6_1 {d : Nat} {I : Nat → Nat → Int32} {J : Nat → Nat → Int64} {K : Nat → Nat → Option Nat} {h : List xSh} (S : St K h) {q : Nat} (hq : h[q]? = some (.inl 6)) : EvP d 108 0 [(0, .ref (q)), (1, .int (nI (1)))] [] (I, J, K, h) (QI (fun x t => x = bI true ∧ t = (I, J, K, h))) := by
  refine p_iload_n k108_0 rfl ?_
  refine p_tswI (tgt := 40) k108_1 (by decide) (by decide) (by decide) rfl (by decide) ?_
  refine p_aload_n k108_40 rfl ?_
  refine p_inst1 (ti := 6) k108_41 hq (by decide) (by decide) ?_
  refine p_zreturn k108_44 rt_108 (by decide) ?_
  exact ⟨rfl, rfl⟩

set_option maxRecDepth 100000 in
set_option maxHeartbeats 4000000 in
theorem C_kind_6_2 {d : Nat} {I : Nat → Nat → Int32} {J : Nat → Nat → Int64} {K : Nat → Nat → Option Nat} {h : List xSh} (S : St K h) {q : Nat} (hq : h[q]? = some (.inl 6)) : EvP d 108 0 [(0, .ref (q)), (1, .int (nI (2)))] [] (I, J, K, h) (QI (fun x t => x = bI false ∧ t = (I, J, K, h))) := by
  refine p_iload_n k108_0 rfl ?_
  refine p_tswI (tgt := 45) k108_1 (by decide) (by decide) (by decide) rfl (by decide) ?_
  refine p_aload_n k108_45 rfl ?_
  refine p_inst0 (ti := 10) k108_46 hq (by decide) (by decide) ?_
  refine p_zreturn k108_49 rt_108 (by decide) ?_
  exact ⟨rfl, rfl⟩

set_option maxRecDepth 100000 in
set_option maxHeartbeats 4000000 in
theorem C_kind_6_3 {d : Nat} {I : Nat → Nat → Int32} {J : Nat → Nat → Int64} {K : Nat → Nat → Option Nat} {h : List xSh} (S : St K h) {q : Nat} (hq : h[q]? = some (.inl 6)) : EvP d 108 0 [(0, .ref (q)), (1, .int (nI (3)))] [] (I, J, K, h) (QI (fun x t => x = bI false ∧ t = (I, J, K, h))) := by
  refine p_iload_n k108_0 rfl ?_
  refine p_tswI (tgt := 50) k108_1 (by decide) (by decide) (by decide) rfl (by decide) ?_
  refine p_aload_n k108_50 rfl ?_
  refine p_inst0 (ti := 0) k108_51 hq (by decide) (by decide) ?_
  refine p_zreturn k108_54 rt_108 (by decide) ?_
  exact ⟨rfl, rfl⟩

set_option maxRecDepth 100000 in
set_option maxHeartbeats 4000000 in
theorem C_kind_6_4 {d : Nat} {I : Nat → Nat → Int32} {J : Nat → Nat → Int64} {K : Nat → Nat → Option Nat} {h : List xSh} (S : St K h) {q : Nat} (hq : h[q]? = some (.inl 6)) : EvP d 108 0 [(0, .ref (q)), (1, .int (nI (4)))] [] (I, J, K, h) (QI (fun x t => x = bI false ∧ t = (I, J, K, h))) := by
  refine p_iload_n k108_0 rfl ?_
  refine p_tswI (tgt := 55) k108_1 (by decide) (by decide) (by decide) rfl (by decide) ?_
  refine p_aload_n k108_55 rfl ?_
  refine p_inst0 (ti := 4) k108_56 hq (by decide) (by decide) ?_
  refine p_zreturn k108_59 rt_108 (by decide) ?_
  exact ⟨rfl, rfl⟩

set_option maxRecDepth 100000 in
set_option maxHeartbeats 4000000 in
theorem C_kind_6_5 {d : Nat} {I : Nat → Nat → Int32} {J : Nat → Nat → Int64} {K : Nat → Nat → Option Nat} {h : List xSh} (S : St K h) {q : Nat} (hq : h[q]? = some (.inl 6)) : EvP d 108 0 [(0, .ref (q)), (1, .int (nI (5)))] [] (I, J, K, h) (QI (fun x t => x = bI false ∧ t = (I, J, K, h))) := by
  refine p_iload_n k108_0 rfl ?_
  refine p_tswI (tgt := 60) k108_1 (by decide) (by decide) (by decide) rfl (by decide) ?_
  refine p_aload_n k108_60 rfl ?_
  refine p_inst0 (ti := 1) k108_61 hq (by decide) (by decide) ?_
  refine p_zreturn k108_64 rt_108 (by decide) ?_
  exact ⟨rfl, rfl⟩

set_option maxRecDepth 100000 in
set_option maxHeartbeats 4000000 in
theorem C_kind_6_6 {d : Nat} {I : Nat → Nat → Int32} {J : Nat → Nat → Int64} {K : Nat → Nat → Option Nat} {h : List xSh} (S : St K h) {q : Nat} (hq : h[q]? = some (.inl 6)) : EvP d 108 0 [(0, .ref (q)), (1, .int (nI (6)))] [] (I, J, K, h) (QI (fun x t => x = bI false ∧ t = (I, J, K, h))) := by
  refine p_iload_n k108_0 rfl ?_
  refine p_tswI (tgt := 65) k108_1 (by decide) (by decide) (by decide) rfl (by decide) ?_
  refine p_aload_n k108_65 rfl ?_
  refine p_inst0 (ti := 7) k108_66 hq (by decide) (by decide) ?_
  refine p_zreturn k108_69 rt_108 (by decide) ?_
  exact ⟨rfl, rfl⟩

set_option maxRecDepth 100000 in
set_option maxHeartbeats 4000000 in
theorem C_kind_10_0 {d : Nat} {I : Nat → Nat → Int32} {J : Nat → Nat → Int64} {K : Nat → Nat → Option Nat} {h : List xSh} (S : St K h) {q : Nat} (hq : h[q]? = some (.inl 10)) : EvP d 108 0 [(0, .ref (q)), (1, .int (nI (0)))] [] (I, J, K, h) (QI (fun x t => x = bI true ∧ t = (I, J, K, h))) := by
  refine p_iload_n k108_0 rfl ?_
  refine p_tswO (tgt := 70) k108_1 (by decide) (by decide) (by decide) ?_
  refine p_iconst (v := bI true) k108_70 (by decide) ?_
  refine p_returnB k108_71 rt_108 ?_
  exact ⟨rfl, rfl⟩

set_option maxRecDepth 100000 in
set_option maxHeartbeats 4000000 in
theorem C_kind_10_1 {d : Nat} {I : Nat → Nat → Int32} {J : Nat → Nat → Int64} {K : Nat → Nat → Option Nat} {h : List xSh} (S : St K h) {q : Nat} (hq : h[q]? = some (.inl 10)) : EvP d 108 0 [(0, .ref (q)), (1, .int (nI (1)))] [] (I, J, K, h) (QI (fun x t => x = bI false ∧ t = (I, J, K, h))) := by
  refine p_iload_n k108_0 rfl ?_
  refine p_tswI (tgt := 40) k108_1 (by decide) (by decide) (by decide) rfl (by decide) ?_
  refine p_aload_n k108_40 rfl ?_
  refine p_inst0 (ti := 6) k108_41 hq (by decide) (by decide) ?_
  refine p_zreturn k108_44 rt_108 (by decide) ?_
  exact ⟨rfl, rfl⟩

set_option maxRecDepth 100000 in
set_option maxHeartbeats 4000000 in
theorem C_kind_10_2 {d : Nat} {I : Nat → Nat → Int32} {J : Nat → Nat → Int64} {K : Nat → Nat → Option Nat} {h : List xSh} (S : St K h) {q : Nat} (hq : h[q]? = some (.inl 10)) : EvP d 108 0 [(0, .ref (q)), (1, .int (nI (2)))] [] (I, J, K, h) (QI (fun x t => x = bI true ∧ t = (I, J, K, h))) := by
  refine p_iload_n k108_0 rfl ?_
  refine p_tswI (tgt := 45) k108_1 (by decide) (by decide) (by decide) rfl (by decide) ?_
  refine p_aload_n k108_45 rfl ?_
  refine p_inst1 (ti := 10) k108_46 hq (by decide) (by decide) ?_
  refine p_zreturn k108_49 rt_108 (by decide) ?_
  exact ⟨rfl, rfl⟩

set_option maxRecDepth 100000 in
set_option maxHeartbeats 4000000 in
theorem C_kind_10_3 {d : Nat} {I : Nat → Nat → Int32} {J : Nat → Nat → Int64} {K : Nat → Nat → Option Nat} {h : List xSh} (S : St K h) {q : Nat} (hq : h[q]? = some (.inl 10)) : EvP d 108 0 [(0, .ref (q)), (1, .int (nI (3)))] [] (I, J, K, h) (QI (fun x t => x = bI false ∧ t = (I, J, K, h))) := by
  refine p_iload_n k108_0 rfl ?_
  refine p_tswI (tgt := 50) k108_1 (by decide) (by decide) (by decide) rfl (by decide) ?_
  refine p_aload_n k108_50 rfl ?_
  refine p_inst0 (ti := 0) k108_51 hq (by decide) (by decide) ?_
  refine p_zreturn k108_54 rt_108 (by decide) ?_
  exact ⟨rfl, rfl⟩

set_option maxRecDepth 100000 in
set_option maxHeartbeats 4000000 in
theorem C_kind_10_4 {d : Nat} {I : Nat → Nat → Int32} {J : Nat → Nat → Int64} {K : Nat → Nat → Option Nat} {h : List xSh} (S : St K h) {q : Nat} (hq : h[q]? = some (.inl 10)) : EvP d 108 0 [(0, .ref (q)), (1, .int (nI (4)))] [] (I, J, K, h) (QI (fun x t => x = bI false ∧ t = (I, J, K, h))) := by
  refine p_iload_n k108_0 rfl ?_
  refine p_tswI (tgt := 55) k108_1 (by decide) (by decide) (by decide) rfl (by decide) ?_
  refine p_aload_n k108_55 rfl ?_
  refine p_inst0 (ti := 4) k108_56 hq (by decide) (by decide) ?_
  refine p_zreturn k108_59 rt_108 (by decide) ?_
  exact ⟨rfl, rfl⟩

set_option maxRecDepth 100000 in
set_option maxHeartbeats 4000000 in
theorem C_kind_10_5 {d : Nat} {I : Nat → Nat → Int32} {J : Nat → Nat → Int64} {K : Nat → Nat → Option Nat} {h : List xSh} (S : St K h) {q : Nat} (hq : h[q]? = some (.inl 10)) : EvP d 108 0 [(0, .ref (q)), (1, .int (nI (5)))] [] (I, J, K, h) (QI (fun x t => x = bI false ∧ t = (I, J, K, h))) := by
  refine p_iload_n k108_0 rfl ?_
  refine p_tswI (tgt := 60) k108_1 (by decide) (by decide) (by decide) rfl (by decide) ?_
  refine p_aload_n k108_60 rfl ?_
  refine p_inst0 (ti := 1) k108_61 hq (by decide) (by decide) ?_
  refine p_zreturn k108_64 rt_108 (by decide) ?_
  exact ⟨rfl, rfl⟩

set_option maxRecDepth 100000 in
set_option maxHeartbeats 4000000 in
theorem C_kind_10_6 {d : Nat} {I : Nat → Nat → Int32} {J : Nat → Nat → Int64} {K : Nat → Nat → Option Nat} {h : List xSh} (S : St K h) {q : Nat} (hq : h[q]? = some (.inl 10)) : EvP d 108 0 [(0, .ref (q)), (1, .int (nI (6)))] [] (I, J, K, h) (QI (fun x t => x = bI false ∧ t = (I, J, K, h))) := by
  refine p_iload_n k108_0 rfl ?_
  refine p_tswI (tgt := 65) k108_1 (by decide) (by decide) (by decide) rfl (by decide) ?_
  refine p_aload_n k108_65 rfl ?_
  refine p_inst0 (ti := 7) k108_66 hq (by decide) (by decide) ?_
  refine p_zreturn k108_69 rt_108 (by decide) ?_
  exact ⟨rfl, rfl⟩

set_option maxRecDepth 100000 in
set_option maxHeartbeats 4000000 in
theorem C_kind_0_0 {d : Nat} {I : Nat → Nat → Int32} {J : Nat → Nat → Int64} {K : Nat → Nat → Option Nat} {h : List xSh} (S : St K h) {q : Nat} (hq : h[q]? = some (.inl 0)) : EvP d 108 0 [(0, .ref (q)), (1, .int (nI (0)))] [] (I, J, K, h) (QI (fun x t => x = bI true ∧ t = (I, J, K, h))) := by
  refine p_iload_n k108_0 rfl ?_
  refine p_tswO (tgt := 70) k108_1 (by decide) (by decide) (by decide) ?_
  refine p_iconst (v := bI true) k108_70 (by decide) ?_
  refine p_returnB k108_71 rt_108 ?_
  exact ⟨rfl, rfl⟩

set_option maxRecDepth 100000 in
set_option maxHeartbeats 4000000 in
theorem C_kind_0_1 {d : Nat} {I : Nat → Nat → Int32} {J : Nat → Nat → Int64} {K : Nat → Nat → Option Nat} {h : List xSh} (S : St K h) {q : Nat} (hq : h[q]? = some (.inl 0)) : EvP d 108 0 [(0, .ref (q)), (1, .int (nI (1)))] [] (I, J, K, h) (QI (fun x t => x = bI false ∧ t = (I, J, K, h))) := by
  refine p_iload_n k108_0 rfl ?_
  refine p_tswI (tgt := 40) k108_1 (by decide) (by decide) (by decide) rfl (by decide) ?_
  refine p_aload_n k108_40 rfl ?_
  refine p_inst0 (ti := 6) k108_41 hq (by decide) (by decide) ?_
  refine p_zreturn k108_44 rt_108 (by decide) ?_
  exact ⟨rfl, rfl⟩

set_option maxRecDepth 100000 in
set_option maxHeartbeats 4000000 in
theorem C_kind_0_2 {d : Nat} {I : Nat → Nat → Int32} {J : Nat → Nat → Int64} {K : Nat → Nat → Option Nat} {h : List xSh} (S : St K h) {q : Nat} (hq : h[q]? = some (.inl 0)) : EvP d 108 0 [(0, .ref (q)), (1, .int (nI (2)))] [] (I, J, K, h) (QI (fun x t => x = bI false ∧ t = (I, J, K, h))) := by
  refine p_iload_n k108_0 rfl ?_
  refine p_tswI (tgt := 45) k108_1 (by decide) (by decide) (by decide) rfl (by decide) ?_
  refine p_aload_n k108_45 rfl ?_
  refine p_inst0 (ti := 10) k108_46 hq (by decide) (by decide) ?_
  refine p_zreturn k108_49 rt_108 (by decide) ?_
  exact ⟨rfl, rfl⟩

set_option maxRecDepth 100000 in
set_option maxHeartbeats 4000000 in
theorem C_kind_0_3 {d : Nat} {I : Nat → Nat → Int32} {J : Nat → Nat → Int64} {K : Nat → Nat → Option Nat} {h : List xSh} (S : St K h) {q : Nat} (hq : h[q]? = some (.inl 0)) : EvP d 108 0 [(0, .ref (q)), (1, .int (nI (3)))] [] (I, J, K, h) (QI (fun x t => x = bI true ∧ t = (I, J, K, h))) := by
  refine p_iload_n k108_0 rfl ?_
  refine p_tswI (tgt := 50) k108_1 (by decide) (by decide) (by decide) rfl (by decide) ?_
  refine p_aload_n k108_50 rfl ?_
  refine p_inst1 (ti := 0) k108_51 hq (by decide) (by decide) ?_
  refine p_zreturn k108_54 rt_108 (by decide) ?_
  exact ⟨rfl, rfl⟩

set_option maxRecDepth 100000 in
set_option maxHeartbeats 4000000 in
theorem C_kind_0_4 {d : Nat} {I : Nat → Nat → Int32} {J : Nat → Nat → Int64} {K : Nat → Nat → Option Nat} {h : List xSh} (S : St K h) {q : Nat} (hq : h[q]? = some (.inl 0)) : EvP d 108 0 [(0, .ref (q)), (1, .int (nI (4)))] [] (I, J, K, h) (QI (fun x t => x = bI false ∧ t = (I, J, K, h))) := by
  refine p_iload_n k108_0 rfl ?_
  refine p_tswI (tgt := 55) k108_1 (by decide) (by decide) (by decide) rfl (by decide) ?_
  refine p_aload_n k108_55 rfl ?_
  refine p_inst0 (ti := 4) k108_56 hq (by decide) (by decide) ?_
  refine p_zreturn k108_59 rt_108 (by decide) ?_
  exact ⟨rfl, rfl⟩

set_option maxRecDepth 100000 in
set_option maxHeartbeats 4000000 in
theorem C_kind_0_5 {d : Nat} {I : Nat → Nat → Int32} {J : Nat → Nat → Int64} {K : Nat → Nat → Option Nat} {h : List xSh} (S : St K h) {q : Nat} (hq : h[q]? = some (.inl 0)) : EvP d 108 0 [(0, .ref (q)), (1, .int (nI (5)))] [] (I, J, K, h) (QI (fun x t => x = bI false ∧ t = (I, J, K, h))) := by
  refine p_iload_n k108_0 rfl ?_
  refine p_tswI (tgt := 60) k108_1 (by decide) (by decide) (by decide) rfl (by decide) ?_
  refine p_aload_n k108_60 rfl ?_
  refine p_inst0 (ti := 1) k108_61 hq (by decide) (by decide) ?_
  refine p_zreturn k108_64 rt_108 (by decide) ?_
  exact ⟨rfl, rfl⟩

set_option maxRecDepth 100000 in
set_option maxHeartbeats 4000000 in
theorem C_kind_0_6 {d : Nat} {I : Nat → Nat → Int32} {J : Nat → Nat → Int64} {K : Nat → Nat → Option Nat} {h : List xSh} (S : St K h) {q : Nat} (hq : h[q]? = some (.inl 0)) : EvP d 108 0 [(0, .ref (q)), (1, .int (nI (6)))] [] (I, J, K, h) (QI (fun x t => x = bI false ∧ t = (I, J, K, h))) := by
  refine p_iload_n k108_0 rfl ?_
  refine p_tswI (tgt := 65) k108_1 (by decide) (by decide) (by decide) rfl (by decide) ?_
  refine p_aload_n k108_65 rfl ?_
  refine p_inst0 (ti := 7) k108_66 hq (by decide) (by decide) ?_
  refine p_zreturn k108_69 rt_108 (by decide) ?_
  exact ⟨rfl, rfl⟩

set_option maxRecDepth 100000 in
set_option maxHeartbeats 4000000 in
theorem C_kind_4_0 {d : Nat} {I : Nat → Nat → Int32} {J : Nat → Nat → Int64} {K : Nat → Nat → Option Nat} {h : List xSh} (S : St K h) {q : Nat} (hq : h[q]? = some (.inl 4)) : EvP d 108 0 [(0, .ref (q)), (1, .int (nI (0)))] [] (I, J, K, h) (QI (fun x t => x = bI true ∧ t = (I, J, K, h))) := by
  refine p_iload_n k108_0 rfl ?_
  refine p_tswO (tgt := 70) k108_1 (by decide) (by decide) (by decide) ?_
  refine p_iconst (v := bI true) k108_70 (by decide) ?_
  refine p_returnB k108_71 rt_108 ?_
  exact ⟨rfl, rfl⟩

set_option maxRecDepth 100000 in
set_option maxHeartbeats 4000000 in
theorem C_kind_4_1 {d : Nat} {I : Nat → Nat → Int32} {J : Nat → Nat → Int64} {K : Nat → Nat → Option Nat} {h : List xSh} (S : St K h) {q : Nat} (hq : h[q]? = some (.inl 4)) : EvP d 108 0 [(0, .ref (q)), (1, .int (nI (1)))] [] (I, J, K, h) (QI (fun x t => x = bI true ∧ t = (I, J, K, h))) := by
  refine p_iload_n k108_0 rfl ?_
  refine p_tswI (tgt := 40) k108_1 (by decide) (by decide) (by decide) rfl (by decide) ?_
  refine p_aload_n k108_40 rfl ?_
  refine p_inst1 (ti := 6) k108_41 hq (by decide) (by decide) ?_
  refine p_zreturn k108_44 rt_108 (by decide) ?_
  exact ⟨rfl, rfl⟩

set_option maxRecDepth 100000 in
set_option maxHeartbeats 4000000 in
theorem C_kind_4_2 {d : Nat} {I : Nat → Nat → Int32} {J : Nat → Nat → Int64} {K : Nat → Nat → Option Nat} {h : List xSh} (S : St K h) {q : Nat} (hq : h[q]? = some (.inl 4)) : EvP d 108 0 [(0, .ref (q)), (1, .int (nI (2)))] [] (I, J, K, h) (QI (fun x t => x = bI false ∧ t = (I, J, K, h))) := by
  refine p_iload_n k108_0 rfl ?_
  refine p_tswI (tgt := 45) k108_1 (by decide) (by decide) (by decide) rfl (by decide) ?_
  refine p_aload_n k108_45 rfl ?_
  refine p_inst0 (ti := 10) k108_46 hq (by decide) (by decide) ?_
  refine p_zreturn k108_49 rt_108 (by decide) ?_
  exact ⟨rfl, rfl⟩

set_option maxRecDepth 100000 in
set_option maxHeartbeats 4000000 in
theorem C_kind_4_3 {d : Nat} {I : Nat → Nat → Int32} {J : Nat → Nat → Int64} {K : Nat → Nat → Option Nat} {h : List xSh} (S : St K h) {q : Nat} (hq : h[q]? = some (.inl 4)) : EvP d 108 0 [(0, .ref (q)), (1, .int (nI (3)))] [] (I, J, K, h) (QI (fun x t => x = bI false ∧ t = (I, J, K, h))) := by
  refine p_iload_n k108_0 rfl ?_
  refine p_tswI (tgt := 50) k108_1 (by decide) (by decide) (by decide) rfl (by decide) ?_
  refine p_aload_n k108_50 rfl ?_
  refine p_inst0 (ti := 0) k108_51 hq (by decide) (by decide) ?_
  refine p_zreturn k108_54 rt_108 (by decide) ?_
  exact ⟨rfl, rfl⟩

set_option maxRecDepth 100000 in
set_option maxHeartbeats 4000000 in
theorem C_kind_4_4 {d : Nat} {I : Nat → Nat → Int32} {J : Nat → Nat → Int64} {K : Nat → Nat → Option Nat} {h : List xSh} (S : St K h) {q : Nat} (hq : h[q]? = some (.inl 4)) : EvP d 108 0 [(0, .ref (q)), (1, .int (nI (4)))] [] (I, J, K, h) (QI (fun x t => x = bI true ∧ t = (I, J, K, h))) := by
  refine p_iload_n k108_0 rfl ?_
  refine p_tswI (tgt := 55) k108_1 (by decide) (by decide) (by decide) rfl (by decide) ?_
  refine p_aload_n k108_55 rfl ?_
  refine p_inst1 (ti := 4) k108_56 hq (by decide) (by decide) ?_
  refine p_zreturn k108_59 rt_108 (by decide) ?_
  exact ⟨rfl, rfl⟩

set_option maxRecDepth 100000 in
set_option maxHeartbeats 4000000 in
theorem C_kind_4_5 {d : Nat} {I : Nat → Nat → Int32} {J : Nat → Nat → Int64} {K : Nat → Nat → Option Nat} {h : List xSh} (S : St K h) {q : Nat} (hq : h[q]? = some (.inl 4)) : EvP d 108 0 [(0, .ref (q)), (1, .int (nI (5)))] [] (I, J, K, h) (QI (fun x t => x = bI false ∧ t = (I, J, K, h))) := by
  refine p_iload_n k108_0 rfl ?_
  refine p_tswI (tgt := 60) k108_1 (by decide) (by decide) (by decide) rfl (by decide) ?_
  refine p_aload_n k108_60 rfl ?_
  refine p_inst0 (ti := 1) k108_61 hq (by decide) (by decide) ?_
  refine p_zreturn k108_64 rt_108 (by decide) ?_
  exact ⟨rfl, rfl⟩

set_option maxRecDepth 100000 in
set_option maxHeartbeats 4000000 in
theorem C_kind_4_6 {d : Nat} {I : Nat → Nat → Int32} {J : Nat → Nat → Int64} {K : Nat → Nat → Option Nat} {h : List xSh} (S : St K h) {q : Nat} (hq : h[q]? = some (.inl 4)) : EvP d 108 0 [(0, .ref (q)), (1, .int (nI (6)))] [] (I, J, K, h) (QI (fun x t => x = bI false ∧ t = (I, J, K, h))) := by
  refine p_iload_n k108_0 rfl ?_
  refine p_tswI (tgt := 65) k108_1 (by decide) (by decide) (by decide) rfl (by decide) ?_
  refine p_aload_n k108_65 rfl ?_
  refine p_inst0 (ti := 7) k108_66 hq (by decide) (by decide) ?_
  refine p_zreturn k108_69 rt_108 (by decide) ?_
  exact ⟨rfl, rfl⟩

set_option maxRecDepth 100000 in
set_option maxHeartbeats 4000000 in
theorem C_kind_1_0 {d : Nat} {I : Nat → Nat → Int32} {J : Nat → Nat → Int64} {K : Nat → Nat → Option Nat} {h : List xSh} (S : St K h) {q : Nat} (hq : h[q]? = some (.inl 1)) : EvP d 108 0 [(0, .ref (q)), (1, .int (nI (0)))] [] (I, J, K, h) (QI (fun x t => x = bI true ∧ t = (I, J, K, h))) := by
  refine p_iload_n k108_0 rfl ?_
  refine p_tswO (tgt := 70) k108_1 (by decide) (by decide) (by decide) ?_
  refine p_iconst (v := bI true) k108_70 (by decide) ?_
  refine p_returnB k108_71 rt_108 ?_
  exact ⟨rfl, rfl⟩

set_option maxRecDepth 100000 in
set_option maxHeartbeats 4000000 in
theorem C_kind_1_1 {d : Nat} {I : Nat → Nat → Int32} {J : Nat → Nat → Int64} {K : Nat → Nat → Option Nat} {h : List xSh} (S : St K h) {q : Nat} (hq : h[q]? = some (.inl 1)) : EvP d 108 0 [(0, .ref (q)), (1, .int (nI (1)))] [] (I, J, K, h) (QI (fun x t => x = bI false ∧ t = (I, J, K, h))) := by
  refine p_iload_n k108_0 rfl ?_
  refine p_tswI (tgt := 40) k108_1 (by decide) (by decide) (by decide) rfl (by decide) ?_
  refine p_aload_n k108_40 rfl ?_
  refine p_inst0 (ti := 6) k108_41 hq (by decide) (by decide) ?_
  refine p_zreturn k108_44 rt_108 (by decide) ?_
  exact ⟨rfl, rfl⟩

set_option maxRecDepth 100000 in
set_option maxHeartbeats 4000000 in
theorem C_kind_1_2 {d : Nat} {I : Nat → Nat → Int32} {J : Nat → Nat → Int64} {K : Nat → Nat → Option Nat} {h : List xSh} (S : St K h) {q : Nat} (hq : h[q]? = some (.inl 1)) : EvP d 108 0 [(0, .ref (q)), (1, .int (nI (2)))] [] (I, J, K, h) (QI (fun x t => x = bI true ∧ t = (I, J, K, h))) := by
  refine p_iload_n k108_0 rfl ?_
  refine p_tswI (tgt := 45) k108_1 (by decide) (by decide) (by decide) rfl (by decide) ?_
  refine p_aload_n k108_45 rfl ?_
  refine p_inst1 (ti := 10) k108_46 hq (by decide) (by decide) ?_
  refine p_zreturn k108_49 rt_108 (by decide) ?_
  exact ⟨rfl, rfl⟩

set_option maxRecDepth 100000 in
set_option maxHeartbeats 4000000 in
theorem C_kind_1_3 {d : Nat} {I : Nat → Nat → Int32} {J : Nat → Nat → Int64} {K : Nat → Nat → Option Nat} {h : List xSh} (S : St K h) {q : Nat} (hq : h[q]? = some (.inl 1)) : EvP d 108 0 [(0, .ref (q)), (1, .int (nI (3)))] [] (I, J, K, h) (QI (fun x t => x = bI false ∧ t = (I, J, K, h))) := by
  refine p_iload_n k108_0 rfl ?_
  refine p_tswI (tgt := 50) k108_1 (by decide) (by decide) (by decide) rfl (by decide) ?_
  refine p_aload_n k108_50 rfl ?_
  refine p_inst0 (ti := 0) k108_51 hq (by decide) (by decide) ?_
  refine p_zreturn k108_54 rt_108 (by decide) ?_
  exact ⟨rfl, rfl⟩

set_option maxRecDepth 100000 in
set_option maxHeartbeats 4000000 in
theorem C_kind_1_4 {d : Nat} {I : Nat → Nat → Int32} {J : Nat → Nat → Int64} {K : Nat → Nat → Option Nat} {h : List xSh} (S : St K h) {q : Nat} (hq : h[q]? = some (.inl 1)) : EvP d 108 0 [(0, .ref (q)), (1, .int (nI (4)))] [] (I, J, K, h) (QI (fun x t => x = bI false ∧ t = (I, J, K, h))) := by
  refine p_iload_n k108_0 rfl ?_
  refine p_tswI (tgt := 55) k108_1 (by decide) (by decide) (by decide) rfl (by decide) ?_
  refine p_aload_n k108_55 rfl ?_
  refine p_inst0 (ti := 4) k108_56 hq (by decide) (by decide) ?_
  refine p_zreturn k108_59 rt_108 (by decide) ?_
  exact ⟨rfl, rfl⟩

set_option maxRecDepth 100000 in
set_option maxHeartbeats 4000000 in
theorem C_kind_1_5 {d : Nat} {I : Nat → Nat → Int32} {J : Nat → Nat → Int64} {K : Nat → Nat → Option Nat} {h : List xSh} (S : St K h) {q : Nat} (hq : h[q]? = some (.inl 1)) : EvP d 108 0 [(0, .ref (q)), (1, .int (nI (5)))] [] (I, J, K, h) (QI (fun x t => x = bI true ∧ t = (I, J, K, h))) := by
  refine p_iload_n k108_0 rfl ?_
  refine p_tswI (tgt := 60) k108_1 (by decide) (by decide) (by decide) rfl (by decide) ?_
  refine p_aload_n k108_60 rfl ?_
  refine p_inst1 (ti := 1) k108_61 hq (by decide) (by decide) ?_
  refine p_zreturn k108_64 rt_108 (by decide) ?_
  exact ⟨rfl, rfl⟩

set_option maxRecDepth 100000 in
set_option maxHeartbeats 4000000 in
theorem C_kind_1_6 {d : Nat} {I : Nat → Nat → Int32} {J : Nat → Nat → Int64} {K : Nat → Nat → Option Nat} {h : List xSh} (S : St K h) {q : Nat} (hq : h[q]? = some (.inl 1)) : EvP d 108 0 [(0, .ref (q)), (1, .int (nI (6)))] [] (I, J, K, h) (QI (fun x t => x = bI false ∧ t = (I, J, K, h))) := by
  refine p_iload_n k108_0 rfl ?_
  refine p_tswI (tgt := 65) k108_1 (by decide) (by decide) (by decide) rfl (by decide) ?_
  refine p_aload_n k108_65 rfl ?_
  refine p_inst0 (ti := 7) k108_66 hq (by decide) (by decide) ?_
  refine p_zreturn k108_69 rt_108 (by decide) ?_
  exact ⟨rfl, rfl⟩

set_option maxRecDepth 100000 in
set_option maxHeartbeats 4000000 in
theorem C_kind_7_0 {d : Nat} {I : Nat → Nat → Int32} {J : Nat → Nat → Int64} {K : Nat → Nat → Option Nat} {h : List xSh} (S : St K h) {q : Nat} (hq : h[q]? = some (.inl 7)) : EvP d 108 0 [(0, .ref (q)), (1, .int (nI (0)))] [] (I, J, K, h) (QI (fun x t => x = bI true ∧ t = (I, J, K, h))) := by
  refine p_iload_n k108_0 rfl ?_
  refine p_tswO (tgt := 70) k108_1 (by decide) (by decide) (by decide) ?_
  refine p_iconst (v := bI true) k108_70 (by decide) ?_
  refine p_returnB k108_71 rt_108 ?_
  exact ⟨rfl, rfl⟩

set_option maxRecDepth 100000 in
set_option maxHeartbeats 4000000 in
theorem C_kind_7_1 {d : Nat} {I : Nat → Nat → Int32} {J : Nat → Nat → Int64} {K : Nat → Nat → Option Nat} {h : List xSh} (S : St K h) {q : Nat} (hq : h[q]? = some (.inl 7)) : EvP d 108 0 [(0, .ref (q)), (1, .int (nI (1)))] [] (I, J, K, h) (QI (fun x t => x = bI false ∧ t = (I, J, K, h))) := by
  refine p_iload_n k108_0 rfl ?_
  refine p_tswI (tgt := 40) k108_1 (by decide) (by decide) (by decide) rfl (by decide) ?_
  refine p_aload_n k108_40 rfl ?_
  refine p_inst0 (ti := 6) k108_41 hq (by decide) (by decide) ?_
  refine p_zreturn k108_44 rt_108 (by decide) ?_
  exact ⟨rfl, rfl⟩

set_option maxRecDepth 100000 in
set_option maxHeartbeats 4000000 in
theorem C_kind_7_2 {d : Nat} {I : Nat → Nat → Int32} {J : Nat → Nat → Int64} {K : Nat → Nat → Option Nat} {h : List xSh} (S : St K h) {q : Nat} (hq : h[q]? = some (.inl 7)) : EvP d 108 0 [(0, .ref (q)), (1, .int (nI (2)))] [] (I, J, K, h) (QI (fun x t => x = bI false ∧ t = (I, J, K, h))) := by
  refine p_iload_n k108_0 rfl ?_
  refine p_tswI (tgt := 45) k108_1 (by decide) (by decide) (by decide) rfl (by decide) ?_
  refine p_aload_n k108_45 rfl ?_
  refine p_inst0 (ti := 10) k108_46 hq (by decide) (by decide) ?_
  refine p_zreturn k108_49 rt_108 (by decide) ?_
  exact ⟨rfl, rfl⟩

set_option maxRecDepth 100000 in
set_option maxHeartbeats 4000000 in
theorem C_kind_7_3 {d : Nat} {I : Nat → Nat → Int32} {J : Nat → Nat → Int64} {K : Nat → Nat → Option Nat} {h : List xSh} (S : St K h) {q : Nat} (hq : h[q]? = some (.inl 7)) : EvP d 108 0 [(0, .ref (q)), (1, .int (nI (3)))] [] (I, J, K, h) (QI (fun x t => x = bI true ∧ t = (I, J, K, h))) := by
  refine p_iload_n k108_0 rfl ?_
  refine p_tswI (tgt := 50) k108_1 (by decide) (by decide) (by decide) rfl (by decide) ?_
  refine p_aload_n k108_50 rfl ?_
  refine p_inst1 (ti := 0) k108_51 hq (by decide) (by decide) ?_
  refine p_zreturn k108_54 rt_108 (by decide) ?_
  exact ⟨rfl, rfl⟩

set_option maxRecDepth 100000 in
set_option maxHeartbeats 4000000 in
theorem C_kind_7_4 {d : Nat} {I : Nat → Nat → Int32} {J : Nat → Nat → Int64} {K : Nat → Nat → Option Nat} {h : List xSh} (S : St K h) {q : Nat} (hq : h[q]? = some (.inl 7)) : EvP d 108 0 [(0, .ref (q)), (1, .int (nI (4)))] [] (I, J, K, h) (QI (fun x t => x = bI false ∧ t = (I, J, K, h))) := by
  refine p_iload_n k108_0 rfl ?_
  refine p_tswI (tgt := 55) k108_1 (by decide) (by decide) (by decide) rfl (by decide) ?_
  refine p_aload_n k108_55 rfl ?_
  refine p_inst0 (ti := 4) k108_56 hq (by decide) (by decide) ?_
  refine p_zreturn k108_59 rt_108 (by decide) ?_
  exact ⟨rfl, rfl⟩

set_option maxRecDepth 100000 in
set_option maxHeartbeats 4000000 in
theorem C_kind_7_5 {d : Nat} {I : Nat → Nat → Int32} {J : Nat → Nat → Int64} {K : Nat → Nat → Option Nat} {h : List xSh} (S : St K h) {q : Nat} (hq : h[q]? = some (.inl 7)) : EvP d 108 0 [(0, .ref (q)), (1, .int (nI (5)))] [] (I, J, K, h) (QI (fun x t => x = bI false ∧ t = (I, J, K, h))) := by
  refine p_iload_n k108_0 rfl ?_
  refine p_tswI (tgt := 60) k108_1 (by decide) (by decide) (by decide) rfl (by decide) ?_
  refine p_aload_n k108_60 rfl ?_
  refine p_inst0 (ti := 1) k108_61 hq (by decide) (by decide) ?_
  refine p_zreturn k108_64 rt_108 (by decide) ?_
  exact ⟨rfl, rfl⟩

set_option maxRecDepth 100000 in
set_option maxHeartbeats 4000000 in
theorem C_kind_7_6 {d : Nat} {I : Nat → Nat → Int32} {J : Nat → Nat → Int64} {K : Nat → Nat → Option Nat} {h : List xSh} (S : St K h) {q : Nat} (hq : h[q]? = some (.inl 7)) : EvP d 108 0 [(0, .ref (q)), (1, .int (nI (6)))] [] (I, J, K, h) (QI (fun x t => x = bI true ∧ t = (I, J, K, h))) := by
  refine p_iload_n k108_0 rfl ?_
  refine p_tswI (tgt := 65) k108_1 (by decide) (by decide) (by decide) rfl (by decide) ?_
  refine p_aload_n k108_65 rfl ?_
  refine p_inst1 (ti := 7) k108_66 hq (by decide) (by decide) ?_
  refine p_zreturn k108_69 rt_108 (by decide) ?_
  exact ⟨rfl, rfl⟩

set_option maxRecDepth 100000 in
set_option maxHeartbeats 4000000 in
theorem C_taken {d : Nat} {I : Nat → Nat → Int32} {J : Nat → Nat → Int64} {K : Nat → Nat → Option Nat} {h : List xSh} (S : St K h) {R0 : Nat → Nat → Int32} {nh na dd cb ce tw : Nat} (C : CR I K h R0 na tw) (M : MI R0 nh na dd cb ce) (Q : AR R0 nh na dd) (v w : Int32) : EvP (d + 1) 95 0 [(0, .ref (0)), (1, .int (v)), (2, .int (w))] [] (I, J, K, h) (QI (fun x t => x = takM R0 na v w ∧ t = (I, J, K, h))) := by
  have hnh6 := M.nh6
  have hna6 := M.na6
  refine p_iload_n k95_0 rfl ?_
  refine p_iconst (v := nI 0) k95_1 (by decide) ?_
  refine p_bipush (v := nI 6) k95_2 (by decide) ?_
  refine p_cS3i k95_4 c_11_101 rfl rfl rfl (Nat.le_of_ble_eq_true rfl) (C_within S (w) (nI (0)) (nI (6))) (fun x1 m1 hq => ?_)
  obtain ⟨rfl, rfl⟩ := hq
  refine p_if_neB (tgt := 13) k95_7 (by decide) (fun cq7 => ?_) (fun cq7 => ?_)
  · skip
    refine p_aload_n k95_13 rfl ?_
    refine p_getRv k95_14 (s_0 S) f_11_14_11 (r_0_0 S) ?_
    refine p_iload_n k95_17 rfl ?_
    refine p_cV1i k95_18 (s_1 S) c_11_151_3 rfl (Nat.le_of_ble_eq_true rfl) (C_isHat S (n := na) (C.hats.trans M.na) hna6 (v)) (fun x1 m1 hq => ?_)
    obtain ⟨rfl, rfl⟩ := hq
    refine p_if_neB (tgt := 27) k95_21 (by decide) (fun cq21 => ?_) (fun cq21 => ?_)
    · skip
      obtain ⟨a, ha, rfl⟩ := ixB_of (n := na) (by omega) cq21
      have hca := nI_clamp (n := a) (by omega)
      obtain ⟨qq, kk, ⟨hKq, hq153⟩, ⟨hk7, hkR, hqs⟩, e0, e1, e2, e3, e4, e5⟩ := C.hat a ha
      obtain ⟨w9, hw9, rfl⟩ := inB_of0 (by decide) cq7
      rcases (show kk = 0 ∨ kk = 1 ∨ kk = 2 ∨ kk = 3 ∨ kk = 4 ∨ kk = 5 ∨ kk = 6 by omega) with rfl | rfl | rfl | rfl | rfl | rfl | rfl
      · skip
        replace hqs : h[qq]? = some (.inl 2) := hqs
        rcases (show w9 = 0 ∨ w9 = 1 ∨ w9 = 2 ∨ w9 = 3 ∨ w9 = 4 ∨ w9 = 5 ∨ w9 = 6 by omega) with rfl | rfl | rfl | rfl | rfl | rfl | rfl
        · skip
          refine p_aload_n k95_27 rfl ?_
          refine p_getRv k95_28 (s_0 S) f_11_14_11 (r_0_0 S) ?_
          refine p_getRv k95_31 (s_1 S) f_11_111_3 (r_1_5 S) ?_
          refine p_iload_n k95_34 rfl ?_
          refine p_aaldNj k95_35 (s_5 S) xaty_2 (by omega) (by decide) hKq ?_
          refine p_iload_n k95_36 rfl ?_
          refine p_cS2i k95_37 c_11_324 rfl rfl (Nat.le_of_ble_eq_true rfl) (C_kind_2_0 S hqs) (fun x1 m1 hq => ?_)
          obtain ⟨rfl, rfl⟩ := hq
          refine p_if_eqB (tgt := 58) k95_40 (by decide) (fun c => False.elim (by cases c)) (fun _ => ?_)
          refine p_aload_n k95_43 rfl ?_
          refine p_getRv k95_44 (s_0 S) f_11_14_11 (r_0_0 S) ?_
          refine p_getRv k95_47 (s_1 S) f_11_111_3 (r_1_5 S) ?_
          refine p_iload_n k95_50 rfl ?_
          refine p_aaldNj k95_51 (s_5 S) xaty_2 (by omega) (by decide) hKq ?_
          refine p_getIv k95_52 hqs f_11_154_2 e0 ?_
          refine p_goto (tgt := 60) k95_55 (by decide) ?_
          refine p_ireturn k95_60 rt_95 ?_
          exact ⟨by unfold takM; rw [if_neg (by decide), if_neg (by rw [cq21]; decide), hca, hkR, if_pos (by decide)], rfl⟩
        · skip
          refine p_aload_n k95_27 rfl ?_
          refine p_getRv k95_28 (s_0 S) f_11_14_11 (r_0_0 S) ?_
          refine p_getRv k95_31 (s_1 S) f_11_111_3 (r_1_5 S) ?_
          refine p_iload_n k95_34 rfl ?_
          refine p_aaldNj k95_35 (s_5 S) xaty_2 (by omega) (by decide) hKq ?_
          refine p_iload_n k95_36 rfl ?_
          refine p_cS2i k95_37 c_11_324 rfl rfl (Nat.le_of_ble_eq_true rfl) (C_kind_2_1 S hqs) (fun x1 m1 hq => ?_)
          obtain ⟨rfl, rfl⟩ := hq
          refine p_if_eqB (tgt := 58) k95_40 (by decide) (fun _ => ?_) (fun c => False.elim (by cases c))
          refine p_bipush (v := (-12)) k95_58 (by decide) ?_
          refine p_ireturn k95_60 rt_95 ?_
          exact ⟨by unfold takM; rw [if_neg (by decide), if_neg (by rw [cq21]; decide), hca, hkR, if_neg (by decide)], rfl⟩
        · skip
          refine p_aload_n k95_27 rfl ?_
          refine p_getRv k95_28 (s_0 S) f_11_14_11 (r_0_0 S) ?_
          refine p_getRv k95_31 (s_1 S) f_11_111_3 (r_1_5 S) ?_
          refine p_iload_n k95_34 rfl ?_
          refine p_aaldNj k95_35 (s_5 S) xaty_2 (by omega) (by decide) hKq ?_
          refine p_iload_n k95_36 rfl ?_
          refine p_cS2i k95_37 c_11_324 rfl rfl (Nat.le_of_ble_eq_true rfl) (C_kind_2_2 S hqs) (fun x1 m1 hq => ?_)
          obtain ⟨rfl, rfl⟩ := hq
          refine p_if_eqB (tgt := 58) k95_40 (by decide) (fun _ => ?_) (fun c => False.elim (by cases c))
          refine p_bipush (v := (-12)) k95_58 (by decide) ?_
          refine p_ireturn k95_60 rt_95 ?_
          exact ⟨by unfold takM; rw [if_neg (by decide), if_neg (by rw [cq21]; decide), hca, hkR, if_neg (by decide)], rfl⟩
        · skip
          refine p_aload_n k95_27 rfl ?_
          refine p_getRv k95_28 (s_0 S) f_11_14_11 (r_0_0 S) ?_
          refine p_getRv k95_31 (s_1 S) f_11_111_3 (r_1_5 S) ?_
          refine p_iload_n k95_34 rfl ?_
          refine p_aaldNj k95_35 (s_5 S) xaty_2 (by omega) (by decide) hKq ?_
          refine p_iload_n k95_36 rfl ?_
          refine p_cS2i k95_37 c_11_324 rfl rfl (Nat.le_of_ble_eq_true rfl) (C_kind_2_3 S hqs) (fun x1 m1 hq => ?_)
          obtain ⟨rfl, rfl⟩ := hq
          refine p_if_eqB (tgt := 58) k95_40 (by decide) (fun _ => ?_) (fun c => False.elim (by cases c))
          refine p_bipush (v := (-12)) k95_58 (by decide) ?_
          refine p_ireturn k95_60 rt_95 ?_
          exact ⟨by unfold takM; rw [if_neg (by decide), if_neg (by rw [cq21]; decide), hca, hkR, if_neg (by decide)], rfl⟩
        · skip
          refine p_aload_n k95_27 rfl ?_
          refine p_getRv k95_28 (s_0 S) f_11_14_11 (r_0_0 S) ?_
          refine p_getRv k95_31 (s_1 S) f_11_111_3 (r_1_5 S) ?_
          refine p_iload_n k95_34 rfl ?_
          refine p_aaldNj k95_35 (s_5 S) xaty_2 (by omega) (by decide) hKq ?_
          refine p_iload_n k95_36 rfl ?_
          refine p_cS2i k95_37 c_11_324 rfl rfl (Nat.le_of_ble_eq_true rfl) (C_kind_2_4 S hqs) (fun x1 m1 hq => ?_)
          obtain ⟨rfl, rfl⟩ := hq
          refine p_if_eqB (tgt := 58) k95_40 (by decide) (fun _ => ?_) (fun c => False.elim (by cases c))
          refine p_bipush (v := (-12)) k95_58 (by decide) ?_
          refine p_ireturn k95_60 rt_95 ?_
          exact ⟨by unfold takM; rw [if_neg (by decide), if_neg (by rw [cq21]; decide), hca, hkR, if_neg (by decide)], rfl⟩
        · skip
          refine p_aload_n k95_27 rfl ?_
          refine p_getRv k95_28 (s_0 S) f_11_14_11 (r_0_0 S) ?_
          refine p_getRv k95_31 (s_1 S) f_11_111_3 (r_1_5 S) ?_
          refine p_iload_n k95_34 rfl ?_
          refine p_aaldNj k95_35 (s_5 S) xaty_2 (by omega) (by decide) hKq ?_
          refine p_iload_n k95_36 rfl ?_
          refine p_cS2i k95_37 c_11_324 rfl rfl (Nat.le_of_ble_eq_true rfl) (C_kind_2_5 S hqs) (fun x1 m1 hq => ?_)
          obtain ⟨rfl, rfl⟩ := hq
          refine p_if_eqB (tgt := 58) k95_40 (by decide) (fun _ => ?_) (fun c => False.elim (by cases c))
          refine p_bipush (v := (-12)) k95_58 (by decide) ?_
          refine p_ireturn k95_60 rt_95 ?_
          exact ⟨by unfold takM; rw [if_neg (by decide), if_neg (by rw [cq21]; decide), hca, hkR, if_neg (by decide)], rfl⟩
        · skip
          refine p_aload_n k95_27 rfl ?_
          refine p_getRv k95_28 (s_0 S) f_11_14_11 (r_0_0 S) ?_
          refine p_getRv k95_31 (s_1 S) f_11_111_3 (r_1_5 S) ?_
          refine p_iload_n k95_34 rfl ?_
          refine p_aaldNj k95_35 (s_5 S) xaty_2 (by omega) (by decide) hKq ?_
          refine p_iload_n k95_36 rfl ?_
          refine p_cS2i k95_37 c_11_324 rfl rfl (Nat.le_of_ble_eq_true rfl) (C_kind_2_6 S hqs) (fun x1 m1 hq => ?_)
          obtain ⟨rfl, rfl⟩ := hq
          refine p_if_eqB (tgt := 58) k95_40 (by decide) (fun _ => ?_) (fun c => False.elim (by cases c))
          refine p_bipush (v := (-12)) k95_58 (by decide) ?_
          refine p_ireturn k95_60 rt_95 ?_
          exact ⟨by unfold takM; rw [if_neg (by decide), if_neg (by rw [cq21]; decide), hca, hkR, if_neg (by decide)], rfl⟩
      · skip
        replace hqs : h[qq]? = some (.inl 6) := hqs
        rcases (show w9 = 0 ∨ w9 = 1 ∨ w9 = 2 ∨ w9 = 3 ∨ w9 = 4 ∨ w9 = 5 ∨ w9 = 6 by omega) with rfl | rfl | rfl | rfl | rfl | rfl | rfl
        · skip
          refine p_aload_n k95_27 rfl ?_
          refine p_getRv k95_28 (s_0 S) f_11_14_11 (r_0_0 S) ?_
          refine p_getRv k95_31 (s_1 S) f_11_111_3 (r_1_5 S) ?_
          refine p_iload_n k95_34 rfl ?_
          refine p_aaldNj k95_35 (s_5 S) xaty_2 (by omega) (by decide) hKq ?_
          refine p_iload_n k95_36 rfl ?_
          refine p_cS2i k95_37 c_11_324 rfl rfl (Nat.le_of_ble_eq_true rfl) (C_kind_6_0 S hqs) (fun x1 m1 hq => ?_)
          obtain ⟨rfl, rfl⟩ := hq
          refine p_if_eqB (tgt := 58) k95_40 (by decide) (fun c => False.elim (by cases c)) (fun _ => ?_)
          refine p_aload_n k95_43 rfl ?_
          refine p_getRv k95_44 (s_0 S) f_11_14_11 (r_0_0 S) ?_
          refine p_getRv k95_47 (s_1 S) f_11_111_3 (r_1_5 S) ?_
          refine p_iload_n k95_50 rfl ?_
          refine p_aaldNj k95_51 (s_5 S) xaty_2 (by omega) (by decide) hKq ?_
          refine p_getIv k95_52 hqs f_11_154_6 e0 ?_
          refine p_goto (tgt := 60) k95_55 (by decide) ?_
          refine p_ireturn k95_60 rt_95 ?_
          exact ⟨by unfold takM; rw [if_neg (by decide), if_neg (by rw [cq21]; decide), hca, hkR, if_pos (by decide)], rfl⟩
        · skip
          refine p_aload_n k95_27 rfl ?_
          refine p_getRv k95_28 (s_0 S) f_11_14_11 (r_0_0 S) ?_
          refine p_getRv k95_31 (s_1 S) f_11_111_3 (r_1_5 S) ?_
          refine p_iload_n k95_34 rfl ?_
          refine p_aaldNj k95_35 (s_5 S) xaty_2 (by omega) (by decide) hKq ?_
          refine p_iload_n k95_36 rfl ?_
          refine p_cS2i k95_37 c_11_324 rfl rfl (Nat.le_of_ble_eq_true rfl) (C_kind_6_1 S hqs) (fun x1 m1 hq => ?_)
          obtain ⟨rfl, rfl⟩ := hq
          refine p_if_eqB (tgt := 58) k95_40 (by decide) (fun c => False.elim (by cases c)) (fun _ => ?_)
          refine p_aload_n k95_43 rfl ?_
          refine p_getRv k95_44 (s_0 S) f_11_14_11 (r_0_0 S) ?_
          refine p_getRv k95_47 (s_1 S) f_11_111_3 (r_1_5 S) ?_
          refine p_iload_n k95_50 rfl ?_
          refine p_aaldNj k95_51 (s_5 S) xaty_2 (by omega) (by decide) hKq ?_
          refine p_getIv k95_52 hqs f_11_154_6 e0 ?_
          refine p_goto (tgt := 60) k95_55 (by decide) ?_
          refine p_ireturn k95_60 rt_95 ?_
          exact ⟨by unfold takM; rw [if_neg (by decide), if_neg (by rw [cq21]; decide), hca, hkR, if_pos (by decide)], rfl⟩
        · skip
          refine p_aload_n k95_27 rfl ?_
          refine p_getRv k95_28 (s_0 S) f_11_14_11 (r_0_0 S) ?_
          refine p_getRv k95_31 (s_1 S) f_11_111_3 (r_1_5 S) ?_
          refine p_iload_n k95_34 rfl ?_
          refine p_aaldNj k95_35 (s_5 S) xaty_2 (by omega) (by decide) hKq ?_
          refine p_iload_n k95_36 rfl ?_
          refine p_cS2i k95_37 c_11_324 rfl rfl (Nat.le_of_ble_eq_true rfl) (C_kind_6_2 S hqs) (fun x1 m1 hq => ?_)
          obtain ⟨rfl, rfl⟩ := hq
          refine p_if_eqB (tgt := 58) k95_40 (by decide) (fun _ => ?_) (fun c => False.elim (by cases c))
          refine p_bipush (v := (-12)) k95_58 (by decide) ?_
          refine p_ireturn k95_60 rt_95 ?_
          exact ⟨by unfold takM; rw [if_neg (by decide), if_neg (by rw [cq21]; decide), hca, hkR, if_neg (by decide)], rfl⟩
        · skip
          refine p_aload_n k95_27 rfl ?_
          refine p_getRv k95_28 (s_0 S) f_11_14_11 (r_0_0 S) ?_
          refine p_getRv k95_31 (s_1 S) f_11_111_3 (r_1_5 S) ?_
          refine p_iload_n k95_34 rfl ?_
          refine p_aaldNj k95_35 (s_5 S) xaty_2 (by omega) (by decide) hKq ?_
          refine p_iload_n k95_36 rfl ?_
          refine p_cS2i k95_37 c_11_324 rfl rfl (Nat.le_of_ble_eq_true rfl) (C_kind_6_3 S hqs) (fun x1 m1 hq => ?_)
          obtain ⟨rfl, rfl⟩ := hq
          refine p_if_eqB (tgt := 58) k95_40 (by decide) (fun _ => ?_) (fun c => False.elim (by cases c))
          refine p_bipush (v := (-12)) k95_58 (by decide) ?_
          refine p_ireturn k95_60 rt_95 ?_
          exact ⟨by unfold takM; rw [if_neg (by decide), if_neg (by rw [cq21]; decide), hca, hkR, if_neg (by decide)], rfl⟩
        · skip
          refine p_aload_n k95_27 rfl ?_
          refine p_getRv k95_28 (s_0 S) f_11_14_11 (r_0_0 S) ?_
          refine p_getRv k95_31 (s_1 S) f_11_111_3 (r_1_5 S) ?_
          refine p_iload_n k95_34 rfl ?_
          refine p_aaldNj k95_35 (s_5 S) xaty_2 (by omega) (by decide) hKq ?_
          refine p_iload_n k95_36 rfl ?_
          refine p_cS2i k95_37 c_11_324 rfl rfl (Nat.le_of_ble_eq_true rfl) (C_kind_6_4 S hqs) (fun x1 m1 hq => ?_)
          obtain ⟨rfl, rfl⟩ := hq
          refine p_if_eqB (tgt := 58) k95_40 (by decide) (fun _ => ?_) (fun c => False.elim (by cases c))
          refine p_bipush (v := (-12)) k95_58 (by decide) ?_
          refine p_ireturn k95_60 rt_95 ?_
          exact ⟨by unfold takM; rw [if_neg (by decide), if_neg (by rw [cq21]; decide), hca, hkR, if_neg (by decide)], rfl⟩
        · skip
          refine p_aload_n k95_27 rfl ?_
          refine p_getRv k95_28 (s_0 S) f_11_14_11 (r_0_0 S) ?_
          refine p_getRv k95_31 (s_1 S) f_11_111_3 (r_1_5 S) ?_
          refine p_iload_n k95_34 rfl ?_
          refine p_aaldNj k95_35 (s_5 S) xaty_2 (by omega) (by decide) hKq ?_
          refine p_iload_n k95_36 rfl ?_
          refine p_cS2i k95_37 c_11_324 rfl rfl (Nat.le_of_ble_eq_true rfl) (C_kind_6_5 S hqs) (fun x1 m1 hq => ?_)
          obtain ⟨rfl, rfl⟩ := hq
          refine p_if_eqB (tgt := 58) k95_40 (by decide) (fun _ => ?_) (fun c => False.elim (by cases c))
          refine p_bipush (v := (-12)) k95_58 (by decide) ?_
          refine p_ireturn k95_60 rt_95 ?_
          exact ⟨by unfold takM; rw [if_neg (by decide), if_neg (by rw [cq21]; decide), hca, hkR, if_neg (by decide)], rfl⟩
        · skip
          refine p_aload_n k95_27 rfl ?_
          refine p_getRv k95_28 (s_0 S) f_11_14_11 (r_0_0 S) ?_
          refine p_getRv k95_31 (s_1 S) f_11_111_3 (r_1_5 S) ?_
          refine p_iload_n k95_34 rfl ?_
          refine p_aaldNj k95_35 (s_5 S) xaty_2 (by omega) (by decide) hKq ?_
          refine p_iload_n k95_36 rfl ?_
          refine p_cS2i k95_37 c_11_324 rfl rfl (Nat.le_of_ble_eq_true rfl) (C_kind_6_6 S hqs) (fun x1 m1 hq => ?_)
          obtain ⟨rfl, rfl⟩ := hq
          refine p_if_eqB (tgt := 58) k95_40 (by decide) (fun _ => ?_) (fun c => False.elim (by cases c))
          refine p_bipush (v := (-12)) k95_58 (by decide) ?_
          refine p_ireturn k95_60 rt_95 ?_
          exact ⟨by unfold takM; rw [if_neg (by decide), if_neg (by rw [cq21]; decide), hca, hkR, if_neg (by decide)], rfl⟩
      · skip
        replace hqs : h[qq]? = some (.inl 10) := hqs
        rcases (show w9 = 0 ∨ w9 = 1 ∨ w9 = 2 ∨ w9 = 3 ∨ w9 = 4 ∨ w9 = 5 ∨ w9 = 6 by omega) with rfl | rfl | rfl | rfl | rfl | rfl | rfl
        · skip
          refine p_aload_n k95_27 rfl ?_
          refine p_getRv k95_28 (s_0 S) f_11_14_11 (r_0_0 S) ?_
          refine p_getRv k95_31 (s_1 S) f_11_111_3 (r_1_5 S) ?_
          refine p_iload_n k95_34 rfl ?_
          refine p_aaldNj k95_35 (s_5 S) xaty_2 (by omega) (by decide) hKq ?_
          refine p_iload_n k95_36 rfl ?_
          refine p_cS2i k95_37 c_11_324 rfl rfl (Nat.le_of_ble_eq_true rfl) (C_kind_10_0 S hqs) (fun x1 m1 hq => ?_)
          obtain ⟨rfl, rfl⟩ := hq
          refine p_if_eqB (tgt := 58) k95_40 (by decide) (fun c => False.elim (by cases c)) (fun _ => ?_)
          refine p_aload_n k95_43 rfl ?_
          refine p_getRv k95_44 (s_0 S) f_11_14_11 (r_0_0 S) ?_
          refine p_getRv k95_47 (s_1 S) f_11_111_3 (r_1_5 S) ?_
          refine p_iload_n k95_50 rfl ?_
          refine p_aaldNj k95_51 (s_5 S) xaty_2 (by omega) (by decide) hKq ?_
          refine p_getIv k95_52 hqs f_11_154_10 e0 ?_
          refine p_goto (tgt := 60) k95_55 (by decide) ?_
          refine p_ireturn k95_60 rt_95 ?_
          exact ⟨by unfold takM; rw [if_neg (by decide), if_neg (by rw [cq21]; decide), hca, hkR, if_pos (by decide)], rfl⟩
        · skip
          refine p_aload_n k95_27 rfl ?_
          refine p_getRv k95_28 (s_0 S) f_11_14_11 (r_0_0 S) ?_
          refine p_getRv k95_31 (s_1 S) f_11_111_3 (r_1_5 S) ?_
          refine p_iload_n k95_34 rfl ?_
          refine p_aaldNj k95_35 (s_5 S) xaty_2 (by omega) (by decide) hKq ?_
          refine p_iload_n k95_36 rfl ?_
          refine p_cS2i k95_37 c_11_324 rfl rfl (Nat.le_of_ble_eq_true rfl) (C_kind_10_1 S hqs) (fun x1 m1 hq => ?_)
          obtain ⟨rfl, rfl⟩ := hq
          refine p_if_eqB (tgt := 58) k95_40 (by decide) (fun _ => ?_) (fun c => False.elim (by cases c))
          refine p_bipush (v := (-12)) k95_58 (by decide) ?_
          refine p_ireturn k95_60 rt_95 ?_
          exact ⟨by unfold takM; rw [if_neg (by decide), if_neg (by rw [cq21]; decide), hca, hkR, if_neg (by decide)], rfl⟩
        · skip
          refine p_aload_n k95_27 rfl ?_
          refine p_getRv k95_28 (s_0 S) f_11_14_11 (r_0_0 S) ?_
          refine p_getRv k95_31 (s_1 S) f_11_111_3 (r_1_5 S) ?_
          refine p_iload_n k95_34 rfl ?_
          refine p_aaldNj k95_35 (s_5 S) xaty_2 (by omega) (by decide) hKq ?_
          refine p_iload_n k95_36 rfl ?_
          refine p_cS2i k95_37 c_11_324 rfl rfl (Nat.le_of_ble_eq_true rfl) (C_kind_10_2 S hqs) (fun x1 m1 hq => ?_)
          obtain ⟨rfl, rfl⟩ := hq
          refine p_if_eqB (tgt := 58) k95_40 (by decide) (fun c => False.elim (by cases c)) (fun _ => ?_)
          refine p_aload_n k95_43 rfl ?_
          refine p_getRv k95_44 (s_0 S) f_11_14_11 (r_0_0 S) ?_
          refine p_getRv k95_47 (s_1 S) f_11_111_3 (r_1_5 S) ?_
          refine p_iload_n k95_50 rfl ?_
          refine p_aaldNj k95_51 (s_5 S) xaty_2 (by omega) (by decide) hKq ?_
          refine p_getIv k95_52 hqs f_11_154_10 e0 ?_
          refine p_goto (tgt := 60) k95_55 (by decide) ?_
          refine p_ireturn k95_60 rt_95 ?_
          exact ⟨by unfold takM; rw [if_neg (by decide), if_neg (by rw [cq21]; decide), hca, hkR, if_pos (by decide)], rfl⟩
        · skip
          refine p_aload_n k95_27 rfl ?_
          refine p_getRv k95_28 (s_0 S) f_11_14_11 (r_0_0 S) ?_
          refine p_getRv k95_31 (s_1 S) f_11_111_3 (r_1_5 S) ?_
          refine p_iload_n k95_34 rfl ?_
          refine p_aaldNj k95_35 (s_5 S) xaty_2 (by omega) (by decide) hKq ?_
          refine p_iload_n k95_36 rfl ?_
          refine p_cS2i k95_37 c_11_324 rfl rfl (Nat.le_of_ble_eq_true rfl) (C_kind_10_3 S hqs) (fun x1 m1 hq => ?_)
          obtain ⟨rfl, rfl⟩ := hq
          refine p_if_eqB (tgt := 58) k95_40 (by decide) (fun _ => ?_) (fun c => False.elim (by cases c))
          refine p_bipush (v := (-12)) k95_58 (by decide) ?_
          refine p_ireturn k95_60 rt_95 ?_
          exact ⟨by unfold takM; rw [if_neg (by decide), if_neg (by rw [cq21]; decide), hca, hkR, if_neg (by decide)], rfl⟩
        · skip
          refine p_aload_n k95_27 rfl ?_
          refine p_getRv k95_28 (s_0 S) f_11_14_11 (r_0_0 S) ?_
          refine p_getRv k95_31 (s_1 S) f_11_111_3 (r_1_5 S) ?_
          refine p_iload_n k95_34 rfl ?_
          refine p_aaldNj k95_35 (s_5 S) xaty_2 (by omega) (by decide) hKq ?_
          refine p_iload_n k95_36 rfl ?_
          refine p_cS2i k95_37 c_11_324 rfl rfl (Nat.le_of_ble_eq_true rfl) (C_kind_10_4 S hqs) (fun x1 m1 hq => ?_)
          obtain ⟨rfl, rfl⟩ := hq
          refine p_if_eqB (tgt := 58) k95_40 (by decide) (fun _ => ?_) (fun c => False.elim (by cases c))
          refine p_bipush (v := (-12)) k95_58 (by decide) ?_
          refine p_ireturn k95_60 rt_95 ?_
          exact ⟨by unfold takM; rw [if_neg (by decide), if_neg (by rw [cq21]; decide), hca, hkR, if_neg (by decide)], rfl⟩
        · skip
          refine p_aload_n k95_27 rfl ?_
          refine p_getRv k95_28 (s_0 S) f_11_14_11 (r_0_0 S) ?_
          refine p_getRv k95_31 (s_1 S) f_11_111_3 (r_1_5 S) ?_
          refine p_iload_n k95_34 rfl ?_
          refine p_aaldNj k95_35 (s_5 S) xaty_2 (by omega) (by decide) hKq ?_
          refine p_iload_n k95_36 rfl ?_
          refine p_cS2i k95_37 c_11_324 rfl rfl (Nat.le_of_ble_eq_true rfl) (C_kind_10_5 S hqs) (fun x1 m1 hq => ?_)
          obtain ⟨rfl, rfl⟩ := hq
          refine p_if_eqB (tgt := 58) k95_40 (by decide) (fun _ => ?_) (fun c => False.elim (by cases c))
          refine p_bipush (v := (-12)) k95_58 (by decide) ?_
          refine p_ireturn k95_60 rt_95 ?_
          exact ⟨by unfold takM; rw [if_neg (by decide), if_neg (by rw [cq21]; decide), hca, hkR, if_neg (by decide)], rfl⟩
        · skip
          refine p_aload_n k95_27 rfl ?_
          refine p_getRv k95_28 (s_0 S) f_11_14_11 (r_0_0 S) ?_
          refine p_getRv k95_31 (s_1 S) f_11_111_3 (r_1_5 S) ?_
          refine p_iload_n k95_34 rfl ?_
          refine p_aaldNj k95_35 (s_5 S) xaty_2 (by omega) (by decide) hKq ?_
          refine p_iload_n k95_36 rfl ?_
          refine p_cS2i k95_37 c_11_324 rfl rfl (Nat.le_of_ble_eq_true rfl) (C_kind_10_6 S hqs) (fun x1 m1 hq => ?_)
          obtain ⟨rfl, rfl⟩ := hq
          refine p_if_eqB (tgt := 58) k95_40 (by decide) (fun _ => ?_) (fun c => False.elim (by cases c))
          refine p_bipush (v := (-12)) k95_58 (by decide) ?_
          refine p_ireturn k95_60 rt_95 ?_
          exact ⟨by unfold takM; rw [if_neg (by decide), if_neg (by rw [cq21]; decide), hca, hkR, if_neg (by decide)], rfl⟩
      · skip
        replace hqs : h[qq]? = some (.inl 0) := hqs
        rcases (show w9 = 0 ∨ w9 = 1 ∨ w9 = 2 ∨ w9 = 3 ∨ w9 = 4 ∨ w9 = 5 ∨ w9 = 6 by omega) with rfl | rfl | rfl | rfl | rfl | rfl | rfl
        · skip
          refine p_aload_n k95_27 rfl ?_
          refine p_getRv k95_28 (s_0 S) f_11_14_11 (r_0_0 S) ?_
          refine p_getRv k95_31 (s_1 S) f_11_111_3 (r_1_5 S) ?_
          refine p_iload_n k95_34 rfl ?_
          refine p_aaldNj k95_35 (s_5 S) xaty_2 (by omega) (by decide) hKq ?_
          refine p_iload_n k95_36 rfl ?_
          refine p_cS2i k95_37 c_11_324 rfl rfl (Nat.le_of_ble_eq_true rfl) (C_kind_0_0 S hqs) (fun x1 m1 hq => ?_)
          obtain ⟨rfl, rfl⟩ := hq
          refine p_if_eqB (tgt := 58) k95_40 (by decide) (fun c => False.elim (by cases c)) (fun _ => ?_)
          refine p_aload_n k95_43 rfl ?_
          refine p_getRv k95_44 (s_0 S) f_11_14_11 (r_0_0 S) ?_
          refine p_getRv k95_47 (s_1 S) f_11_111_3 (r_1_5 S) ?_
          refine p_iload_n k95_50 rfl ?_
          refine p_aaldNj k95_51 (s_5 S) xaty_2 (by omega) (by decide) hKq ?_
          refine p_getIv k95_52 hqs f_11_154_0 e0 ?_
          refine p_goto (tgt := 60) k95_55 (by decide) ?_
          refine p_ireturn k95_60 rt_95 ?_
          exact ⟨by unfold takM; rw [if_neg (by decide), if_neg (by rw [cq21]; decide), hca, hkR, if_pos (by decide)], rfl⟩
        · skip
          refine p_aload_n k95_27 rfl ?_
          refine p_getRv k95_28 (s_0 S) f_11_14_11 (r_0_0 S) ?_
          refine p_getRv k95_31 (s_1 S) f_11_111_3 (r_1_5 S) ?_
          refine p_iload_n k95_34 rfl ?_
          refine p_aaldNj k95_35 (s_5 S) xaty_2 (by omega) (by decide) hKq ?_
          refine p_iload_n k95_36 rfl ?_
          refine p_cS2i k95_37 c_11_324 rfl rfl (Nat.le_of_ble_eq_true rfl) (C_kind_0_1 S hqs) (fun x1 m1 hq => ?_)
          obtain ⟨rfl, rfl⟩ := hq
          refine p_if_eqB (tgt := 58) k95_40 (by decide) (fun _ => ?_) (fun c => False.elim (by cases c))
          refine p_bipush (v := (-12)) k95_58 (by decide) ?_
          refine p_ireturn k95_60 rt_95 ?_
          exact ⟨by unfold takM; rw [if_neg (by decide), if_neg (by rw [cq21]; decide), hca, hkR, if_neg (by decide)], rfl⟩
        · skip
          refine p_aload_n k95_27 rfl ?_
          refine p_getRv k95_28 (s_0 S) f_11_14_11 (r_0_0 S) ?_
          refine p_getRv k95_31 (s_1 S) f_11_111_3 (r_1_5 S) ?_
          refine p_iload_n k95_34 rfl ?_
          refine p_aaldNj k95_35 (s_5 S) xaty_2 (by omega) (by decide) hKq ?_
          refine p_iload_n k95_36 rfl ?_
          refine p_cS2i k95_37 c_11_324 rfl rfl (Nat.le_of_ble_eq_true rfl) (C_kind_0_2 S hqs) (fun x1 m1 hq => ?_)
          obtain ⟨rfl, rfl⟩ := hq
          refine p_if_eqB (tgt := 58) k95_40 (by decide) (fun _ => ?_) (fun c => False.elim (by cases c))
          refine p_bipush (v := (-12)) k95_58 (by decide) ?_
          refine p_ireturn k95_60 rt_95 ?_
          exact ⟨by unfold takM; rw [if_neg (by decide), if_neg (by rw [cq21]; decide), hca, hkR, if_neg (by decide)], rfl⟩
        · skip
          refine p_aload_n k95_27 rfl ?_
          refine p_getRv k95_28 (s_0 S) f_11_14_11 (r_0_0 S) ?_
          refine p_getRv k95_31 (s_1 S) f_11_111_3 (r_1_5 S) ?_
          refine p_iload_n k95_34 rfl ?_
          refine p_aaldNj k95_35 (s_5 S) xaty_2 (by omega) (by decide) hKq ?_
          refine p_iload_n k95_36 rfl ?_
          refine p_cS2i k95_37 c_11_324 rfl rfl (Nat.le_of_ble_eq_true rfl) (C_kind_0_3 S hqs) (fun x1 m1 hq => ?_)
          obtain ⟨rfl, rfl⟩ := hq
          refine p_if_eqB (tgt := 58) k95_40 (by decide) (fun c => False.elim (by cases c)) (fun _ => ?_)
          refine p_aload_n k95_43 rfl ?_
          refine p_getRv k95_44 (s_0 S) f_11_14_11 (r_0_0 S) ?_
          refine p_getRv k95_47 (s_1 S) f_11_111_3 (r_1_5 S) ?_
          refine p_iload_n k95_50 rfl ?_
          refine p_aaldNj k95_51 (s_5 S) xaty_2 (by omega) (by decide) hKq ?_
          refine p_getIv k95_52 hqs f_11_154_0 e0 ?_
          refine p_goto (tgt := 60) k95_55 (by decide) ?_
          refine p_ireturn k95_60 rt_95 ?_
          exact ⟨by unfold takM; rw [if_neg (by decide), if_neg (by rw [cq21]; decide), hca, hkR, if_pos (by decide)], rfl⟩
        · skip
          refine p_aload_n k95_27 rfl ?_
          refine p_getRv k95_28 (s_0 S) f_11_14_11 (r_0_0 S) ?_
          refine p_getRv k95_31 (s_1 S) f_11_111_3 (r_1_5 S) ?_
          refine p_iload_n k95_34 rfl ?_
          refine p_aaldNj k95_35 (s_5 S) xaty_2 (by omega) (by decide) hKq ?_
          refine p_iload_n k95_36 rfl ?_
          refine p_cS2i k95_37 c_11_324 rfl rfl (Nat.le_of_ble_eq_true rfl) (C_kind_0_4 S hqs) (fun x1 m1 hq => ?_)
          obtain ⟨rfl, rfl⟩ := hq
          refine p_if_eqB (tgt := 58) k95_40 (by decide) (fun _ => ?_) (fun c => False.elim (by cases c))
          refine p_bipush (v := (-12)) k95_58 (by decide) ?_
          refine p_ireturn k95_60 rt_95 ?_
          exact ⟨by unfold takM; rw [if_neg (by decide), if_neg (by rw [cq21]; decide), hca, hkR, if_neg (by decide)], rfl⟩
        · skip
          refine p_aload_n k95_27 rfl ?_
          refine p_getRv k95_28 (s_0 S) f_11_14_11 (r_0_0 S) ?_
          refine p_getRv k95_31 (s_1 S) f_11_111_3 (r_1_5 S) ?_
          refine p_iload_n k95_34 rfl ?_
          refine p_aaldNj k95_35 (s_5 S) xaty_2 (by omega) (by decide) hKq ?_
          refine p_iload_n k95_36 rfl ?_
          refine p_cS2i k95_37 c_11_324 rfl rfl (Nat.le_of_ble_eq_true rfl) (C_kind_0_5 S hqs) (fun x1 m1 hq => ?_)
          obtain ⟨rfl, rfl⟩ := hq
          refine p_if_eqB (tgt := 58) k95_40 (by decide) (fun _ => ?_) (fun c => False.elim (by cases c))
          refine p_bipush (v := (-12)) k95_58 (by decide) ?_
          refine p_ireturn k95_60 rt_95 ?_
          exact ⟨by unfold takM; rw [if_neg (by decide), if_neg (by rw [cq21]; decide), hca, hkR, if_neg (by decide)], rfl⟩
        · skip
          refine p_aload_n k95_27 rfl ?_
          refine p_getRv k95_28 (s_0 S) f_11_14_11 (r_0_0 S) ?_
          refine p_getRv k95_31 (s_1 S) f_11_111_3 (r_1_5 S) ?_
          refine p_iload_n k95_34 rfl ?_
          refine p_aaldNj k95_35 (s_5 S) xaty_2 (by omega) (by decide) hKq ?_
          refine p_iload_n k95_36 rfl ?_
          refine p_cS2i k95_37 c_11_324 rfl rfl (Nat.le_of_ble_eq_true rfl) (C_kind_0_6 S hqs) (fun x1 m1 hq => ?_)
          obtain ⟨rfl, rfl⟩ := hq
          refine p_if_eqB (tgt := 58) k95_40 (by decide) (fun _ => ?_) (fun c => False.elim (by cases c))
          refine p_bipush (v := (-12)) k95_58 (by decide) ?_
          refine p_ireturn k95_60 rt_95 ?_
          exact ⟨by unfold takM; rw [if_neg (by decide), if_neg (by rw [cq21]; decide), hca, hkR, if_neg (by decide)], rfl⟩
      · skip
        replace hqs : h[qq]? = some (.inl 4) := hqs
        rcases (show w9 = 0 ∨ w9 = 1 ∨ w9 = 2 ∨ w9 = 3 ∨ w9 = 4 ∨ w9 = 5 ∨ w9 = 6 by omega) with rfl | rfl | rfl | rfl | rfl | rfl | rfl
        · skip
          refine p_aload_n k95_27 rfl ?_
          refine p_getRv k95_28 (s_0 S) f_11_14_11 (r_0_0 S) ?_
          refine p_getRv k95_31 (s_1 S) f_11_111_3 (r_1_5 S) ?_
          refine p_iload_n k95_34 rfl ?_
          refine p_aaldNj k95_35 (s_5 S) xaty_2 (by omega) (by decide) hKq ?_
          refine p_iload_n k95_36 rfl ?_
          refine p_cS2i k95_37 c_11_324 rfl rfl (Nat.le_of_ble_eq_true rfl) (C_kind_4_0 S hqs) (fun x1 m1 hq => ?_)
          obtain ⟨rfl, rfl⟩ := hq
          refine p_if_eqB (tgt := 58) k95_40 (by decide) (fun c => False.elim (by cases c)) (fun _ => ?_)
          refine p_aload_n k95_43 rfl ?_
          refine p_getRv k95_44 (s_0 S) f_11_14_11 (r_0_0 S) ?_
          refine p_getRv k95_47 (s_1 S) f_11_111_3 (r_1_5 S) ?_
          refine p_iload_n k95_50 rfl ?_
          refine p_aaldNj k95_51 (s_5 S) xaty_2 (by omega) (by decide) hKq ?_
          refine p_getIv k95_52 hqs f_11_154_4 e0 ?_
          refine p_goto (tgt := 60) k95_55 (by decide) ?_
          refine p_ireturn k95_60 rt_95 ?_
          exact ⟨by unfold takM; rw [if_neg (by decide), if_neg (by rw [cq21]; decide), hca, hkR, if_pos (by decide)], rfl⟩
        · skip
          refine p_aload_n k95_27 rfl ?_
          refine p_getRv k95_28 (s_0 S) f_11_14_11 (r_0_0 S) ?_
          refine p_getRv k95_31 (s_1 S) f_11_111_3 (r_1_5 S) ?_
          refine p_iload_n k95_34 rfl ?_
          refine p_aaldNj k95_35 (s_5 S) xaty_2 (by omega) (by decide) hKq ?_
          refine p_iload_n k95_36 rfl ?_
          refine p_cS2i k95_37 c_11_324 rfl rfl (Nat.le_of_ble_eq_true rfl) (C_kind_4_1 S hqs) (fun x1 m1 hq => ?_)
          obtain ⟨rfl, rfl⟩ := hq
          refine p_if_eqB (tgt := 58) k95_40 (by decide) (fun c => False.elim (by cases c)) (fun _ => ?_)
          refine p_aload_n k95_43 rfl ?_
          refine p_getRv k95_44 (s_0 S) f_11_14_11 (r_0_0 S) ?_
          refine p_getRv k95_47 (s_1 S) f_11_111_3 (r_1_5 S) ?_
          refine p_iload_n k95_50 rfl ?_
          refine p_aaldNj k95_51 (s_5 S) xaty_2 (by omega) (by decide) hKq ?_
          refine p_getIv k95_52 hqs f_11_154_4 e0 ?_
          refine p_goto (tgt := 60) k95_55 (by decide) ?_
          refine p_ireturn k95_60 rt_95 ?_
          exact ⟨by unfold takM; rw [if_neg (by decide), if_neg (by rw [cq21]; decide), hca, hkR, if_pos (by decide)], rfl⟩
        · skip
          refine p_aload_n k95_27 rfl ?_
          refine p_getRv k95_28 (s_0 S) f_11_14_11 (r_0_0 S) ?_
          refine p_getRv k95_31 (s_1 S) f_11_111_3 (r_1_5 S) ?_
          refine p_iload_n k95_34 rfl ?_
          refine p_aaldNj k95_35 (s_5 S) xaty_2 (by omega) (by decide) hKq ?_
          refine p_iload_n k95_36 rfl ?_
          refine p_cS2i k95_37 c_11_324 rfl rfl (Nat.le_of_ble_eq_true rfl) (C_kind_4_2 S hqs) (fun x1 m1 hq => ?_)
          obtain ⟨rfl, rfl⟩ := hq
          refine p_if_eqB (tgt := 58) k95_40 (by decide) (fun _ => ?_) (fun c => False.elim (by cases c))
          refine p_bipush (v := (-12)) k95_58 (by decide) ?_
          refine p_ireturn k95_60 rt_95 ?_
          exact ⟨by unfold takM; rw [if_neg (by decide), if_neg (by rw [cq21]; decide), hca, hkR, if_neg (by decide)], rfl⟩
        · skip
          refine p_aload_n k95_27 rfl ?_
          refine p_getRv k95_28 (s_0 S) f_11_14_11 (r_0_0 S) ?_
          refine p_getRv k95_31 (s_1 S) f_11_111_3 (r_1_5 S) ?_
          refine p_iload_n k95_34 rfl ?_
          refine p_aaldNj k95_35 (s_5 S) xaty_2 (by omega) (by decide) hKq ?_
          refine p_iload_n k95_36 rfl ?_
          refine p_cS2i k95_37 c_11_324 rfl rfl (Nat.le_of_ble_eq_true rfl) (C_kind_4_3 S hqs) (fun x1 m1 hq => ?_)
          obtain ⟨rfl, rfl⟩ := hq
          refine p_if_eqB (tgt := 58) k95_40 (by decide) (fun _ => ?_) (fun c => False.elim (by cases c))
          refine p_bipush (v := (-12)) k95_58 (by decide) ?_
          refine p_ireturn k95_60 rt_95 ?_
          exact ⟨by unfold takM; rw [if_neg (by decide), if_neg (by rw [cq21]; decide), hca, hkR, if_neg (by decide)], rfl⟩
        · skip
          refine p_aload_n k95_27 rfl ?_
          refine p_getRv k95_28 (s_0 S) f_11_14_11 (r_0_0 S) ?_
          refine p_getRv k95_31 (s_1 S) f_11_111_3 (r_1_5 S) ?_
          refine p_iload_n k95_34 rfl ?_
          refine p_aaldNj k95_35 (s_5 S) xaty_2 (by omega) (by decide) hKq ?_
          refine p_iload_n k95_36 rfl ?_
          refine p_cS2i k95_37 c_11_324 rfl rfl (Nat.le_of_ble_eq_true rfl) (C_kind_4_4 S hqs) (fun x1 m1 hq => ?_)
          obtain ⟨rfl, rfl⟩ := hq
          refine p_if_eqB (tgt := 58) k95_40 (by decide) (fun c => False.elim (by cases c)) (fun _ => ?_)
          refine p_aload_n k95_43 rfl ?_
          refine p_getRv k95_44 (s_0 S) f_11_14_11 (r_0_0 S) ?_
          refine p_getRv k95_47 (s_1 S) f_11_111_3 (r_1_5 S) ?_
          refine p_iload_n k95_50 rfl ?_
          refine p_aaldNj k95_51 (s_5 S) xaty_2 (by omega) (by decide) hKq ?_
          refine p_getIv k95_52 hqs f_11_154_4 e0 ?_
          refine p_goto (tgt := 60) k95_55 (by decide) ?_
          refine p_ireturn k95_60 rt_95 ?_
          exact ⟨by unfold takM; rw [if_neg (by decide), if_neg (by rw [cq21]; decide), hca, hkR, if_pos (by decide)], rfl⟩
        · skip
          refine p_aload_n k95_27 rfl ?_
          refine p_getRv k95_28 (s_0 S) f_11_14_11 (r_0_0 S) ?_
          refine p_getRv k95_31 (s_1 S) f_11_111_3 (r_1_5 S) ?_
          refine p_iload_n k95_34 rfl ?_
          refine p_aaldNj k95_35 (s_5 S) xaty_2 (by omega) (by decide) hKq ?_
          refine p_iload_n k95_36 rfl ?_
          refine p_cS2i k95_37 c_11_324 rfl rfl (Nat.le_of_ble_eq_true rfl) (C_kind_4_5 S hqs) (fun x1 m1 hq => ?_)
          obtain ⟨rfl, rfl⟩ := hq
          refine p_if_eqB (tgt := 58) k95_40 (by decide) (fun _ => ?_) (fun c => False.elim (by cases c))
          refine p_bipush (v := (-12)) k95_58 (by decide) ?_
          refine p_ireturn k95_60 rt_95 ?_
          exact ⟨by unfold takM; rw [if_neg (by decide), if_neg (by rw [cq21]; decide), hca, hkR, if_neg (by decide)], rfl⟩
        · skip
          refine p_aload_n k95_27 rfl ?_
          refine p_getRv k95_28 (s_0 S) f_11_14_11 (r_0_0 S) ?_
          refine p_getRv k95_31 (s_1 S) f_11_111_3 (r_1_5 S) ?_
          refine p_iload_n k95_34 rfl ?_
          refine p_aaldNj k95_35 (s_5 S) xaty_2 (by omega) (by decide) hKq ?_
          refine p_iload_n k95_36 rfl ?_
          refine p_cS2i k95_37 c_11_324 rfl rfl (Nat.le_of_ble_eq_true rfl) (C_kind_4_6 S hqs) (fun x1 m1 hq => ?_)
          obtain ⟨rfl, rfl⟩ := hq
          refine p_if_eqB (tgt := 58) k95_40 (by decide) (fun _ => ?_) (fun c => False.elim (by cases c))
          refine p_bipush (v := (-12)) k95_58 (by decide) ?_
          refine p_ireturn k95_60 rt_95 ?_
          exact ⟨by unfold takM; rw [if_neg (by decide), if_neg (by rw [cq21]; decide), hca, hkR, if_neg (by decide)], rfl⟩
      · skip
        replace hqs : h[qq]? = some (.inl 1) := hqs
        rcases (show w9 = 0 ∨ w9 = 1 ∨ w9 = 2 ∨ w9 = 3 ∨ w9 = 4 ∨ w9 = 5 ∨ w9 = 6 by omega) with rfl | rfl | rfl | rfl | rfl | rfl | rfl
        · skip
          refine p_aload_n k95_27 rfl ?_
          refine p_getRv k95_28 (s_0 S) f_11_14_11 (r_0_0 S) ?_
          refine p_getRv k95_31 (s_1 S) f_11_111_3 (r_1_5 S) ?_
          refine p_iload_n k95_34 rfl ?_
          refine p_aaldNj k95_35 (s_5 S) xaty_2 (by omega) (by decide) hKq ?_
          refine p_iload_n k95_36 rfl ?_
          refine p_cS2i k95_37 c_11_324 rfl rfl (Nat.le_of_ble_eq_true rfl) (C_kind_1_0 S hqs) (fun x1 m1 hq => ?_)
          obtain ⟨rfl, rfl⟩ := hq
          refine p_if_eqB (tgt := 58) k95_40 (by decide) (fun c => False.elim (by cases c)) (fun _ => ?_)
          refine p_aload_n k95_43 rfl ?_
          refine p_getRv k95_44 (s_0 S) f_11_14_11 (r_0_0 S) ?_
          refine p_getRv k95_47 (s_1 S) f_11_111_3 (r_1_5 S) ?_
          refine p_iload_n k95_50 rfl ?_
          refine p_aaldNj k95_51 (s_5 S) xaty_2 (by omega) (by decide) hKq ?_
          refine p_getIv k95_52 hqs f_11_154_1 e0 ?_
          refine p_goto (tgt := 60) k95_55 (by decide) ?_
          refine p_ireturn k95_60 rt_95 ?_
          exact ⟨by unfold takM; rw [if_neg (by decide), if_neg (by rw [cq21]; decide), hca, hkR, if_pos (by decide)], rfl⟩
        · skip
          refine p_aload_n k95_27 rfl ?_
          refine p_getRv k95_28 (s_0 S) f_11_14_11 (r_0_0 S) ?_
          refine p_getRv k95_31 (s_1 S) f_11_111_3 (r_1_5 S) ?_
          refine p_iload_n k95_34 rfl ?_
          refine p_aaldNj k95_35 (s_5 S) xaty_2 (by omega) (by decide) hKq ?_
          refine p_iload_n k95_36 rfl ?_
          refine p_cS2i k95_37 c_11_324 rfl rfl (Nat.le_of_ble_eq_true rfl) (C_kind_1_1 S hqs) (fun x1 m1 hq => ?_)
          obtain ⟨rfl, rfl⟩ := hq
          refine p_if_eqB (tgt := 58) k95_40 (by decide) (fun _ => ?_) (fun c => False.elim (by cases c))
          refine p_bipush (v := (-12)) k95_58 (by decide) ?_
          refine p_ireturn k95_60 rt_95 ?_
          exact ⟨by unfold takM; rw [if_neg (by decide), if_neg (by rw [cq21]; decide), hca, hkR, if_neg (by decide)], rfl⟩
        · skip
          refine p_aload_n k95_27 rfl ?_
          refine p_getRv k95_28 (s_0 S) f_11_14_11 (r_0_0 S) ?_
          refine p_getRv k95_31 (s_1 S) f_11_111_3 (r_1_5 S) ?_
          refine p_iload_n k95_34 rfl ?_
          refine p_aaldNj k95_35 (s_5 S) xaty_2 (by omega) (by decide) hKq ?_
          refine p_iload_n k95_36 rfl ?_
          refine p_cS2i k95_37 c_11_324 rfl rfl (Nat.le_of_ble_eq_true rfl) (C_kind_1_2 S hqs) (fun x1 m1 hq => ?_)
          obtain ⟨rfl, rfl⟩ := hq
          refine p_if_eqB (tgt := 58) k95_40 (by decide) (fun c => False.elim (by cases c)) (fun _ => ?_)
          refine p_aload_n k95_43 rfl ?_
          refine p_getRv k95_44 (s_0 S) f_11_14_11 (r_0_0 S) ?_
          refine p_getRv k95_47 (s_1 S) f_11_111_3 (r_1_5 S) ?_
          refine p_iload_n k95_50 rfl ?_
          refine p_aaldNj k95_51 (s_5 S) xaty_2 (by omega) (by decide) hKq ?_
          refine p_getIv k95_52 hqs f_11_154_1 e0 ?_
          refine p_goto (tgt := 60) k95_55 (by decide) ?_
          refine p_ireturn k95_60 rt_95 ?_
          exact ⟨by unfold takM; rw [if_neg (by decide), if_neg (by rw [cq21]; decide), hca, hkR, if_pos (by decide)], rfl⟩
        · skip
          refine p_aload_n k95_27 rfl ?_
          refine p_getRv k95_28 (s_0 S) f_11_14_11 (r_0_0 S) ?_
          refine p_getRv k95_31 (s_1 S) f_11_111_3 (r_1_5 S) ?_
          refine p_iload_n k95_34 rfl ?_
          refine p_aaldNj k95_35 (s_5 S) xaty_2 (by omega) (by decide) hKq ?_
          refine p_iload_n k95_36 rfl ?_
          refine p_cS2i k95_37 c_11_324 rfl rfl (Nat.le_of_ble_eq_true rfl) (C_kind_1_3 S hqs) (fun x1 m1 hq => ?_)
          obtain ⟨rfl, rfl⟩ := hq
          refine p_if_eqB (tgt := 58) k95_40 (by decide) (fun _ => ?_) (fun c => False.elim (by cases c))
          refine p_bipush (v := (-12)) k95_58 (by decide) ?_
          refine p_ireturn k95_60 rt_95 ?_
          exact ⟨by unfold takM; rw [if_neg (by decide), if_neg (by rw [cq21]; decide), hca, hkR, if_neg (by decide)], rfl⟩
        · skip
          refine p_aload_n k95_27 rfl ?_
          refine p_getRv k95_28 (s_0 S) f_11_14_11 (r_0_0 S) ?_
          refine p_getRv k95_31 (s_1 S) f_11_111_3 (r_1_5 S) ?_
          refine p_iload_n k95_34 rfl ?_
          refine p_aaldNj k95_35 (s_5 S) xaty_2 (by omega) (by decide) hKq ?_
          refine p_iload_n k95_36 rfl ?_
          refine p_cS2i k95_37 c_11_324 rfl rfl (Nat.le_of_ble_eq_true rfl) (C_kind_1_4 S hqs) (fun x1 m1 hq => ?_)
          obtain ⟨rfl, rfl⟩ := hq
          refine p_if_eqB (tgt := 58) k95_40 (by decide) (fun _ => ?_) (fun c => False.elim (by cases c))
          refine p_bipush (v := (-12)) k95_58 (by decide) ?_
          refine p_ireturn k95_60 rt_95 ?_
          exact ⟨by unfold takM; rw [if_neg (by decide), if_neg (by rw [cq21]; decide), hca, hkR, if_neg (by decide)], rfl⟩
        · skip
          refine p_aload_n k95_27 rfl ?_
          refine p_getRv k95_28 (s_0 S) f_11_14_11 (r_0_0 S) ?_
          refine p_getRv k95_31 (s_1 S) f_11_111_3 (r_1_5 S) ?_
          refine p_iload_n k95_34 rfl ?_
          refine p_aaldNj k95_35 (s_5 S) xaty_2 (by omega) (by decide) hKq ?_
          refine p_iload_n k95_36 rfl ?_
          refine p_cS2i k95_37 c_11_324 rfl rfl (Nat.le_of_ble_eq_true rfl) (C_kind_1_5 S hqs) (fun x1 m1 hq => ?_)
          obtain ⟨rfl, rfl⟩ := hq
          refine p_if_eqB (tgt := 58) k95_40 (by decide) (fun c => False.elim (by cases c)) (fun _ => ?_)
          refine p_aload_n k95_43 rfl ?_
          refine p_getRv k95_44 (s_0 S) f_11_14_11 (r_0_0 S) ?_
          refine p_getRv k95_47 (s_1 S) f_11_111_3 (r_1_5 S) ?_
          refine p_iload_n k95_50 rfl ?_
          refine p_aaldNj k95_51 (s_5 S) xaty_2 (by omega) (by decide) hKq ?_
          refine p_getIv k95_52 hqs f_11_154_1 e0 ?_
          refine p_goto (tgt := 60) k95_55 (by decide) ?_
          refine p_ireturn k95_60 rt_95 ?_
          exact ⟨by unfold takM; rw [if_neg (by decide), if_neg (by rw [cq21]; decide), hca, hkR, if_pos (by decide)], rfl⟩
        · skip
          refine p_aload_n k95_27 rfl ?_
          refine p_getRv k95_28 (s_0 S) f_11_14_11 (r_0_0 S) ?_
          refine p_getRv k95_31 (s_1 S) f_11_111_3 (r_1_5 S) ?_
          refine p_iload_n k95_34 rfl ?_
          refine p_aaldNj k95_35 (s_5 S) xaty_2 (by omega) (by decide) hKq ?_
          refine p_iload_n k95_36 rfl ?_
          refine p_cS2i k95_37 c_11_324 rfl rfl (Nat.le_of_ble_eq_true rfl) (C_kind_1_6 S hqs) (fun x1 m1 hq => ?_)
          obtain ⟨rfl, rfl⟩ := hq
          refine p_if_eqB (tgt := 58) k95_40 (by decide) (fun _ => ?_) (fun c => False.elim (by cases c))
          refine p_bipush (v := (-12)) k95_58 (by decide) ?_
          refine p_ireturn k95_60 rt_95 ?_
          exact ⟨by unfold takM; rw [if_neg (by decide), if_neg (by rw [cq21]; decide), hca, hkR, if_neg (by decide)], rfl⟩
      · skip
        replace hqs : h[qq]? = some (.inl 7) := hqs
        rcases (show w9 = 0 ∨ w9 = 1 ∨ w9 = 2 ∨ w9 = 3 ∨ w9 = 4 ∨ w9 = 5 ∨ w9 = 6 by omega) with rfl | rfl | rfl | rfl | rfl | rfl | rfl
        · skip
          refine p_aload_n k95_27 rfl ?_
          refine p_getRv k95_28 (s_0 S) f_11_14_11 (r_0_0 S) ?_
          refine p_getRv k95_31 (s_1 S) f_11_111_3 (r_1_5 S) ?_
          refine p_iload_n k95_34 rfl ?_
          refine p_aaldNj k95_35 (s_5 S) xaty_2 (by omega) (by decide) hKq ?_
          refine p_iload_n k95_36 rfl ?_
          refine p_cS2i k95_37 c_11_324 rfl rfl (Nat.le_of_ble_eq_true rfl) (C_kind_7_0 S hqs) (fun x1 m1 hq => ?_)
          obtain ⟨rfl, rfl⟩ := hq
          refine p_if_eqB (tgt := 58) k95_40 (by decide) (fun c => False.elim (by cases c)) (fun _ => ?_)
          refine p_aload_n k95_43 rfl ?_
          refine p_getRv k95_44 (s_0 S) f_11_14_11 (r_0_0 S) ?_
          refine p_getRv k95_47 (s_1 S) f_11_111_3 (r_1_5 S) ?_
          refine p_iload_n k95_50 rfl ?_
          refine p_aaldNj k95_51 (s_5 S) xaty_2 (by omega) (by decide) hKq ?_
          refine p_getIv k95_52 hqs f_11_154_7 e0 ?_
          refine p_goto (tgt := 60) k95_55 (by decide) ?_
          refine p_ireturn k95_60 rt_95 ?_
          exact ⟨by unfold takM; rw [if_neg (by decide), if_neg (by rw [cq21]; decide), hca, hkR, if_pos (by decide)], rfl⟩
        · skip
          refine p_aload_n k95_27 rfl ?_
          refine p_getRv k95_28 (s_0 S) f_11_14_11 (r_0_0 S) ?_
          refine p_getRv k95_31 (s_1 S) f_11_111_3 (r_1_5 S) ?_
          refine p_iload_n k95_34 rfl ?_
          refine p_aaldNj k95_35 (s_5 S) xaty_2 (by omega) (by decide) hKq ?_
          refine p_iload_n k95_36 rfl ?_
          refine p_cS2i k95_37 c_11_324 rfl rfl (Nat.le_of_ble_eq_true rfl) (C_kind_7_1 S hqs) (fun x1 m1 hq => ?_)
          obtain ⟨rfl, rfl⟩ := hq
          refine p_if_eqB (tgt := 58) k95_40 (by decide) (fun _ => ?_) (fun c => False.elim (by cases c))
          refine p_bipush (v := (-12)) k95_58 (by decide) ?_
          refine p_ireturn k95_60 rt_95 ?_
          exact ⟨by unfold takM; rw [if_neg (by decide), if_neg (by rw [cq21]; decide), hca, hkR, if_neg (by decide)], rfl⟩
        · skip
          refine p_aload_n k95_27 rfl ?_
          refine p_getRv k95_28 (s_0 S) f_11_14_11 (r_0_0 S) ?_
          refine p_getRv k95_31 (s_1 S) f_11_111_3 (r_1_5 S) ?_
          refine p_iload_n k95_34 rfl ?_
          refine p_aaldNj k95_35 (s_5 S) xaty_2 (by omega) (by decide) hKq ?_
          refine p_iload_n k95_36 rfl ?_
          refine p_cS2i k95_37 c_11_324 rfl rfl (Nat.le_of_ble_eq_true rfl) (C_kind_7_2 S hqs) (fun x1 m1 hq => ?_)
          obtain ⟨rfl, rfl⟩ := hq
          refine p_if_eqB (tgt := 58) k95_40 (by decide) (fun _ => ?_) (fun c => False.elim (by cases c))
          refine p_bipush (v := (-12)) k95_58 (by decide) ?_
          refine p_ireturn k95_60 rt_95 ?_
          exact ⟨by unfold takM; rw [if_neg (by decide), if_neg (by rw [cq21]; decide), hca, hkR, if_neg (by decide)], rfl⟩
        · skip
          refine p_aload_n k95_27 rfl ?_
          refine p_getRv k95_28 (s_0 S) f_11_14_11 (r_0_0 S) ?_
          refine p_getRv k95_31 (s_1 S) f_11_111_3 (r_1_5 S) ?_
          refine p_iload_n k95_34 rfl ?_
          refine p_aaldNj k95_35 (s_5 S) xaty_2 (by omega) (by decide) hKq ?_
          refine p_iload_n k95_36 rfl ?_
          refine p_cS2i k95_37 c_11_324 rfl rfl (Nat.le_of_ble_eq_true rfl) (C_kind_7_3 S hqs) (fun x1 m1 hq => ?_)
          obtain ⟨rfl, rfl⟩ := hq
          refine p_if_eqB (tgt := 58) k95_40 (by decide) (fun c => False.elim (by cases c)) (fun _ => ?_)
          refine p_aload_n k95_43 rfl ?_
          refine p_getRv k95_44 (s_0 S) f_11_14_11 (r_0_0 S) ?_
          refine p_getRv k95_47 (s_1 S) f_11_111_3 (r_1_5 S) ?_
          refine p_iload_n k95_50 rfl ?_
          refine p_aaldNj k95_51 (s_5 S) xaty_2 (by omega) (by decide) hKq ?_
          refine p_getIv k95_52 hqs f_11_154_7 e0 ?_
          refine p_goto (tgt := 60) k95_55 (by decide) ?_
          refine p_ireturn k95_60 rt_95 ?_
          exact ⟨by unfold takM; rw [if_neg (by decide), if_neg (by rw [cq21]; decide), hca, hkR, if_pos (by decide)], rfl⟩
        · skip
          refine p_aload_n k95_27 rfl ?_
          refine p_getRv k95_28 (s_0 S) f_11_14_11 (r_0_0 S) ?_
          refine p_getRv k95_31 (s_1 S) f_11_111_3 (r_1_5 S) ?_
          refine p_iload_n k95_34 rfl ?_
          refine p_aaldNj k95_35 (s_5 S) xaty_2 (by omega) (by decide) hKq ?_
          refine p_iload_n k95_36 rfl ?_
          refine p_cS2i k95_37 c_11_324 rfl rfl (Nat.le_of_ble_eq_true rfl) (C_kind_7_4 S hqs) (fun x1 m1 hq => ?_)
          obtain ⟨rfl, rfl⟩ := hq
          refine p_if_eqB (tgt := 58) k95_40 (by decide) (fun _ => ?_) (fun c => False.elim (by cases c))
          refine p_bipush (v := (-12)) k95_58 (by decide) ?_
          refine p_ireturn k95_60 rt_95 ?_
          exact ⟨by unfold takM; rw [if_neg (by decide), if_neg (by rw [cq21]; decide), hca, hkR, if_neg (by decide)], rfl⟩
        · skip
          refine p_aload_n k95_27 rfl ?_
          refine p_getRv k95_28 (s_0 S) f_11_14_11 (r_0_0 S) ?_
          refine p_getRv k95_31 (s_1 S) f_11_111_3 (r_1_5 S) ?_
          refine p_iload_n k95_34 rfl ?_
          refine p_aaldNj k95_35 (s_5 S) xaty_2 (by omega) (by decide) hKq ?_
          refine p_iload_n k95_36 rfl ?_
          refine p_cS2i k95_37 c_11_324 rfl rfl (Nat.le_of_ble_eq_true rfl) (C_kind_7_5 S hqs) (fun x1 m1 hq => ?_)
          obtain ⟨rfl, rfl⟩ := hq
          refine p_if_eqB (tgt := 58) k95_40 (by decide) (fun _ => ?_) (fun c => False.elim (by cases c))
          refine p_bipush (v := (-12)) k95_58 (by decide) ?_
          refine p_ireturn k95_60 rt_95 ?_
          exact ⟨by unfold takM; rw [if_neg (by decide), if_neg (by rw [cq21]; decide), hca, hkR, if_neg (by decide)], rfl⟩
        · skip
          refine p_aload_n k95_27 rfl ?_
          refine p_getRv k95_28 (s_0 S) f_11_14_11 (r_0_0 S) ?_
          refine p_getRv k95_31 (s_1 S) f_11_111_3 (r_1_5 S) ?_
          refine p_iload_n k95_34 rfl ?_
          refine p_aaldNj k95_35 (s_5 S) xaty_2 (by omega) (by decide) hKq ?_
          refine p_iload_n k95_36 rfl ?_
          refine p_cS2i k95_37 c_11_324 rfl rfl (Nat.le_of_ble_eq_true rfl) (C_kind_7_6 S hqs) (fun x1 m1 hq => ?_)
          obtain ⟨rfl, rfl⟩ := hq
          refine p_if_eqB (tgt := 58) k95_40 (by decide) (fun c => False.elim (by cases c)) (fun _ => ?_)
          refine p_aload_n k95_43 rfl ?_
          refine p_getRv k95_44 (s_0 S) f_11_14_11 (r_0_0 S) ?_
          refine p_getRv k95_47 (s_1 S) f_11_111_3 (r_1_5 S) ?_
          refine p_iload_n k95_50 rfl ?_
          refine p_aaldNj k95_51 (s_5 S) xaty_2 (by omega) (by decide) hKq ?_
          refine p_getIv k95_52 hqs f_11_154_7 e0 ?_
          refine p_goto (tgt := 60) k95_55 (by decide) ?_
          refine p_ireturn k95_60 rt_95 ?_
          exact ⟨by unfold takM; rw [if_neg (by decide), if_neg (by rw [cq21]; decide), hca, hkR, if_pos (by decide)], rfl⟩
    · skip
      refine p_bipush (v := (-11)) k95_24 (by decide) ?_
      refine p_ireturn k95_26 rt_95 ?_
      exact ⟨by unfold takM; rw [if_neg (by rw [cq7]; decide), if_pos cq21], rfl⟩
  · skip
    refine p_bipush (v := (-2)) k95_10 (by decide) ?_
    refine p_ireturn k95_12 rt_95 ?_
    exact ⟨by unfold takM; rw [if_pos cq7], rfl⟩

