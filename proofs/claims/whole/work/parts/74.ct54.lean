/-! the constructor of the class -/
def clsI (I : Nat → Nat → Int32) (q : Nat) : Nat → Nat → Int32 := (tapI (upc (twnI (upc (tapI (upc (twnI (upc (tapI (upc (twnI (upc (tapI (upc (twnI (upc (tapI (upc (twnI (upc (tapI (upc (twnI (upc (upc (upc (upc (upc (upc (upc (trcI (upc (s1 (twnI (upc (upc (s1 (upc (s1 (scnI (upc (scnI (upc I (q + 1) (fun _ => 0)) (q + 1)) (q + 14) (fun _ => 0)) (q + 14)) q 2 (bI false)) (q + 27) (fun _ => 0)) q 4 (nI (0))) (q + 28) (fun _ => 0)) (q + 29) (fun _ => 0)) (q + 29)) q 7 (nI (0))) (q + 36) (fun _ => 0)) (q + 36)) (q + 38) (fun _ => 0)) (q + 39) (fun _ => 0)) (q + 40) (fun _ => 0)) (q + 41) (fun _ => 0)) (q + 42) (fun _ => 0)) (q + 43) (fun _ => 0)) (q + 44) (fun _ => 0)) (q + 44)) (q + 51) (fun _ => 0)) (q + 51)) (q + 53) (fun _ => 0)) (q + 53)) (q + 60) (fun _ => 0)) (q + 60)) (q + 62) (fun _ => 0)) (q + 62)) (q + 69) (fun _ => 0)) (q + 69)) (q + 71) (fun _ => 0)) (q + 71)) (q + 78) (fun _ => 0)) (q + 78)) (q + 80) (fun _ => 0)) (q + 80)) (q + 87) (fun _ => 0)) (q + 87)) (q + 89) (fun _ => 0)) (q + 89)) (q + 96) (fun _ => 0)) (q + 96))
def clsJ (J : Nat → Nat → Int64) (q : Nat) : Nat → Nat → Int64 := (tapJ (upc (twnJ (upc (tapJ (upc (twnJ (upc (tapJ (upc (twnJ (upc (tapJ (upc (twnJ (upc (tapJ (upc (twnJ (upc (tapJ (upc (twnJ (upc (upc (upc (upc (upc (upc (upc (trcJ (upc (twnJ (upc (upc (upc (scnJ (upc (scnJ (upc J (q + 1) (fun _ => 0)) (q + 1)) (q + 14) (fun _ => 0)) (q + 14)) (q + 27) (fun _ => 0)) (q + 28) (fun _ => 0)) (q + 29) (fun _ => 0)) (q + 29)) (q + 36) (fun _ => 0)) (q + 36)) (q + 38) (fun _ => 0)) (q + 39) (fun _ => 0)) (q + 40) (fun _ => 0)) (q + 41) (fun _ => 0)) (q + 42) (fun _ => 0)) (q + 43) (fun _ => 0)) (q + 44) (fun _ => 0)) (q + 44)) (q + 51) (fun _ => 0)) (q + 51)) (q + 53) (fun _ => 0)) (q + 53)) (q + 60) (fun _ => 0)) (q + 60)) (q + 62) (fun _ => 0)) (q + 62)) (q + 69) (fun _ => 0)) (q + 69)) (q + 71) (fun _ => 0)) (q + 71)) (q + 78) (fun _ => 0)) (q + 78)) (q + 80) (fun _ => 0)) (q + 80)) (q + 87) (fun _ => 0)) (q + 87)) (q + 89) (fun _ => 0)) (q + 89)) (q + 96) (fun _ => 0)) (q + 96))
def clsK (K : Nat → Nat → Option Nat) (q : Nat) : Nat → Nat → Option Nat := (sK (tapK (upc (sK (twnK (upc (sK (tapK (upc (sK (twnK (upc (sK (tapK (upc (sK (twnK (upc (sK (tapK (upc (sK (twnK (upc (sK (tapK (upc (sK (twnK (upc (sK (tapK (upc (sK (twnK (upc (sK (upc (sK (upc (sK (upc (sK (upc (sK (upc (sK (upc (sK (trcK (upc (sK (twnK (upc (sK (upc (sK (upc (sK (scnK (upc (sK (scnK (upc K (q + 1) (fun _ => none)) (q + 1)) q 0 (some (q + 1))) (q + 14) (fun _ => none)) (q + 14)) q 1 (some (q + 14))) (q + 27) (fun _ => none)) q 3 (some (q + 27))) (q + 28) (fun _ => none)) q 5 (some (q + 28))) (q + 29) (fun _ => none)) (q + 29)) q 6 (some (q + 29))) (q + 36) (fun _ => none)) (q + 36)) q 8 (some (q + 36))) (q + 38) (fun _ => none)) q 9 (some (q + 38))) (q + 39) (fun _ => none)) q 10 (some (q + 39))) (q + 40) (fun _ => none)) q 11 (some (q + 40))) (q + 41) (fun _ => none)) q 12 (some (q + 41))) (q + 42) (fun _ => none)) q 13 (some (q + 42))) (q + 43) (fun _ => none)) q 14 (some (q + 43))) (q + 44) (fun _ => none)) (q + 44)) (q + 28) 0 (some (q + 44))) (q + 51) (fun _ => none)) (q + 51)) (q + 38) 0 (some (q + 51))) (q + 53) (fun _ => none)) (q + 53)) (q + 28) 1 (some (q + 53))) (q + 60) (fun _ => none)) (q + 60)) (q + 38) 1 (some (q + 60))) (q + 62) (fun _ => none)) (q + 62)) (q + 28) 2 (some (q + 62))) (q + 69) (fun _ => none)) (q + 69)) (q + 38) 2 (some (q + 69))) (q + 71) (fun _ => none)) (q + 71)) (q + 28) 3 (some (q + 71))) (q + 78) (fun _ => none)) (q + 78)) (q + 38) 3 (some (q + 78))) (q + 80) (fun _ => none)) (q + 80)) (q + 28) 4 (some (q + 80))) (q + 87) (fun _ => none)) (q + 87)) (q + 38) 4 (some (q + 87))) (q + 89) (fun _ => none)) (q + 89)) (q + 28) 5 (some (q + 89))) (q + 96) (fun _ => none)) (q + 96)) (q + 38) 5 (some (q + 96)))
def clsH (h : List xSh) : List xSh := (tapH ((twnH ((tapH ((twnH ((tapH ((twnH ((tapH ((twnH ((tapH ((twnH ((tapH ((twnH ((((((((trcH ((twnH ((((scnH ((scnH (h ++ [(.inl 3 : xSh)])) ++ [(.inl 3 : xSh)])) ++ [(.inr (.byte, 100) : xSh)]) ++ [(.inr (.object (xR 8), 6) : xSh)]) ++ [(.inl 8 : xSh)])) ++ [(.inl 9 : xSh)])) ++ [(.inr (.object (xR 5), 6) : xSh)]) ++ [(.inr (.int, 6) : xSh)]) ++ [(.inr (.int, 36) : xSh)]) ++ [(.inr (.int, 448) : xSh)]) ++ [(.inr (.int, 64) : xSh)]) ++ [(.inr (.int, 6) : xSh)]) ++ [(.inl 8 : xSh)])) ++ [(.inl 5 : xSh)])) ++ [(.inl 8 : xSh)])) ++ [(.inl 5 : xSh)])) ++ [(.inl 8 : xSh)])) ++ [(.inl 5 : xSh)])) ++ [(.inl 8 : xSh)])) ++ [(.inl 5 : xSh)])) ++ [(.inl 8 : xSh)])) ++ [(.inl 5 : xSh)])) ++ [(.inl 8 : xSh)])) ++ [(.inl 5 : xSh)]))
theorem cls_len (h : List xSh) : (clsH h).length = h.length + 97 := by unfold clsH; simp only [List.length_append, List.length_cons, List.length_nil, scn_len, tap_len, twn_len, trc_len]
set_option maxRecDepth 100000 in
set_option maxHeartbeats 4000000 in
theorem C_cls {d : Nat} {I : Nat → Nat → Int32} {J : Nat → Nat → Int64} {K : Nat → Nat → Option Nat} {h : List xSh} {q : Nat} (hq9 : q < 800) (hl : h.length = q + 1) (hs_0 : h[q]? = some (.inl 11)) : EvP (d + 2) 54 0 [(0, .ref q)] [] (I, J, K, h) (QV (fun t => t = (clsI I q, clsJ J q, clsK K q, clsH h))) := by
  refine p_aload_n k54_0 rfl ?_
  refine p_oinit k54_1 (by decide) (Nat.le_of_ble_eq_true rfl) ?_
  refine p_aload_n k54_4 rfl ?_
  refine p_new (ci := 3) k54_5 (by decide) (by omega) ?_
  have hl9 : (h ++ [(.inl 3 : xSh)]).length = q + 2 := by rw [List.length_append, hl]; rfl
  have ht_0 : (h ++ [(.inl 3 : xSh)])[q]? = some (.inl 11) := by rw [List.getElem?_append_left (by rw [hl]; exact Nat.lt_add_of_pos_right (by decide))]; exact hs_0
  have ht_1 : (h ++ [(.inl 3 : xSh)])[q + 1]? = some (.inl 3 : xSh) := by rw [List.getElem?_append_right (by omega), hl, show q + 1 - (q + 1) = 0 by omega]; rfl
  rw [hl]
  obtain ⟨h1, hh1⟩ : ∃ z, z = h ++ [(.inl 3 : xSh)] := ⟨_, rfl⟩
  rw [← hh1] at hl9 ht_0 ht_1 ⊢
  clear hl
  have hl := hl9
  clear hl9
  clear hs_0
  have hs_0 := ht_0
  clear ht_0
  have hs_1 := ht_1
  clear ht_1
  obtain ⟨I1, hI1⟩ : ∃ z, z = upc I (q + 1) (fun _ => 0) := ⟨_, rfl⟩
  rw [show upc I (q + 1) (fun _ => 0) = I1 from hI1.symm]
  obtain ⟨J1, hJ1⟩ : ∃ z, z = upc J (q + 1) (fun _ => 0) := ⟨_, rfl⟩
  rw [show upc J (q + 1) (fun _ => 0) = J1 from hJ1.symm]
  obtain ⟨K1, hK1⟩ : ∃ z, z = upc K (q + 1) (fun _ => none) := ⟨_, rfl⟩
  rw [show upc K (q + 1) (fun _ => none) = K1 from hK1.symm]
  refine p_dup k54_8 rfl ?_
  refine p_cI0v k54_9 c_11_13 (Nat.le_of_ble_eq_true rfl) (C_scn (q := q + 1) (by omega) (by omega) hs_1) (fun m1 hq => ?_)
  obtain rfl := hq
  obtain ⟨I2, hI2⟩ : ∃ z, z = scnI I1 (q + 1) := ⟨_, rfl⟩
  rw [show scnI I1 (q + 1) = I2 from hI2.symm]
  obtain ⟨J2, hJ2⟩ : ∃ z, z = scnJ J1 (q + 1) := ⟨_, rfl⟩
  rw [show scnJ J1 (q + 1) = J2 from hJ2.symm]
  obtain ⟨K2, hK2⟩ : ∃ z, z = scnK K1 (q + 1) := ⟨_, rfl⟩
  rw [show scnK K1 (q + 1) = K2 from hK2.symm]
  have hl9 : (scnH h1).length = q + 14 := by rw [scn_len, hl]
  have ht_0 : (scnH h1)[q]? = some (.inl 11) := by rw [scn_at (by rw [hl]; exact Nat.lt_add_of_pos_right (by decide))]; exact hs_0
  have ht_1 : (scnH h1)[q + 1]? = some (.inl 3 : xSh) := by rw [scn_at (by rw [hl]; exact Nat.add_lt_add_left (by decide) q)]; exact hs_1
  obtain ⟨h2, hh2⟩ : ∃ z, z = scnH h1 := ⟨_, rfl⟩
  rw [← hh2] at hl9 ht_0 ht_1 ⊢
  clear hl
  have hl := hl9
  clear hl9
  clear hs_0
  have hs_0 := ht_0
  clear ht_0
  clear hs_1
  have hs_1 := ht_1
  clear ht_1
  refine p_putRv k54_12 hs_0 f_11_14_11 n_54_11_0 ?_
  clear hs_1
  obtain ⟨K3, hK3⟩ : ∃ z, z = sK K2 q 0 (some (q + 1)) := ⟨_, rfl⟩
  rw [show upc K2 q (upc (K2 q) 0 (some (q + 1))) = K3 from hK3.symm]
  refine p_aload_n k54_15 rfl ?_
  refine p_new (ci := 3) k54_16 (by decide) (by omega) ?_
  have hl9 : (h2 ++ [(.inl 3 : xSh)]).length = q + 15 := by rw [List.length_append, hl]; rfl
  have ht_0 : (h2 ++ [(.inl 3 : xSh)])[q]? = some (.inl 11) := by rw [List.getElem?_append_left (by rw [hl]; exact Nat.lt_add_of_pos_right (by decide))]; exact hs_0
  have ht_14 : (h2 ++ [(.inl 3 : xSh)])[q + 14]? = some (.inl 3 : xSh) := by rw [List.getElem?_append_right (by omega), hl, show q + 14 - (q + 14) = 0 by omega]; rfl
  rw [hl]
  obtain ⟨h3, hh3⟩ : ∃ z, z = h2 ++ [(.inl 3 : xSh)] := ⟨_, rfl⟩
  rw [← hh3] at hl9 ht_0 ht_14 ⊢
  clear hl
  have hl := hl9
  clear hl9
  clear hs_0
  have hs_0 := ht_0
  clear ht_0
  have hs_14 := ht_14
  clear ht_14
  obtain ⟨I3, hI3⟩ : ∃ z, z = upc I2 (q + 14) (fun _ => 0) := ⟨_, rfl⟩
  rw [show upc I2 (q + 14) (fun _ => 0) = I3 from hI3.symm]
  obtain ⟨J3, hJ3⟩ : ∃ z, z = upc J2 (q + 14) (fun _ => 0) := ⟨_, rfl⟩
  rw [show upc J2 (q + 14) (fun _ => 0) = J3 from hJ3.symm]
  obtain ⟨K4, hK4⟩ : ∃ z, z = upc K3 (q + 14) (fun _ => none) := ⟨_, rfl⟩
  rw [show upc K3 (q + 14) (fun _ => none) = K4 from hK4.symm]
  refine p_dup k54_19 rfl ?_
  refine p_cI0v k54_20 c_11_13 (Nat.le_of_ble_eq_true rfl) (C_scn (q := q + 14) (by omega) (by omega) hs_14) (fun m1 hq => ?_)
  obtain rfl := hq
  obtain ⟨I4, hI4⟩ : ∃ z, z = scnI I3 (q + 14) := ⟨_, rfl⟩
  rw [show scnI I3 (q + 14) = I4 from hI4.symm]
  obtain ⟨J4, hJ4⟩ : ∃ z, z = scnJ J3 (q + 14) := ⟨_, rfl⟩
  rw [show scnJ J3 (q + 14) = J4 from hJ4.symm]
  obtain ⟨K5, hK5⟩ : ∃ z, z = scnK K4 (q + 14) := ⟨_, rfl⟩
  rw [show scnK K4 (q + 14) = K5 from hK5.symm]
  have hl9 : (scnH h3).length = q + 27 := by rw [scn_len, hl]
  have ht_0 : (scnH h3)[q]? = some (.inl 11) := by rw [scn_at (by rw [hl]; exact Nat.lt_add_of_pos_right (by decide))]; exact hs_0
  have ht_14 : (scnH h3)[q + 14]? = some (.inl 3 : xSh) := by rw [scn_at (by rw [hl]; exact Nat.add_lt_add_left (by decide) q)]; exact hs_14
  obtain ⟨h4, hh4⟩ : ∃ z, z = scnH h3 := ⟨_, rfl⟩
  rw [← hh4] at hl9 ht_0 ht_14 ⊢
  clear hl
  have hl := hl9
  clear hl9
  clear hs_0
  have hs_0 := ht_0
  clear ht_0
  clear hs_14
  have hs_14 := ht_14
  clear ht_14
  refine p_putRv k54_23 hs_0 f_11_18_11 n_54_11_1 ?_
  clear hs_14
  obtain ⟨K6, hK6⟩ : ∃ z, z = sK K5 q 1 (some (q + 14)) := ⟨_, rfl⟩
  rw [show upc K5 q (upc (K5 q) 1 (some (q + 14))) = K6 from hK6.symm]
  refine p_aload_n k54_26 rfl ?_
  refine p_iconst (v := bI false) k54_27 (by decide) ?_
  refine p_putZv k54_28 hs_0 g_11_21_11 n_54_11_2 (bI_01 _) ?_
  obtain ⟨I5, hI5⟩ : ∃ z, z = s1 I4 q 2 (bI false) := ⟨_, rfl⟩
  rw [show upc I4 q (upc (I4 q) 2 (bI false)) = I5 from hI5.symm]
  refine p_aload_n k54_31 rfl ?_
  refine p_bipush (v := nI 100) k54_32 (by decide) ?_
  refine p_newa (N := 100) k54_34 xa1_byte (by decide) (by decide) (by decide) (by omega) ?_
  rw [show newarray.typeOf .byte = .byte from rfl]
  have hl9 : (h4 ++ [(.inr (.byte, 100) : xSh)]).length = q + 28 := by rw [List.length_append, hl]; rfl
  have ht_0 : (h4 ++ [(.inr (.byte, 100) : xSh)])[q]? = some (.inl 11) := by rw [List.getElem?_append_left (by rw [hl]; exact Nat.lt_add_of_pos_right (by decide))]; exact hs_0
  rw [hl]
  obtain ⟨h5, hh5⟩ : ∃ z, z = h4 ++ [(.inr (.byte, 100) : xSh)] := ⟨_, rfl⟩
  rw [← hh5] at hl9 ht_0 ⊢
  clear hl
  have hl := hl9
  clear hl9
  clear hs_0
  have hs_0 := ht_0
  clear ht_0
  obtain ⟨I6, hI6⟩ : ∃ z, z = upc I5 (q + 27) (fun _ => 0) := ⟨_, rfl⟩
  rw [show upc I5 (q + 27) (fun _ => 0) = I6 from hI6.symm]
  obtain ⟨J5, hJ5⟩ : ∃ z, z = upc J4 (q + 27) (fun _ => 0) := ⟨_, rfl⟩
  rw [show upc J4 (q + 27) (fun _ => 0) = J5 from hJ5.symm]
  obtain ⟨K7, hK7⟩ : ∃ z, z = upc K6 (q + 27) (fun _ => none) := ⟨_, rfl⟩
  rw [show upc K6 (q + 27) (fun _ => none) = K7 from hK7.symm]
  refine p_putRv k54_36 hs_0 f_11_25_11 n_54_11_3 ?_
  obtain ⟨K8, hK8⟩ : ∃ z, z = sK K7 q 3 (some (q + 27)) := ⟨_, rfl⟩
  rw [show upc K7 q (upc (K7 q) 3 (some (q + 27))) = K8 from hK8.symm]
  refine p_aload_n k54_39 rfl ?_
  refine p_iconst (v := nI 0) k54_40 (by decide) ?_
  refine p_putIv k54_41 hs_0 g_11_29_11 n_54_11_4 ?_
  obtain ⟨I7, hI7⟩ : ∃ z, z = s1 I6 q 4 (nI (0)) := ⟨_, rfl⟩
  rw [show upc I6 q (upc (I6 q) 4 (nI (0))) = I7 from hI7.symm]
  refine p_aload_n k54_44 rfl ?_
  refine p_bipush (v := nI 6) k54_45 (by decide) ?_
  refine p_newq (ci := 8) (N := 6) k54_47 (by decide) xaty_8 (by decide) (by decide) (by decide) (by omega) ?_
  have hl9 : (h5 ++ [(.inr (.object (xR 8), 6) : xSh)]).length = q + 29 := by rw [List.length_append, hl]; rfl
  have ht_0 : (h5 ++ [(.inr (.object (xR 8), 6) : xSh)])[q]? = some (.inl 11) := by rw [List.getElem?_append_left (by rw [hl]; exact Nat.lt_add_of_pos_right (by decide))]; exact hs_0
  have ht_28 : (h5 ++ [(.inr (.object (xR 8), 6) : xSh)])[q + 28]? = some (.inr (.object (xR 8), 6) : xSh) := by rw [List.getElem?_append_right (by omega), hl, show q + 28 - (q + 28) = 0 by omega]; rfl
  rw [hl]
  obtain ⟨h6, hh6⟩ : ∃ z, z = h5 ++ [(.inr (.object (xR 8), 6) : xSh)] := ⟨_, rfl⟩
  rw [← hh6] at hl9 ht_0 ht_28 ⊢
  clear hl
  have hl := hl9
  clear hl9
  clear hs_0
  have hs_0 := ht_0
  clear ht_0
  have hs_28 := ht_28
  clear ht_28
  obtain ⟨I8, hI8⟩ : ∃ z, z = upc I7 (q + 28) (fun _ => 0) := ⟨_, rfl⟩
  rw [show upc I7 (q + 28) (fun _ => 0) = I8 from hI8.symm]
  obtain ⟨J6, hJ6⟩ : ∃ z, z = upc J5 (q + 28) (fun _ => 0) := ⟨_, rfl⟩
  rw [show upc J5 (q + 28) (fun _ => 0) = J6 from hJ6.symm]
  obtain ⟨K9, hK9⟩ : ∃ z, z = upc K8 (q + 28) (fun _ => none) := ⟨_, rfl⟩
  rw [show upc K8 (q + 28) (fun _ => none) = K9 from hK9.symm]
  refine p_putRv k54_50 hs_0 f_11_35_11 n_54_11_5 ?_
  obtain ⟨K10, hK10⟩ : ∃ z, z = sK K9 q 5 (some (q + 28)) := ⟨_, rfl⟩
  rw [show upc K9 q (upc (K9 q) 5 (some (q + 28))) = K10 from hK10.symm]
  have hk_5 : K10 q 5 = (some (q + 28)) := by rw [hK10]; exact sK_eq
  refine p_aload_n k54_53 rfl ?_
  refine p_new (ci := 8) k54_54 (by decide) (by omega) ?_
  have hl9 : (h6 ++ [(.inl 8 : xSh)]).length = q + 30 := by rw [List.length_append, hl]; rfl
  have ht_0 : (h6 ++ [(.inl 8 : xSh)])[q]? = some (.inl 11) := by rw [List.getElem?_append_left (by rw [hl]; exact Nat.lt_add_of_pos_right (by decide))]; exact hs_0
  have ht_28 : (h6 ++ [(.inl 8 : xSh)])[q + 28]? = some (.inr (.object (xR 8), 6) : xSh) := by rw [List.getElem?_append_left (by rw [hl]; exact Nat.add_lt_add_left (by decide) q)]; exact hs_28
  have ht_29 : (h6 ++ [(.inl 8 : xSh)])[q + 29]? = some (.inl 8 : xSh) := by rw [List.getElem?_append_right (by omega), hl, show q + 29 - (q + 29) = 0 by omega]; rfl
  rw [hl]
  obtain ⟨h7, hh7⟩ : ∃ z, z = h6 ++ [(.inl 8 : xSh)] := ⟨_, rfl⟩
  rw [← hh7] at hl9 ht_0 ht_28 ht_29 ⊢
  clear hl
  have hl := hl9
  clear hl9
  clear hs_0
  have hs_0 := ht_0
  clear ht_0
  clear hs_28
  have hs_28 := ht_28
  clear ht_28
  have hs_29 := ht_29
  clear ht_29
  obtain ⟨I9, hI9⟩ : ∃ z, z = upc I8 (q + 29) (fun _ => 0) := ⟨_, rfl⟩
  rw [show upc I8 (q + 29) (fun _ => 0) = I9 from hI9.symm]
  obtain ⟨J7, hJ7⟩ : ∃ z, z = upc J6 (q + 29) (fun _ => 0) := ⟨_, rfl⟩
  rw [show upc J6 (q + 29) (fun _ => 0) = J7 from hJ7.symm]
  obtain ⟨K11, hK11⟩ : ∃ z, z = upc K10 (q + 29) (fun _ => none) := ⟨_, rfl⟩
  rw [show upc K10 (q + 29) (fun _ => none) = K11 from hK11.symm]
  replace hk_5 : K11 q 5 = (some (q + 28)) := by rw [hK11, upc_ne _ _ (Nat.ne_of_lt (Nat.lt_add_of_pos_right (by decide)))]; exact hk_5
  refine p_dup k54_57 rfl ?_
  refine p_cI0v k54_58 c_11_39 (Nat.le_of_ble_eq_true rfl) (C_twn (q := q + 29) (by omega) (by omega) hs_29) (fun m1 hq => ?_)
  obtain rfl := hq
  obtain ⟨I10, hI10⟩ : ∃ z, z = twnI I9 (q + 29) := ⟨_, rfl⟩
  rw [show twnI I9 (q + 29) = I10 from hI10.symm]
  obtain ⟨J8, hJ8⟩ : ∃ z, z = twnJ J7 (q + 29) := ⟨_, rfl⟩
  rw [show twnJ J7 (q + 29) = J8 from hJ8.symm]
  obtain ⟨K12, hK12⟩ : ∃ z, z = twnK K11 (q + 29) := ⟨_, rfl⟩
  rw [show twnK K11 (q + 29) = K12 from hK12.symm]
  replace hk_5 : K12 q 5 = (some (q + 28)) := by rw [hK12, twnK_lo (Nat.lt_add_of_pos_right (by decide))]; exact hk_5
  have hl9 : (twnH h7).length = q + 36 := by rw [twn_len, hl]
  have ht_0 : (twnH h7)[q]? = some (.inl 11) := by rw [twn_at (by rw [hl]; exact Nat.lt_add_of_pos_right (by decide))]; exact hs_0
  have ht_28 : (twnH h7)[q + 28]? = some (.inr (.object (xR 8), 6) : xSh) := by rw [twn_at (by rw [hl]; exact Nat.add_lt_add_left (by decide) q)]; exact hs_28
  have ht_29 : (twnH h7)[q + 29]? = some (.inl 8 : xSh) := by rw [twn_at (by rw [hl]; exact Nat.add_lt_add_left (by decide) q)]; exact hs_29
  obtain ⟨h8, hh8⟩ : ∃ z, z = twnH h7 := ⟨_, rfl⟩
  rw [← hh8] at hl9 ht_0 ht_28 ht_29 ⊢
  clear hl
  have hl := hl9
  clear hl9
  clear hs_0
  have hs_0 := ht_0
  clear ht_0
  clear hs_28
  have hs_28 := ht_28
  clear ht_28
  clear hs_29
  have hs_29 := ht_29
  clear ht_29
  refine p_putRv k54_61 hs_0 f_11_40_11 n_54_11_6 ?_
  clear hs_29
  obtain ⟨K13, hK13⟩ : ∃ z, z = sK K12 q 6 (some (q + 29)) := ⟨_, rfl⟩
  rw [show upc K12 q (upc (K12 q) 6 (some (q + 29))) = K13 from hK13.symm]
  replace hk_5 : K13 q 5 = (some (q + 28)) := by rw [hK13]; exact (sK_nk (by decide)).trans hk_5
  refine p_aload_n k54_64 rfl ?_
  refine p_iconst (v := nI 0) k54_65 (by decide) ?_
  refine p_putIv k54_66 hs_0 g_11_44_11 n_54_11_7 ?_
  obtain ⟨I11, hI11⟩ : ∃ z, z = s1 I10 q 7 (nI (0)) := ⟨_, rfl⟩
  rw [show upc I10 q (upc (I10 q) 7 (nI (0))) = I11 from hI11.symm]
  refine p_aload_n k54_69 rfl ?_
  refine p_new (ci := 9) k54_70 (by decide) (by omega) ?_
  have hl9 : (h8 ++ [(.inl 9 : xSh)]).length = q + 37 := by rw [List.length_append, hl]; rfl
  have ht_0 : (h8 ++ [(.inl 9 : xSh)])[q]? = some (.inl 11) := by rw [List.getElem?_append_left (by rw [hl]; exact Nat.lt_add_of_pos_right (by decide))]; exact hs_0
  have ht_28 : (h8 ++ [(.inl 9 : xSh)])[q + 28]? = some (.inr (.object (xR 8), 6) : xSh) := by rw [List.getElem?_append_left (by rw [hl]; exact Nat.add_lt_add_left (by decide) q)]; exact hs_28
  have ht_36 : (h8 ++ [(.inl 9 : xSh)])[q + 36]? = some (.inl 9 : xSh) := by rw [List.getElem?_append_right (by omega), hl, show q + 36 - (q + 36) = 0 by omega]; rfl
  rw [hl]
  obtain ⟨h9, hh9⟩ : ∃ z, z = h8 ++ [(.inl 9 : xSh)] := ⟨_, rfl⟩
  rw [← hh9] at hl9 ht_0 ht_28 ht_36 ⊢
  clear hl
  have hl := hl9
  clear hl9
  clear hs_0
  have hs_0 := ht_0
  clear ht_0
  clear hs_28
  have hs_28 := ht_28
  clear ht_28
  have hs_36 := ht_36
  clear ht_36
  obtain ⟨I12, hI12⟩ : ∃ z, z = upc I11 (q + 36) (fun _ => 0) := ⟨_, rfl⟩
  rw [show upc I11 (q + 36) (fun _ => 0) = I12 from hI12.symm]
  obtain ⟨J9, hJ9⟩ : ∃ z, z = upc J8 (q + 36) (fun _ => 0) := ⟨_, rfl⟩
  rw [show upc J8 (q + 36) (fun _ => 0) = J9 from hJ9.symm]
  obtain ⟨K14, hK14⟩ : ∃ z, z = upc K13 (q + 36) (fun _ => none) := ⟨_, rfl⟩
  rw [show upc K13 (q + 36) (fun _ => none) = K14 from hK14.symm]
  replace hk_5 : K14 q 5 = (some (q + 28)) := by rw [hK14, upc_ne _ _ (Nat.ne_of_lt (Nat.lt_add_of_pos_right (by decide)))]; exact hk_5
  refine p_dup k54_73 rfl ?_
  refine p_cI0v k54_74 c_11_49 (Nat.le_of_ble_eq_true rfl) (C_trc (q := q + 36) (by omega) (by omega) hs_36) (fun m1 hq => ?_)
  obtain rfl := hq
  obtain ⟨I13, hI13⟩ : ∃ z, z = trcI I12 (q + 36) := ⟨_, rfl⟩
  rw [show trcI I12 (q + 36) = I13 from hI13.symm]
  obtain ⟨J10, hJ10⟩ : ∃ z, z = trcJ J9 (q + 36) := ⟨_, rfl⟩
  rw [show trcJ J9 (q + 36) = J10 from hJ10.symm]
  obtain ⟨K15, hK15⟩ : ∃ z, z = trcK K14 (q + 36) := ⟨_, rfl⟩
  rw [show trcK K14 (q + 36) = K15 from hK15.symm]
  replace hk_5 : K15 q 5 = (some (q + 28)) := by rw [hK15, trcK_lo (Nat.lt_add_of_pos_right (by decide))]; exact hk_5
  have hl9 : (trcH h9).length = q + 38 := by rw [trc_len, hl]
  have ht_0 : (trcH h9)[q]? = some (.inl 11) := by rw [trc_at (by rw [hl]; exact Nat.lt_add_of_pos_right (by decide))]; exact hs_0
  have ht_28 : (trcH h9)[q + 28]? = some (.inr (.object (xR 8), 6) : xSh) := by rw [trc_at (by rw [hl]; exact Nat.add_lt_add_left (by decide) q)]; exact hs_28
  have ht_36 : (trcH h9)[q + 36]? = some (.inl 9 : xSh) := by rw [trc_at (by rw [hl]; exact Nat.add_lt_add_left (by decide) q)]; exact hs_36
  obtain ⟨h10, hh10⟩ : ∃ z, z = trcH h9 := ⟨_, rfl⟩
  rw [← hh10] at hl9 ht_0 ht_28 ht_36 ⊢
  clear hl
  have hl := hl9
  clear hl9
  clear hs_0
  have hs_0 := ht_0
  clear ht_0
  clear hs_28
  have hs_28 := ht_28
  clear ht_28
  clear hs_36
  have hs_36 := ht_36
  clear ht_36
  refine p_putRv k54_77 hs_0 f_11_50_11 n_54_11_8 ?_
  clear hs_36
  obtain ⟨K16, hK16⟩ : ∃ z, z = sK K15 q 8 (some (q + 36)) := ⟨_, rfl⟩
  rw [show upc K15 q (upc (K15 q) 8 (some (q + 36))) = K16 from hK16.symm]
  replace hk_5 : K16 q 5 = (some (q + 28)) := by rw [hK16]; exact (sK_nk (by decide)).trans hk_5
  refine p_aload_n k54_80 rfl ?_
  refine p_bipush (v := nI 6) k54_81 (by decide) ?_
  refine p_newq (ci := 5) (N := 6) k54_83 (by decide) xaty_5 (by decide) (by decide) (by decide) (by omega) ?_
  have hl9 : (h10 ++ [(.inr (.object (xR 5), 6) : xSh)]).length = q + 39 := by rw [List.length_append, hl]; rfl
  have ht_0 : (h10 ++ [(.inr (.object (xR 5), 6) : xSh)])[q]? = some (.inl 11) := by rw [List.getElem?_append_left (by rw [hl]; exact Nat.lt_add_of_pos_right (by decide))]; exact hs_0
  have ht_28 : (h10 ++ [(.inr (.object (xR 5), 6) : xSh)])[q + 28]? = some (.inr (.object (xR 8), 6) : xSh) := by rw [List.getElem?_append_left (by rw [hl]; exact Nat.add_lt_add_left (by decide) q)]; exact hs_28
  have ht_38 : (h10 ++ [(.inr (.object (xR 5), 6) : xSh)])[q + 38]? = some (.inr (.object (xR 5), 6) : xSh) := by rw [List.getElem?_append_right (by omega), hl, show q + 38 - (q + 38) = 0 by omega]; rfl
  rw [hl]
  obtain ⟨h11, hh11⟩ : ∃ z, z = h10 ++ [(.inr (.object (xR 5), 6) : xSh)] := ⟨_, rfl⟩
  rw [← hh11] at hl9 ht_0 ht_28 ht_38 ⊢
  clear hl
  have hl := hl9
  clear hl9
  clear hs_0
  have hs_0 := ht_0
  clear ht_0
  clear hs_28
  have hs_28 := ht_28
  clear ht_28
  have hs_38 := ht_38
  clear ht_38
  obtain ⟨I14, hI14⟩ : ∃ z, z = upc I13 (q + 38) (fun _ => 0) := ⟨_, rfl⟩
  rw [show upc I13 (q + 38) (fun _ => 0) = I14 from hI14.symm]
  obtain ⟨J11, hJ11⟩ : ∃ z, z = upc J10 (q + 38) (fun _ => 0) := ⟨_, rfl⟩
  rw [show upc J10 (q + 38) (fun _ => 0) = J11 from hJ11.symm]
  obtain ⟨K17, hK17⟩ : ∃ z, z = upc K16 (q + 38) (fun _ => none) := ⟨_, rfl⟩
  rw [show upc K16 (q + 38) (fun _ => none) = K17 from hK17.symm]
  replace hk_5 : K17 q 5 = (some (q + 28)) := by rw [hK17, upc_ne _ _ (Nat.ne_of_lt (Nat.lt_add_of_pos_right (by decide)))]; exact hk_5
  refine p_putRv k54_86 hs_0 f_11_56_11 n_54_11_9 ?_
  obtain ⟨K18, hK18⟩ : ∃ z, z = sK K17 q 9 (some (q + 38)) := ⟨_, rfl⟩
  rw [show upc K17 q (upc (K17 q) 9 (some (q + 38))) = K18 from hK18.symm]
  replace hk_5 : K18 q 5 = (some (q + 28)) := by rw [hK18]; exact (sK_nk (by decide)).trans hk_5
  have hk_9 : K18 q 9 = (some (q + 38)) := by rw [hK18]; exact sK_eq
  refine p_aload_n k54_89 rfl ?_
  refine p_ldcs (k := 0) k54_90 (by decide) ?_
  refine p_cT0i k54_92 (by omega) c_11_62 (Nat.le_of_ble_eq_true rfl) (C_length0 (k := 0) (by decide)) (fun x1 m1 hq => ?_)
  obtain ⟨rfl, rfl⟩ := hq
  refine p_newa (N := 6) k54_95 xa1_int (by decide) (by decide) (by decide) (by omega) ?_
  rw [show newarray.typeOf .int = .int from rfl]
  have hl9 : (h11 ++ [(.inr (.int, 6) : xSh)]).length = q + 40 := by rw [List.length_append, hl]; rfl
  have ht_0 : (h11 ++ [(.inr (.int, 6) : xSh)])[q]? = some (.inl 11) := by rw [List.getElem?_append_left (by rw [hl]; exact Nat.lt_add_of_pos_right (by decide))]; exact hs_0
  have ht_28 : (h11 ++ [(.inr (.int, 6) : xSh)])[q + 28]? = some (.inr (.object (xR 8), 6) : xSh) := by rw [List.getElem?_append_left (by rw [hl]; exact Nat.add_lt_add_left (by decide) q)]; exact hs_28
  have ht_38 : (h11 ++ [(.inr (.int, 6) : xSh)])[q + 38]? = some (.inr (.object (xR 5), 6) : xSh) := by rw [List.getElem?_append_left (by rw [hl]; exact Nat.add_lt_add_left (by decide) q)]; exact hs_38
  rw [hl]
  obtain ⟨h12, hh12⟩ : ∃ z, z = h11 ++ [(.inr (.int, 6) : xSh)] := ⟨_, rfl⟩
  rw [← hh12] at hl9 ht_0 ht_28 ht_38 ⊢
  clear hl
  have hl := hl9
  clear hl9
  clear hs_0
  have hs_0 := ht_0
  clear ht_0
  clear hs_28
  have hs_28 := ht_28
  clear ht_28
  clear hs_38
  have hs_38 := ht_38
  clear ht_38
  obtain ⟨I15, hI15⟩ : ∃ z, z = upc I14 (q + 39) (fun _ => 0) := ⟨_, rfl⟩
  rw [show upc I14 (q + 39) (fun _ => 0) = I15 from hI15.symm]
  obtain ⟨J12, hJ12⟩ : ∃ z, z = upc J11 (q + 39) (fun _ => 0) := ⟨_, rfl⟩
  rw [show upc J11 (q + 39) (fun _ => 0) = J12 from hJ12.symm]
  obtain ⟨K19, hK19⟩ : ∃ z, z = upc K18 (q + 39) (fun _ => none) := ⟨_, rfl⟩
  rw [show upc K18 (q + 39) (fun _ => none) = K19 from hK19.symm]
  replace hk_5 : K19 q 5 = (some (q + 28)) := by rw [hK19, upc_ne _ _ (Nat.ne_of_lt (Nat.lt_add_of_pos_right (by decide)))]; exact hk_5
  replace hk_9 : K19 q 9 = (some (q + 38)) := by rw [hK19, upc_ne _ _ (Nat.ne_of_lt (Nat.lt_add_of_pos_right (by decide)))]; exact hk_9
  refine p_putRv k54_97 hs_0 f_11_68_11 n_54_11_10 ?_
  obtain ⟨K20, hK20⟩ : ∃ z, z = sK K19 q 10 (some (q + 39)) := ⟨_, rfl⟩
  rw [show upc K19 q (upc (K19 q) 10 (some (q + 39))) = K20 from hK20.symm]
  replace hk_5 : K20 q 5 = (some (q + 28)) := by rw [hK20]; exact (sK_nk (by decide)).trans hk_5
  replace hk_9 : K20 q 9 = (some (q + 38)) := by rw [hK20]; exact (sK_nk (by decide)).trans hk_9
  refine p_aload_n k54_100 rfl ?_
  refine p_bipush (v := nI 36) k54_101 (by decide) ?_
  refine p_newa (N := 36) k54_103 xa1_int (by decide) (by decide) (by decide) (by omega) ?_
  rw [show newarray.typeOf .int = .int from rfl]
  have hl9 : (h12 ++ [(.inr (.int, 36) : xSh)]).length = q + 41 := by rw [List.length_append, hl]; rfl
  have ht_0 : (h12 ++ [(.inr (.int, 36) : xSh)])[q]? = some (.inl 11) := by rw [List.getElem?_append_left (by rw [hl]; exact Nat.lt_add_of_pos_right (by decide))]; exact hs_0
  have ht_28 : (h12 ++ [(.inr (.int, 36) : xSh)])[q + 28]? = some (.inr (.object (xR 8), 6) : xSh) := by rw [List.getElem?_append_left (by rw [hl]; exact Nat.add_lt_add_left (by decide) q)]; exact hs_28
  have ht_38 : (h12 ++ [(.inr (.int, 36) : xSh)])[q + 38]? = some (.inr (.object (xR 5), 6) : xSh) := by rw [List.getElem?_append_left (by rw [hl]; exact Nat.add_lt_add_left (by decide) q)]; exact hs_38
  rw [hl]
  obtain ⟨h13, hh13⟩ : ∃ z, z = h12 ++ [(.inr (.int, 36) : xSh)] := ⟨_, rfl⟩
  rw [← hh13] at hl9 ht_0 ht_28 ht_38 ⊢
  clear hl
  have hl := hl9
  clear hl9
  clear hs_0
  have hs_0 := ht_0
  clear ht_0
  clear hs_28
  have hs_28 := ht_28
  clear ht_28
  clear hs_38
  have hs_38 := ht_38
  clear ht_38
  obtain ⟨I16, hI16⟩ : ∃ z, z = upc I15 (q + 40) (fun _ => 0) := ⟨_, rfl⟩
  rw [show upc I15 (q + 40) (fun _ => 0) = I16 from hI16.symm]
  obtain ⟨J13, hJ13⟩ : ∃ z, z = upc J12 (q + 40) (fun _ => 0) := ⟨_, rfl⟩
  rw [show upc J12 (q + 40) (fun _ => 0) = J13 from hJ13.symm]
  obtain ⟨K21, hK21⟩ : ∃ z, z = upc K20 (q + 40) (fun _ => none) := ⟨_, rfl⟩
  rw [show upc K20 (q + 40) (fun _ => none) = K21 from hK21.symm]
  replace hk_5 : K21 q 5 = (some (q + 28)) := by rw [hK21, upc_ne _ _ (Nat.ne_of_lt (Nat.lt_add_of_pos_right (by decide)))]; exact hk_5
  replace hk_9 : K21 q 9 = (some (q + 38)) := by rw [hK21, upc_ne _ _ (Nat.ne_of_lt (Nat.lt_add_of_pos_right (by decide)))]; exact hk_9
  refine p_putRv k54_105 hs_0 f_11_72_11 n_54_11_11 ?_
  obtain ⟨K22, hK22⟩ : ∃ z, z = sK K21 q 11 (some (q + 40)) := ⟨_, rfl⟩
  rw [show upc K21 q (upc (K21 q) 11 (some (q + 40))) = K22 from hK22.symm]
  replace hk_5 : K22 q 5 = (some (q + 28)) := by rw [hK22]; exact (sK_nk (by decide)).trans hk_5
  replace hk_9 : K22 q 9 = (some (q + 38)) := by rw [hK22]; exact (sK_nk (by decide)).trans hk_9
  refine p_aload_n k54_108 rfl ?_
  refine p_sipush (v := nI 448) k54_109 (by decide) ?_
  refine p_newa (N := 448) k54_112 xa1_int (by decide) (by decide) (by decide) (by omega) ?_
  rw [show newarray.typeOf .int = .int from rfl]
  have hl9 : (h13 ++ [(.inr (.int, 448) : xSh)]).length = q + 42 := by rw [List.length_append, hl]; rfl
  have ht_0 : (h13 ++ [(.inr (.int, 448) : xSh)])[q]? = some (.inl 11) := by rw [List.getElem?_append_left (by rw [hl]; exact Nat.lt_add_of_pos_right (by decide))]; exact hs_0
  have ht_28 : (h13 ++ [(.inr (.int, 448) : xSh)])[q + 28]? = some (.inr (.object (xR 8), 6) : xSh) := by rw [List.getElem?_append_left (by rw [hl]; exact Nat.add_lt_add_left (by decide) q)]; exact hs_28
  have ht_38 : (h13 ++ [(.inr (.int, 448) : xSh)])[q + 38]? = some (.inr (.object (xR 5), 6) : xSh) := by rw [List.getElem?_append_left (by rw [hl]; exact Nat.add_lt_add_left (by decide) q)]; exact hs_38
  rw [hl]
  obtain ⟨h14, hh14⟩ : ∃ z, z = h13 ++ [(.inr (.int, 448) : xSh)] := ⟨_, rfl⟩
  rw [← hh14] at hl9 ht_0 ht_28 ht_38 ⊢
  clear hl
  have hl := hl9
  clear hl9
  clear hs_0
  have hs_0 := ht_0
  clear ht_0
  clear hs_28
  have hs_28 := ht_28
  clear ht_28
  clear hs_38
  have hs_38 := ht_38
  clear ht_38
  obtain ⟨I17, hI17⟩ : ∃ z, z = upc I16 (q + 41) (fun _ => 0) := ⟨_, rfl⟩
  rw [show upc I16 (q + 41) (fun _ => 0) = I17 from hI17.symm]
  obtain ⟨J14, hJ14⟩ : ∃ z, z = upc J13 (q + 41) (fun _ => 0) := ⟨_, rfl⟩
  rw [show upc J13 (q + 41) (fun _ => 0) = J14 from hJ14.symm]
  obtain ⟨K23, hK23⟩ : ∃ z, z = upc K22 (q + 41) (fun _ => none) := ⟨_, rfl⟩
  rw [show upc K22 (q + 41) (fun _ => none) = K23 from hK23.symm]
  replace hk_5 : K23 q 5 = (some (q + 28)) := by rw [hK23, upc_ne _ _ (Nat.ne_of_lt (Nat.lt_add_of_pos_right (by decide)))]; exact hk_5
  replace hk_9 : K23 q 9 = (some (q + 38)) := by rw [hK23, upc_ne _ _ (Nat.ne_of_lt (Nat.lt_add_of_pos_right (by decide)))]; exact hk_9
  refine p_putRv k54_114 hs_0 f_11_75_11 n_54_11_12 ?_
  obtain ⟨K24, hK24⟩ : ∃ z, z = sK K23 q 12 (some (q + 41)) := ⟨_, rfl⟩
  rw [show upc K23 q (upc (K23 q) 12 (some (q + 41))) = K24 from hK24.symm]
  replace hk_5 : K24 q 5 = (some (q + 28)) := by rw [hK24]; exact (sK_nk (by decide)).trans hk_5
  replace hk_9 : K24 q 9 = (some (q + 38)) := by rw [hK24]; exact (sK_nk (by decide)).trans hk_9
  refine p_aload_n k54_117 rfl ?_
  refine p_bipush (v := nI 64) k54_118 (by decide) ?_
  refine p_newa (N := 64) k54_120 xa1_int (by decide) (by decide) (by decide) (by omega) ?_
  rw [show newarray.typeOf .int = .int from rfl]
  have hl9 : (h14 ++ [(.inr (.int, 64) : xSh)]).length = q + 43 := by rw [List.length_append, hl]; rfl
  have ht_0 : (h14 ++ [(.inr (.int, 64) : xSh)])[q]? = some (.inl 11) := by rw [List.getElem?_append_left (by rw [hl]; exact Nat.lt_add_of_pos_right (by decide))]; exact hs_0
  have ht_28 : (h14 ++ [(.inr (.int, 64) : xSh)])[q + 28]? = some (.inr (.object (xR 8), 6) : xSh) := by rw [List.getElem?_append_left (by rw [hl]; exact Nat.add_lt_add_left (by decide) q)]; exact hs_28
  have ht_38 : (h14 ++ [(.inr (.int, 64) : xSh)])[q + 38]? = some (.inr (.object (xR 5), 6) : xSh) := by rw [List.getElem?_append_left (by rw [hl]; exact Nat.add_lt_add_left (by decide) q)]; exact hs_38
  rw [hl]
  obtain ⟨h15, hh15⟩ : ∃ z, z = h14 ++ [(.inr (.int, 64) : xSh)] := ⟨_, rfl⟩
  rw [← hh15] at hl9 ht_0 ht_28 ht_38 ⊢
  clear hl
  have hl := hl9
  clear hl9
  clear hs_0
  have hs_0 := ht_0
  clear ht_0
  clear hs_28
  have hs_28 := ht_28
  clear ht_28
  clear hs_38
  have hs_38 := ht_38
  clear ht_38
  obtain ⟨I18, hI18⟩ : ∃ z, z = upc I17 (q + 42) (fun _ => 0) := ⟨_, rfl⟩
  rw [show upc I17 (q + 42) (fun _ => 0) = I18 from hI18.symm]
  obtain ⟨J15, hJ15⟩ : ∃ z, z = upc J14 (q + 42) (fun _ => 0) := ⟨_, rfl⟩
  rw [show upc J14 (q + 42) (fun _ => 0) = J15 from hJ15.symm]
  obtain ⟨K25, hK25⟩ : ∃ z, z = upc K24 (q + 42) (fun _ => none) := ⟨_, rfl⟩
  rw [show upc K24 (q + 42) (fun _ => none) = K25 from hK25.symm]
  replace hk_5 : K25 q 5 = (some (q + 28)) := by rw [hK25, upc_ne _ _ (Nat.ne_of_lt (Nat.lt_add_of_pos_right (by decide)))]; exact hk_5
  replace hk_9 : K25 q 9 = (some (q + 38)) := by rw [hK25, upc_ne _ _ (Nat.ne_of_lt (Nat.lt_add_of_pos_right (by decide)))]; exact hk_9
  refine p_putRv k54_122 hs_0 f_11_78_11 n_54_11_13 ?_
  obtain ⟨K26, hK26⟩ : ∃ z, z = sK K25 q 13 (some (q + 42)) := ⟨_, rfl⟩
  rw [show upc K25 q (upc (K25 q) 13 (some (q + 42))) = K26 from hK26.symm]
  replace hk_5 : K26 q 5 = (some (q + 28)) := by rw [hK26]; exact (sK_nk (by decide)).trans hk_5
  replace hk_9 : K26 q 9 = (some (q + 38)) := by rw [hK26]; exact (sK_nk (by decide)).trans hk_9
  refine p_aload_n k54_125 rfl ?_
  refine p_bipush (v := nI 6) k54_126 (by decide) ?_
  refine p_newa (N := 6) k54_128 xa1_int (by decide) (by decide) (by decide) (by omega) ?_
  rw [show newarray.typeOf .int = .int from rfl]
  have hl9 : (h15 ++ [(.inr (.int, 6) : xSh)]).length = q + 44 := by rw [List.length_append, hl]; rfl
  have ht_0 : (h15 ++ [(.inr (.int, 6) : xSh)])[q]? = some (.inl 11) := by rw [List.getElem?_append_left (by rw [hl]; exact Nat.lt_add_of_pos_right (by decide))]; exact hs_0
  have ht_28 : (h15 ++ [(.inr (.int, 6) : xSh)])[q + 28]? = some (.inr (.object (xR 8), 6) : xSh) := by rw [List.getElem?_append_left (by rw [hl]; exact Nat.add_lt_add_left (by decide) q)]; exact hs_28
  have ht_38 : (h15 ++ [(.inr (.int, 6) : xSh)])[q + 38]? = some (.inr (.object (xR 5), 6) : xSh) := by rw [List.getElem?_append_left (by rw [hl]; exact Nat.add_lt_add_left (by decide) q)]; exact hs_38
  rw [hl]
  obtain ⟨h16, hh16⟩ : ∃ z, z = h15 ++ [(.inr (.int, 6) : xSh)] := ⟨_, rfl⟩
  rw [← hh16] at hl9 ht_0 ht_28 ht_38 ⊢
  clear hl
  have hl := hl9
  clear hl9
  clear hs_0
  have hs_0 := ht_0
  clear ht_0
  clear hs_28
  have hs_28 := ht_28
  clear ht_28
  clear hs_38
  have hs_38 := ht_38
  clear ht_38
  obtain ⟨I19, hI19⟩ : ∃ z, z = upc I18 (q + 43) (fun _ => 0) := ⟨_, rfl⟩
  rw [show upc I18 (q + 43) (fun _ => 0) = I19 from hI19.symm]
  obtain ⟨J16, hJ16⟩ : ∃ z, z = upc J15 (q + 43) (fun _ => 0) := ⟨_, rfl⟩
  rw [show upc J15 (q + 43) (fun _ => 0) = J16 from hJ16.symm]
  obtain ⟨K27, hK27⟩ : ∃ z, z = upc K26 (q + 43) (fun _ => none) := ⟨_, rfl⟩
  rw [show upc K26 (q + 43) (fun _ => none) = K27 from hK27.symm]
  replace hk_5 : K27 q 5 = (some (q + 28)) := by rw [hK27, upc_ne _ _ (Nat.ne_of_lt (Nat.lt_add_of_pos_right (by decide)))]; exact hk_5
  replace hk_9 : K27 q 9 = (some (q + 38)) := by rw [hK27, upc_ne _ _ (Nat.ne_of_lt (Nat.lt_add_of_pos_right (by decide)))]; exact hk_9
  refine p_putRv k54_130 hs_0 f_11_81_11 n_54_11_14 ?_
  obtain ⟨K28, hK28⟩ : ∃ z, z = sK K27 q 14 (some (q + 43)) := ⟨_, rfl⟩
  rw [show upc K27 q (upc (K27 q) 14 (some (q + 43))) = K28 from hK28.symm]
  replace hk_5 : K28 q 5 = (some (q + 28)) := by rw [hK28]; exact (sK_nk (by decide)).trans hk_5
  replace hk_9 : K28 q 9 = (some (q + 38)) := by rw [hK28]; exact (sK_nk (by decide)).trans hk_9
  refine p_iconst (v := nI 0) k54_133 (by decide) ?_
  refine p_istore_n (ls' := [(0, _), (1, _)]) k54_134 rfl ?_
  refine p_iload_n k54_135 rfl ?_
  refine p_bipush (v := nI 6) k54_136 (by decide) ?_
  refine p_icmp_geN (tgt := 173) k54_138 (by decide) (by decide) (by decide) (fun c => False.elim (by omega)) (fun _ => ?_)
  refine p_aload_n k54_141 rfl ?_
  refine p_getRv k54_142 hs_0 f_11_35_11 hk_5 ?_
  refine p_iload_n k54_145 rfl ?_
  refine p_new (ci := 8) k54_146 (by decide) (by omega) ?_
  have hl9 : (h16 ++ [(.inl 8 : xSh)]).length = q + 45 := by rw [List.length_append, hl]; rfl
  have ht_0 : (h16 ++ [(.inl 8 : xSh)])[q]? = some (.inl 11) := by rw [List.getElem?_append_left (by rw [hl]; exact Nat.lt_add_of_pos_right (by decide))]; exact hs_0
  have ht_28 : (h16 ++ [(.inl 8 : xSh)])[q + 28]? = some (.inr (.object (xR 8), 6) : xSh) := by rw [List.getElem?_append_left (by rw [hl]; exact Nat.add_lt_add_left (by decide) q)]; exact hs_28
  have ht_38 : (h16 ++ [(.inl 8 : xSh)])[q + 38]? = some (.inr (.object (xR 5), 6) : xSh) := by rw [List.getElem?_append_left (by rw [hl]; exact Nat.add_lt_add_left (by decide) q)]; exact hs_38
  have ht_44 : (h16 ++ [(.inl 8 : xSh)])[q + 44]? = some (.inl 8 : xSh) := by rw [List.getElem?_append_right (by omega), hl, show q + 44 - (q + 44) = 0 by omega]; rfl
  rw [hl]
  obtain ⟨h17, hh17⟩ : ∃ z, z = h16 ++ [(.inl 8 : xSh)] := ⟨_, rfl⟩
  rw [← hh17] at hl9 ht_0 ht_28 ht_38 ht_44 ⊢
  clear hl
  have hl := hl9
  clear hl9
  clear hs_0
  have hs_0 := ht_0
  clear ht_0
  clear hs_28
  have hs_28 := ht_28
  clear ht_28
  clear hs_38
  have hs_38 := ht_38
  clear ht_38
  have hs_44 := ht_44
  clear ht_44
  obtain ⟨I20, hI20⟩ : ∃ z, z = upc I19 (q + 44) (fun _ => 0) := ⟨_, rfl⟩
  rw [show upc I19 (q + 44) (fun _ => 0) = I20 from hI20.symm]
  obtain ⟨J17, hJ17⟩ : ∃ z, z = upc J16 (q + 44) (fun _ => 0) := ⟨_, rfl⟩
  rw [show upc J16 (q + 44) (fun _ => 0) = J17 from hJ17.symm]
  obtain ⟨K29, hK29⟩ : ∃ z, z = upc K28 (q + 44) (fun _ => none) := ⟨_, rfl⟩
  rw [show upc K28 (q + 44) (fun _ => none) = K29 from hK29.symm]
  replace hk_5 : K29 q 5 = (some (q + 28)) := by rw [hK29, upc_ne _ _ (Nat.ne_of_lt (Nat.lt_add_of_pos_right (by decide)))]; exact hk_5
  replace hk_9 : K29 q 9 = (some (q + 38)) := by rw [hK29, upc_ne _ _ (Nat.ne_of_lt (Nat.lt_add_of_pos_right (by decide)))]; exact hk_9
  refine p_dup k54_149 rfl ?_
  refine p_cI0v k54_150 c_11_39 (Nat.le_of_ble_eq_true rfl) (C_twn (q := q + 44) (by omega) (by omega) hs_44) (fun m1 hq => ?_)
  obtain rfl := hq
  obtain ⟨I21, hI21⟩ : ∃ z, z = twnI I20 (q + 44) := ⟨_, rfl⟩
  rw [show twnI I20 (q + 44) = I21 from hI21.symm]
  obtain ⟨J18, hJ18⟩ : ∃ z, z = twnJ J17 (q + 44) := ⟨_, rfl⟩
  rw [show twnJ J17 (q + 44) = J18 from hJ18.symm]
  obtain ⟨K30, hK30⟩ : ∃ z, z = twnK K29 (q + 44) := ⟨_, rfl⟩
  rw [show twnK K29 (q + 44) = K30 from hK30.symm]
  replace hk_5 : K30 q 5 = (some (q + 28)) := by rw [hK30, twnK_lo (Nat.lt_add_of_pos_right (by decide))]; exact hk_5
  replace hk_9 : K30 q 9 = (some (q + 38)) := by rw [hK30, twnK_lo (Nat.lt_add_of_pos_right (by decide))]; exact hk_9
  have hl9 : (twnH h17).length = q + 51 := by rw [twn_len, hl]
  have ht_0 : (twnH h17)[q]? = some (.inl 11) := by rw [twn_at (by rw [hl]; exact Nat.lt_add_of_pos_right (by decide))]; exact hs_0
  have ht_28 : (twnH h17)[q + 28]? = some (.inr (.object (xR 8), 6) : xSh) := by rw [twn_at (by rw [hl]; exact Nat.add_lt_add_left (by decide) q)]; exact hs_28
  have ht_38 : (twnH h17)[q + 38]? = some (.inr (.object (xR 5), 6) : xSh) := by rw [twn_at (by rw [hl]; exact Nat.add_lt_add_left (by decide) q)]; exact hs_38
  have ht_44 : (twnH h17)[q + 44]? = some (.inl 8 : xSh) := by rw [twn_at (by rw [hl]; exact Nat.add_lt_add_left (by decide) q)]; exact hs_44
  obtain ⟨h18, hh18⟩ : ∃ z, z = twnH h17 := ⟨_, rfl⟩
  rw [← hh18] at hl9 ht_0 ht_28 ht_38 ht_44 ⊢
  clear hl
  have hl := hl9
  clear hl9
  clear hs_0
  have hs_0 := ht_0
  clear ht_0
  clear hs_28
  have hs_28 := ht_28
  clear ht_28
  clear hs_38
  have hs_38 := ht_38
  clear ht_38
  clear hs_44
  have hs_44 := ht_44
  clear ht_44
  refine p_aastk k54_153 hs_28 (by omega) (by decide) xaty_8 hs_44 (Or.inl ⟨by decide, rfl⟩) ?_
  clear hs_44
  obtain ⟨K31, hK31⟩ : ∃ z, z = sK K30 (q + 28) 0 (some (q + 44)) := ⟨_, rfl⟩
  rw [show upc K30 (q + 28) (upc (K30 (q + 28)) 0 (some (q + 44))) = K31 from hK31.symm]
  replace hk_5 : K31 q 5 = (some (q + 28)) := by rw [hK31]; exact (congrFun (sK_ne (Nat.ne_of_lt (Nat.lt_add_of_pos_right (by decide)))) _).trans hk_5
  replace hk_9 : K31 q 9 = (some (q + 38)) := by rw [hK31]; exact (congrFun (sK_ne (Nat.ne_of_lt (Nat.lt_add_of_pos_right (by decide)))) _).trans hk_9
  refine p_aload_n k54_154 rfl ?_
  refine p_getRv k54_155 hs_0 f_11_56_11 hk_9 ?_
  refine p_iload_n k54_158 rfl ?_
  refine p_new (ci := 5) k54_159 (by decide) (by omega) ?_
  have hl9 : (h18 ++ [(.inl 5 : xSh)]).length = q + 52 := by rw [List.length_append, hl]; rfl
  have ht_0 : (h18 ++ [(.inl 5 : xSh)])[q]? = some (.inl 11) := by rw [List.getElem?_append_left (by rw [hl]; exact Nat.lt_add_of_pos_right (by decide))]; exact hs_0
  have ht_28 : (h18 ++ [(.inl 5 : xSh)])[q + 28]? = some (.inr (.object (xR 8), 6) : xSh) := by rw [List.getElem?_append_left (by rw [hl]; exact Nat.add_lt_add_left (by decide) q)]; exact hs_28
  have ht_38 : (h18 ++ [(.inl 5 : xSh)])[q + 38]? = some (.inr (.object (xR 5), 6) : xSh) := by rw [List.getElem?_append_left (by rw [hl]; exact Nat.add_lt_add_left (by decide) q)]; exact hs_38
  have ht_51 : (h18 ++ [(.inl 5 : xSh)])[q + 51]? = some (.inl 5 : xSh) := by rw [List.getElem?_append_right (by omega), hl, show q + 51 - (q + 51) = 0 by omega]; rfl
  rw [hl]
  obtain ⟨h19, hh19⟩ : ∃ z, z = h18 ++ [(.inl 5 : xSh)] := ⟨_, rfl⟩
  rw [← hh19] at hl9 ht_0 ht_28 ht_38 ht_51 ⊢
  clear hl
  have hl := hl9
  clear hl9
  clear hs_0
  have hs_0 := ht_0
  clear ht_0
  clear hs_28
  have hs_28 := ht_28
  clear ht_28
  clear hs_38
  have hs_38 := ht_38
  clear ht_38
  have hs_51 := ht_51
  clear ht_51
  obtain ⟨I22, hI22⟩ : ∃ z, z = upc I21 (q + 51) (fun _ => 0) := ⟨_, rfl⟩
  rw [show upc I21 (q + 51) (fun _ => 0) = I22 from hI22.symm]
  obtain ⟨J19, hJ19⟩ : ∃ z, z = upc J18 (q + 51) (fun _ => 0) := ⟨_, rfl⟩
  rw [show upc J18 (q + 51) (fun _ => 0) = J19 from hJ19.symm]
  obtain ⟨K32, hK32⟩ : ∃ z, z = upc K31 (q + 51) (fun _ => none) := ⟨_, rfl⟩
  rw [show upc K31 (q + 51) (fun _ => none) = K32 from hK32.symm]
  replace hk_5 : K32 q 5 = (some (q + 28)) := by rw [hK32, upc_ne _ _ (Nat.ne_of_lt (Nat.lt_add_of_pos_right (by decide)))]; exact hk_5
  replace hk_9 : K32 q 9 = (some (q + 38)) := by rw [hK32, upc_ne _ _ (Nat.ne_of_lt (Nat.lt_add_of_pos_right (by decide)))]; exact hk_9
  refine p_dup k54_162 rfl ?_
  refine p_cI0v k54_163 c_11_84 (Nat.le_of_ble_eq_true rfl) (C_tap (q := q + 51) (by omega) (by omega) hs_51) (fun m1 hq => ?_)
  obtain rfl := hq
  obtain ⟨I23, hI23⟩ : ∃ z, z = tapI I22 (q + 51) := ⟨_, rfl⟩
  rw [show tapI I22 (q + 51) = I23 from hI23.symm]
  obtain ⟨J20, hJ20⟩ : ∃ z, z = tapJ J19 (q + 51) := ⟨_, rfl⟩
  rw [show tapJ J19 (q + 51) = J20 from hJ20.symm]
  obtain ⟨K33, hK33⟩ : ∃ z, z = tapK K32 (q + 51) := ⟨_, rfl⟩
  rw [show tapK K32 (q + 51) = K33 from hK33.symm]
  replace hk_5 : K33 q 5 = (some (q + 28)) := by rw [hK33, tapK_lo (Nat.lt_add_of_pos_right (by decide))]; exact hk_5
  replace hk_9 : K33 q 9 = (some (q + 38)) := by rw [hK33, tapK_lo (Nat.lt_add_of_pos_right (by decide))]; exact hk_9
  have hl9 : (tapH h19).length = q + 53 := by rw [tap_len, hl]
  have ht_0 : (tapH h19)[q]? = some (.inl 11) := by rw [tap_at (by rw [hl]; exact Nat.lt_add_of_pos_right (by decide))]; exact hs_0
  have ht_28 : (tapH h19)[q + 28]? = some (.inr (.object (xR 8), 6) : xSh) := by rw [tap_at (by rw [hl]; exact Nat.add_lt_add_left (by decide) q)]; exact hs_28
  have ht_38 : (tapH h19)[q + 38]? = some (.inr (.object (xR 5), 6) : xSh) := by rw [tap_at (by rw [hl]; exact Nat.add_lt_add_left (by decide) q)]; exact hs_38
  have ht_51 : (tapH h19)[q + 51]? = some (.inl 5 : xSh) := by rw [tap_at (by rw [hl]; exact Nat.add_lt_add_left (by decide) q)]; exact hs_51
  obtain ⟨h20, hh20⟩ : ∃ z, z = tapH h19 := ⟨_, rfl⟩
  rw [← hh20] at hl9 ht_0 ht_28 ht_38 ht_51 ⊢
  clear hl
  have hl := hl9
  clear hl9
  clear hs_0
  have hs_0 := ht_0
  clear ht_0
  clear hs_28
  have hs_28 := ht_28
  clear ht_28
  clear hs_38
  have hs_38 := ht_38
  clear ht_38
  clear hs_51
  have hs_51 := ht_51
  clear ht_51
  refine p_aastk k54_166 hs_38 (by omega) (by decide) xaty_5 hs_51 (Or.inl ⟨by decide, rfl⟩) ?_
  clear hs_51
  obtain ⟨K34, hK34⟩ : ∃ z, z = sK K33 (q + 38) 0 (some (q + 51)) := ⟨_, rfl⟩
  rw [show upc K33 (q + 38) (upc (K33 (q + 38)) 0 (some (q + 51))) = K34 from hK34.symm]
  replace hk_5 : K34 q 5 = (some (q + 28)) := by rw [hK34]; exact (congrFun (sK_ne (Nat.ne_of_lt (Nat.lt_add_of_pos_right (by decide)))) _).trans hk_5
  replace hk_9 : K34 q 9 = (some (q + 38)) := by rw [hK34]; exact (congrFun (sK_ne (Nat.ne_of_lt (Nat.lt_add_of_pos_right (by decide)))) _).trans hk_9
  refine p_iincN (ls1 := [(0, _), (1, _)]) k54_167 rfl rfl ?_
  refine p_goto (tgt := 135) k54_170 (by decide) ?_
  refine p_iload_n k54_135 rfl ?_
  refine p_bipush (v := nI 6) k54_136 (by decide) ?_
  refine p_icmp_geN (tgt := 173) k54_138 (by decide) (by decide) (by decide) (fun c => False.elim (by omega)) (fun _ => ?_)
  refine p_aload_n k54_141 rfl ?_
  refine p_getRv k54_142 hs_0 f_11_35_11 hk_5 ?_
  refine p_iload_n k54_145 rfl ?_
  refine p_new (ci := 8) k54_146 (by decide) (by omega) ?_
  have hl9 : (h20 ++ [(.inl 8 : xSh)]).length = q + 54 := by rw [List.length_append, hl]; rfl
  have ht_0 : (h20 ++ [(.inl 8 : xSh)])[q]? = some (.inl 11) := by rw [List.getElem?_append_left (by rw [hl]; exact Nat.lt_add_of_pos_right (by decide))]; exact hs_0
  have ht_28 : (h20 ++ [(.inl 8 : xSh)])[q + 28]? = some (.inr (.object (xR 8), 6) : xSh) := by rw [List.getElem?_append_left (by rw [hl]; exact Nat.add_lt_add_left (by decide) q)]; exact hs_28
  have ht_38 : (h20 ++ [(.inl 8 : xSh)])[q + 38]? = some (.inr (.object (xR 5), 6) : xSh) := by rw [List.getElem?_append_left (by rw [hl]; exact Nat.add_lt_add_left (by decide) q)]; exact hs_38
  have ht_53 : (h20 ++ [(.inl 8 : xSh)])[q + 53]? = some (.inl 8 : xSh) := by rw [List.getElem?_append_right (by omega), hl, show q + 53 - (q + 53) = 0 by omega]; rfl
  rw [hl]
  obtain ⟨h21, hh21⟩ : ∃ z, z = h20 ++ [(.inl 8 : xSh)] := ⟨_, rfl⟩
  rw [← hh21] at hl9 ht_0 ht_28 ht_38 ht_53 ⊢
  clear hl
  have hl := hl9
  clear hl9
  clear hs_0
  have hs_0 := ht_0
  clear ht_0
  clear hs_28
  have hs_28 := ht_28
  clear ht_28
  clear hs_38
  have hs_38 := ht_38
  clear ht_38
  have hs_53 := ht_53
  clear ht_53
  obtain ⟨I24, hI24⟩ : ∃ z, z = upc I23 (q + 53) (fun _ => 0) := ⟨_, rfl⟩
  rw [show upc I23 (q + 53) (fun _ => 0) = I24 from hI24.symm]
  obtain ⟨J21, hJ21⟩ : ∃ z, z = upc J20 (q + 53) (fun _ => 0) := ⟨_, rfl⟩
  rw [show upc J20 (q + 53) (fun _ => 0) = J21 from hJ21.symm]
  obtain ⟨K35, hK35⟩ : ∃ z, z = upc K34 (q + 53) (fun _ => none) := ⟨_, rfl⟩
  rw [show upc K34 (q + 53) (fun _ => none) = K35 from hK35.symm]
  replace hk_5 : K35 q 5 = (some (q + 28)) := by rw [hK35, upc_ne _ _ (Nat.ne_of_lt (Nat.lt_add_of_pos_right (by decide)))]; exact hk_5
  replace hk_9 : K35 q 9 = (some (q + 38)) := by rw [hK35, upc_ne _ _ (Nat.ne_of_lt (Nat.lt_add_of_pos_right (by decide)))]; exact hk_9
  refine p_dup k54_149 rfl ?_
  refine p_cI0v k54_150 c_11_39 (Nat.le_of_ble_eq_true rfl) (C_twn (q := q + 53) (by omega) (by omega) hs_53) (fun m1 hq => ?_)
  obtain rfl := hq
  obtain ⟨I25, hI25⟩ : ∃ z, z = twnI I24 (q + 53) := ⟨_, rfl⟩
  rw [show twnI I24 (q + 53) = I25 from hI25.symm]
  obtain ⟨J22, hJ22⟩ : ∃ z, z = twnJ J21 (q + 53) := ⟨_, rfl⟩
  rw [show twnJ J21 (q + 53) = J22 from hJ22.symm]
  obtain ⟨K36, hK36⟩ : ∃ z, z = twnK K35 (q + 53) := ⟨_, rfl⟩
  rw [show twnK K35 (q + 53) = K36 from hK36.symm]
  replace hk_5 : K36 q 5 = (some (q + 28)) := by rw [hK36, twnK_lo (Nat.lt_add_of_pos_right (by decide))]; exact hk_5
  replace hk_9 : K36 q 9 = (some (q + 38)) := by rw [hK36, twnK_lo (Nat.lt_add_of_pos_right (by decide))]; exact hk_9
  have hl9 : (twnH h21).length = q + 60 := by rw [twn_len, hl]
  have ht_0 : (twnH h21)[q]? = some (.inl 11) := by rw [twn_at (by rw [hl]; exact Nat.lt_add_of_pos_right (by decide))]; exact hs_0
  have ht_28 : (twnH h21)[q + 28]? = some (.inr (.object (xR 8), 6) : xSh) := by rw [twn_at (by rw [hl]; exact Nat.add_lt_add_left (by decide) q)]; exact hs_28
  have ht_38 : (twnH h21)[q + 38]? = some (.inr (.object (xR 5), 6) : xSh) := by rw [twn_at (by rw [hl]; exact Nat.add_lt_add_left (by decide) q)]; exact hs_38
  have ht_53 : (twnH h21)[q + 53]? = some (.inl 8 : xSh) := by rw [twn_at (by rw [hl]; exact Nat.add_lt_add_left (by decide) q)]; exact hs_53
  obtain ⟨h22, hh22⟩ : ∃ z, z = twnH h21 := ⟨_, rfl⟩
  rw [← hh22] at hl9 ht_0 ht_28 ht_38 ht_53 ⊢
  clear hl
  have hl := hl9
  clear hl9
  clear hs_0
  have hs_0 := ht_0
  clear ht_0
  clear hs_28
  have hs_28 := ht_28
  clear ht_28
  clear hs_38
  have hs_38 := ht_38
  clear ht_38
  clear hs_53
  have hs_53 := ht_53
  clear ht_53
  refine p_aastk k54_153 hs_28 (by omega) (by decide) xaty_8 hs_53 (Or.inl ⟨by decide, rfl⟩) ?_
  clear hs_53
  obtain ⟨K37, hK37⟩ : ∃ z, z = sK K36 (q + 28) 1 (some (q + 53)) := ⟨_, rfl⟩
  rw [show upc K36 (q + 28) (upc (K36 (q + 28)) 1 (some (q + 53))) = K37 from hK37.symm]
  replace hk_5 : K37 q 5 = (some (q + 28)) := by rw [hK37]; exact (congrFun (sK_ne (Nat.ne_of_lt (Nat.lt_add_of_pos_right (by decide)))) _).trans hk_5
  replace hk_9 : K37 q 9 = (some (q + 38)) := by rw [hK37]; exact (congrFun (sK_ne (Nat.ne_of_lt (Nat.lt_add_of_pos_right (by decide)))) _).trans hk_9
  refine p_aload_n k54_154 rfl ?_
  refine p_getRv k54_155 hs_0 f_11_56_11 hk_9 ?_
  refine p_iload_n k54_158 rfl ?_
  refine p_new (ci := 5) k54_159 (by decide) (by omega) ?_
  have hl9 : (h22 ++ [(.inl 5 : xSh)]).length = q + 61 := by rw [List.length_append, hl]; rfl
  have ht_0 : (h22 ++ [(.inl 5 : xSh)])[q]? = some (.inl 11) := by rw [List.getElem?_append_left (by rw [hl]; exact Nat.lt_add_of_pos_right (by decide))]; exact hs_0
  have ht_28 : (h22 ++ [(.inl 5 : xSh)])[q + 28]? = some (.inr (.object (xR 8), 6) : xSh) := by rw [List.getElem?_append_left (by rw [hl]; exact Nat.add_lt_add_left (by decide) q)]; exact hs_28
  have ht_38 : (h22 ++ [(.inl 5 : xSh)])[q + 38]? = some (.inr (.object (xR 5), 6) : xSh) := by rw [List.getElem?_append_left (by rw [hl]; exact Nat.add_lt_add_left (by decide) q)]; exact hs_38
  have ht_60 : (h22 ++ [(.inl 5 : xSh)])[q + 60]? = some (.inl 5 : xSh) := by rw [List.getElem?_append_right (by omega), hl, show q + 60 - (q + 60) = 0 by omega]; rfl
  rw [hl]
  obtain ⟨h23, hh23⟩ : ∃ z, z = h22 ++ [(.inl 5 : xSh)] := ⟨_, rfl⟩
  rw [← hh23] at hl9 ht_0 ht_28 ht_38 ht_60 ⊢
  clear hl
  have hl := hl9
  clear hl9
  clear hs_0
  have hs_0 := ht_0
  clear ht_0
  clear hs_28
  have hs_28 := ht_28
  clear ht_28
  clear hs_38
  have hs_38 := ht_38
  clear ht_38
  have hs_60 := ht_60
  clear ht_60
  obtain ⟨I26, hI26⟩ : ∃ z, z = upc I25 (q + 60) (fun _ => 0) := ⟨_, rfl⟩
  rw [show upc I25 (q + 60) (fun _ => 0) = I26 from hI26.symm]
  obtain ⟨J23, hJ23⟩ : ∃ z, z = upc J22 (q + 60) (fun _ => 0) := ⟨_, rfl⟩
  rw [show upc J22 (q + 60) (fun _ => 0) = J23 from hJ23.symm]
  obtain ⟨K38, hK38⟩ : ∃ z, z = upc K37 (q + 60) (fun _ => none) := ⟨_, rfl⟩
  rw [show upc K37 (q + 60) (fun _ => none) = K38 from hK38.symm]
  replace hk_5 : K38 q 5 = (some (q + 28)) := by rw [hK38, upc_ne _ _ (Nat.ne_of_lt (Nat.lt_add_of_pos_right (by decide)))]; exact hk_5
  replace hk_9 : K38 q 9 = (some (q + 38)) := by rw [hK38, upc_ne _ _ (Nat.ne_of_lt (Nat.lt_add_of_pos_right (by decide)))]; exact hk_9
  refine p_dup k54_162 rfl ?_
  refine p_cI0v k54_163 c_11_84 (Nat.le_of_ble_eq_true rfl) (C_tap (q := q + 60) (by omega) (by omega) hs_60) (fun m1 hq => ?_)
  obtain rfl := hq
  obtain ⟨I27, hI27⟩ : ∃ z, z = tapI I26 (q + 60) := ⟨_, rfl⟩
  rw [show tapI I26 (q + 60) = I27 from hI27.symm]
  obtain ⟨J24, hJ24⟩ : ∃ z, z = tapJ J23 (q + 60) := ⟨_, rfl⟩
  rw [show tapJ J23 (q + 60) = J24 from hJ24.symm]
  obtain ⟨K39, hK39⟩ : ∃ z, z = tapK K38 (q + 60) := ⟨_, rfl⟩
  rw [show tapK K38 (q + 60) = K39 from hK39.symm]
  replace hk_5 : K39 q 5 = (some (q + 28)) := by rw [hK39, tapK_lo (Nat.lt_add_of_pos_right (by decide))]; exact hk_5
  replace hk_9 : K39 q 9 = (some (q + 38)) := by rw [hK39, tapK_lo (Nat.lt_add_of_pos_right (by decide))]; exact hk_9
  have hl9 : (tapH h23).length = q + 62 := by rw [tap_len, hl]
  have ht_0 : (tapH h23)[q]? = some (.inl 11) := by rw [tap_at (by rw [hl]; exact Nat.lt_add_of_pos_right (by decide))]; exact hs_0
  have ht_28 : (tapH h23)[q + 28]? = some (.inr (.object (xR 8), 6) : xSh) := by rw [tap_at (by rw [hl]; exact Nat.add_lt_add_left (by decide) q)]; exact hs_28
  have ht_38 : (tapH h23)[q + 38]? = some (.inr (.object (xR 5), 6) : xSh) := by rw [tap_at (by rw [hl]; exact Nat.add_lt_add_left (by decide) q)]; exact hs_38
  have ht_60 : (tapH h23)[q + 60]? = some (.inl 5 : xSh) := by rw [tap_at (by rw [hl]; exact Nat.add_lt_add_left (by decide) q)]; exact hs_60
  obtain ⟨h24, hh24⟩ : ∃ z, z = tapH h23 := ⟨_, rfl⟩
  rw [← hh24] at hl9 ht_0 ht_28 ht_38 ht_60 ⊢
  clear hl
  have hl := hl9
  clear hl9
  clear hs_0
  have hs_0 := ht_0
  clear ht_0
  clear hs_28
  have hs_28 := ht_28
  clear ht_28
  clear hs_38
  have hs_38 := ht_38
  clear ht_38
  clear hs_60
  have hs_60 := ht_60
  clear ht_60
  refine p_aastk k54_166 hs_38 (by omega) (by decide) xaty_5 hs_60 (Or.inl ⟨by decide, rfl⟩) ?_
  clear hs_60
  obtain ⟨K40, hK40⟩ : ∃ z, z = sK K39 (q + 38) 1 (some (q + 60)) := ⟨_, rfl⟩
  rw [show upc K39 (q + 38) (upc (K39 (q + 38)) 1 (some (q + 60))) = K40 from hK40.symm]
  replace hk_5 : K40 q 5 = (some (q + 28)) := by rw [hK40]; exact (congrFun (sK_ne (Nat.ne_of_lt (Nat.lt_add_of_pos_right (by decide)))) _).trans hk_5
  replace hk_9 : K40 q 9 = (some (q + 38)) := by rw [hK40]; exact (congrFun (sK_ne (Nat.ne_of_lt (Nat.lt_add_of_pos_right (by decide)))) _).trans hk_9
  refine p_iincN (ls1 := [(0, _), (1, _)]) k54_167 rfl rfl ?_
  refine p_goto (tgt := 135) k54_170 (by decide) ?_
  refine p_iload_n k54_135 rfl ?_
  refine p_bipush (v := nI 6) k54_136 (by decide) ?_
  refine p_icmp_geN (tgt := 173) k54_138 (by decide) (by decide) (by decide) (fun c => False.elim (by omega)) (fun _ => ?_)
  refine p_aload_n k54_141 rfl ?_
  refine p_getRv k54_142 hs_0 f_11_35_11 hk_5 ?_
  refine p_iload_n k54_145 rfl ?_
  refine p_new (ci := 8) k54_146 (by decide) (by omega) ?_
  have hl9 : (h24 ++ [(.inl 8 : xSh)]).length = q + 63 := by rw [List.length_append, hl]; rfl
  have ht_0 : (h24 ++ [(.inl 8 : xSh)])[q]? = some (.inl 11) := by rw [List.getElem?_append_left (by rw [hl]; exact Nat.lt_add_of_pos_right (by decide))]; exact hs_0
  have ht_28 : (h24 ++ [(.inl 8 : xSh)])[q + 28]? = some (.inr (.object (xR 8), 6) : xSh) := by rw [List.getElem?_append_left (by rw [hl]; exact Nat.add_lt_add_left (by decide) q)]; exact hs_28
  have ht_38 : (h24 ++ [(.inl 8 : xSh)])[q + 38]? = some (.inr (.object (xR 5), 6) : xSh) := by rw [List.getElem?_append_left (by rw [hl]; exact Nat.add_lt_add_left (by decide) q)]; exact hs_38
  have ht_62 : (h24 ++ [(.inl 8 : xSh)])[q + 62]? = some (.inl 8 : xSh) := by rw [List.getElem?_append_right (by omega), hl, show q + 62 - (q + 62) = 0 by omega]; rfl
  rw [hl]
  obtain ⟨h25, hh25⟩ : ∃ z, z = h24 ++ [(.inl 8 : xSh)] := ⟨_, rfl⟩
  rw [← hh25] at hl9 ht_0 ht_28 ht_38 ht_62 ⊢
  clear hl
  have hl := hl9
  clear hl9
  clear hs_0
  have hs_0 := ht_0
  clear ht_0
  clear hs_28
  have hs_28 := ht_28
  clear ht_28
  clear hs_38
  have hs_38 := ht_38
  clear ht_38
  have hs_62 := ht_62
  clear ht_62
  obtain ⟨I28, hI28⟩ : ∃ z, z = upc I27 (q + 62) (fun _ => 0) := ⟨_, rfl⟩
  rw [show upc I27 (q + 62) (fun _ => 0) = I28 from hI28.symm]
  obtain ⟨J25, hJ25⟩ : ∃ z, z = upc J24 (q + 62) (fun _ => 0) := ⟨_, rfl⟩
  rw [show upc J24 (q + 62) (fun _ => 0) = J25 from hJ25.symm]
  obtain ⟨K41, hK41⟩ : ∃ z, z = upc K40 (q + 62) (fun _ => none) := ⟨_, rfl⟩
  rw [show upc K40 (q + 62) (fun _ => none) = K41 from hK41.symm]
  replace hk_5 : K41 q 5 = (some (q + 28)) := by rw [hK41, upc_ne _ _ (Nat.ne_of_lt (Nat.lt_add_of_pos_right (by decide)))]; exact hk_5
  replace hk_9 : K41 q 9 = (some (q + 38)) := by rw [hK41, upc_ne _ _ (Nat.ne_of_lt (Nat.lt_add_of_pos_right (by decide)))]; exact hk_9
  refine p_dup k54_149 rfl ?_
  refine p_cI0v k54_150 c_11_39 (Nat.le_of_ble_eq_true rfl) (C_twn (q := q + 62) (by omega) (by omega) hs_62) (fun m1 hq => ?_)
  obtain rfl := hq
  obtain ⟨I29, hI29⟩ : ∃ z, z = twnI I28 (q + 62) := ⟨_, rfl⟩
  rw [show twnI I28 (q + 62) = I29 from hI29.symm]
  obtain ⟨J26, hJ26⟩ : ∃ z, z = twnJ J25 (q + 62) := ⟨_, rfl⟩
  rw [show twnJ J25 (q + 62) = J26 from hJ26.symm]
  obtain ⟨K42, hK42⟩ : ∃ z, z = twnK K41 (q + 62) := ⟨_, rfl⟩
  rw [show twnK K41 (q + 62) = K42 from hK42.symm]
  replace hk_5 : K42 q 5 = (some (q + 28)) := by rw [hK42, twnK_lo (Nat.lt_add_of_pos_right (by decide))]; exact hk_5
  replace hk_9 : K42 q 9 = (some (q + 38)) := by rw [hK42, twnK_lo (Nat.lt_add_of_pos_right (by decide))]; exact hk_9
  have hl9 : (twnH h25).length = q + 69 := by rw [twn_len, hl]
  have ht_0 : (twnH h25)[q]? = some (.inl 11) := by rw [twn_at (by rw [hl]; exact Nat.lt_add_of_pos_right (by decide))]; exact hs_0
  have ht_28 : (twnH h25)[q + 28]? = some (.inr (.object (xR 8), 6) : xSh) := by rw [twn_at (by rw [hl]; exact Nat.add_lt_add_left (by decide) q)]; exact hs_28
  have ht_38 : (twnH h25)[q + 38]? = some (.inr (.object (xR 5), 6) : xSh) := by rw [twn_at (by rw [hl]; exact Nat.add_lt_add_left (by decide) q)]; exact hs_38
  have ht_62 : (twnH h25)[q + 62]? = some (.inl 8 : xSh) := by rw [twn_at (by rw [hl]; exact Nat.add_lt_add_left (by decide) q)]; exact hs_62
  obtain ⟨h26, hh26⟩ : ∃ z, z = twnH h25 := ⟨_, rfl⟩
  rw [← hh26] at hl9 ht_0 ht_28 ht_38 ht_62 ⊢
  clear hl
  have hl := hl9
  clear hl9
  clear hs_0
  have hs_0 := ht_0
  clear ht_0
  clear hs_28
  have hs_28 := ht_28
  clear ht_28
  clear hs_38
  have hs_38 := ht_38
  clear ht_38
  clear hs_62
  have hs_62 := ht_62
  clear ht_62
  refine p_aastk k54_153 hs_28 (by omega) (by decide) xaty_8 hs_62 (Or.inl ⟨by decide, rfl⟩) ?_
  clear hs_62
  obtain ⟨K43, hK43⟩ : ∃ z, z = sK K42 (q + 28) 2 (some (q + 62)) := ⟨_, rfl⟩
  rw [show upc K42 (q + 28) (upc (K42 (q + 28)) 2 (some (q + 62))) = K43 from hK43.symm]
  replace hk_5 : K43 q 5 = (some (q + 28)) := by rw [hK43]; exact (congrFun (sK_ne (Nat.ne_of_lt (Nat.lt_add_of_pos_right (by decide)))) _).trans hk_5
  replace hk_9 : K43 q 9 = (some (q + 38)) := by rw [hK43]; exact (congrFun (sK_ne (Nat.ne_of_lt (Nat.lt_add_of_pos_right (by decide)))) _).trans hk_9
  refine p_aload_n k54_154 rfl ?_
  refine p_getRv k54_155 hs_0 f_11_56_11 hk_9 ?_
  refine p_iload_n k54_158 rfl ?_
  refine p_new (ci := 5) k54_159 (by decide) (by omega) ?_
  have hl9 : (h26 ++ [(.inl 5 : xSh)]).length = q + 70 := by rw [List.length_append, hl]; rfl
  have ht_0 : (h26 ++ [(.inl 5 : xSh)])[q]? = some (.inl 11) := by rw [List.getElem?_append_left (by rw [hl]; exact Nat.lt_add_of_pos_right (by decide))]; exact hs_0
  have ht_28 : (h26 ++ [(.inl 5 : xSh)])[q + 28]? = some (.inr (.object (xR 8), 6) : xSh) := by rw [List.getElem?_append_left (by rw [hl]; exact Nat.add_lt_add_left (by decide) q)]; exact hs_28
  have ht_38 : (h26 ++ [(.inl 5 : xSh)])[q + 38]? = some (.inr (.object (xR 5), 6) : xSh) := by rw [List.getElem?_append_left (by rw [hl]; exact Nat.add_lt_add_left (by decide) q)]; exact hs_38
  have ht_69 : (h26 ++ [(.inl 5 : xSh)])[q + 69]? = some (.inl 5 : xSh) := by rw [List.getElem?_append_right (by omega), hl, show q + 69 - (q + 69) = 0 by omega]; rfl
  rw [hl]
  obtain ⟨h27, hh27⟩ : ∃ z, z = h26 ++ [(.inl 5 : xSh)] := ⟨_, rfl⟩
  rw [← hh27] at hl9 ht_0 ht_28 ht_38 ht_69 ⊢
  clear hl
  have hl := hl9
  clear hl9
  clear hs_0
  have hs_0 := ht_0
  clear ht_0
  clear hs_28
  have hs_28 := ht_28
  clear ht_28
  clear hs_38
  have hs_38 := ht_38
  clear ht_38
  have hs_69 := ht_69
  clear ht_69
  obtain ⟨I30, hI30⟩ : ∃ z, z = upc I29 (q + 69) (fun _ => 0) := ⟨_, rfl⟩
  rw [show upc I29 (q + 69) (fun _ => 0) = I30 from hI30.symm]
  obtain ⟨J27, hJ27⟩ : ∃ z, z = upc J26 (q + 69) (fun _ => 0) := ⟨_, rfl⟩
  rw [show upc J26 (q + 69) (fun _ => 0) = J27 from hJ27.symm]
  obtain ⟨K44, hK44⟩ : ∃ z, z = upc K43 (q + 69) (fun _ => none) := ⟨_, rfl⟩
  rw [show upc K43 (q + 69) (fun _ => none) = K44 from hK44.symm]
  replace hk_5 : K44 q 5 = (some (q + 28)) := by rw [hK44, upc_ne _ _ (Nat.ne_of_lt (Nat.lt_add_of_pos_right (by decide)))]; exact hk_5
  replace hk_9 : K44 q 9 = (some (q + 38)) := by rw [hK44, upc_ne _ _ (Nat.ne_of_lt (Nat.lt_add_of_pos_right (by decide)))]; exact hk_9
  refine p_dup k54_162 rfl ?_
  refine p_cI0v k54_163 c_11_84 (Nat.le_of_ble_eq_true rfl) (C_tap (q := q + 69) (by omega) (by omega) hs_69) (fun m1 hq => ?_)
  obtain rfl := hq
  obtain ⟨I31, hI31⟩ : ∃ z, z = tapI I30 (q + 69) := ⟨_, rfl⟩
  rw [show tapI I30 (q + 69) = I31 from hI31.symm]
  obtain ⟨J28, hJ28⟩ : ∃ z, z = tapJ J27 (q + 69) := ⟨_, rfl⟩
  rw [show tapJ J27 (q + 69) = J28 from hJ28.symm]
  obtain ⟨K45, hK45⟩ : ∃ z, z = tapK K44 (q + 69) := ⟨_, rfl⟩
  rw [show tapK K44 (q + 69) = K45 from hK45.symm]
  replace hk_5 : K45 q 5 = (some (q + 28)) := by rw [hK45, tapK_lo (Nat.lt_add_of_pos_right (by decide))]; exact hk_5
  replace hk_9 : K45 q 9 = (some (q + 38)) := by rw [hK45, tapK_lo (Nat.lt_add_of_pos_right (by decide))]; exact hk_9
  have hl9 : (tapH h27).length = q + 71 := by rw [tap_len, hl]
  have ht_0 : (tapH h27)[q]? = some (.inl 11) := by rw [tap_at (by rw [hl]; exact Nat.lt_add_of_pos_right (by decide))]; exact hs_0
  have ht_28 : (tapH h27)[q + 28]? = some (.inr (.object (xR 8), 6) : xSh) := by rw [tap_at (by rw [hl]; exact Nat.add_lt_add_left (by decide) q)]; exact hs_28
  have ht_38 : (tapH h27)[q + 38]? = some (.inr (.object (xR 5), 6) : xSh) := by rw [tap_at (by rw [hl]; exact Nat.add_lt_add_left (by decide) q)]; exact hs_38
  have ht_69 : (tapH h27)[q + 69]? = some (.inl 5 : xSh) := by rw [tap_at (by rw [hl]; exact Nat.add_lt_add_left (by decide) q)]; exact hs_69
  obtain ⟨h28, hh28⟩ : ∃ z, z = tapH h27 := ⟨_, rfl⟩
  rw [← hh28] at hl9 ht_0 ht_28 ht_38 ht_69 ⊢
  clear hl
  have hl := hl9
  clear hl9
  clear hs_0
  have hs_0 := ht_0
  clear ht_0
  clear hs_28
  have hs_28 := ht_28
  clear ht_28
  clear hs_38
  have hs_38 := ht_38
  clear ht_38
  clear hs_69
  have hs_69 := ht_69
  clear ht_69
  refine p_aastk k54_166 hs_38 (by omega) (by decide) xaty_5 hs_69 (Or.inl ⟨by decide, rfl⟩) ?_
  clear hs_69
  obtain ⟨K46, hK46⟩ : ∃ z, z = sK K45 (q + 38) 2 (some (q + 69)) := ⟨_, rfl⟩
  rw [show upc K45 (q + 38) (upc (K45 (q + 38)) 2 (some (q + 69))) = K46 from hK46.symm]
  replace hk_5 : K46 q 5 = (some (q + 28)) := by rw [hK46]; exact (congrFun (sK_ne (Nat.ne_of_lt (Nat.lt_add_of_pos_right (by decide)))) _).trans hk_5
  replace hk_9 : K46 q 9 = (some (q + 38)) := by rw [hK46]; exact (congrFun (sK_ne (Nat.ne_of_lt (Nat.lt_add_of_pos_right (by decide)))) _).trans hk_9
  refine p_iincN (ls1 := [(0, _), (1, _)]) k54_167 rfl rfl ?_
  refine p_goto (tgt := 135) k54_170 (by decide) ?_
  refine p_iload_n k54_135 rfl ?_
  refine p_bipush (v := nI 6) k54_136 (by decide) ?_
  refine p_icmp_geN (tgt := 173) k54_138 (by decide) (by decide) (by decide) (fun c => False.elim (by omega)) (fun _ => ?_)
  refine p_aload_n k54_141 rfl ?_
  refine p_getRv k54_142 hs_0 f_11_35_11 hk_5 ?_
  refine p_iload_n k54_145 rfl ?_
  refine p_new (ci := 8) k54_146 (by decide) (by omega) ?_
  have hl9 : (h28 ++ [(.inl 8 : xSh)]).length = q + 72 := by rw [List.length_append, hl]; rfl
  have ht_0 : (h28 ++ [(.inl 8 : xSh)])[q]? = some (.inl 11) := by rw [List.getElem?_append_left (by rw [hl]; exact Nat.lt_add_of_pos_right (by decide))]; exact hs_0
  have ht_28 : (h28 ++ [(.inl 8 : xSh)])[q + 28]? = some (.inr (.object (xR 8), 6) : xSh) := by rw [List.getElem?_append_left (by rw [hl]; exact Nat.add_lt_add_left (by decide) q)]; exact hs_28
  have ht_38 : (h28 ++ [(.inl 8 : xSh)])[q + 38]? = some (.inr (.object (xR 5), 6) : xSh) := by rw [List.getElem?_append_left (by rw [hl]; exact Nat.add_lt_add_left (by decide) q)]; exact hs_38
  have ht_71 : (h28 ++ [(.inl 8 : xSh)])[q + 71]? = some (.inl 8 : xSh) := by rw [List.getElem?_append_right (by omega), hl, show q + 71 - (q + 71) = 0 by omega]; rfl
  rw [hl]
  obtain ⟨h29, hh29⟩ : ∃ z, z = h28 ++ [(.inl 8 : xSh)] := ⟨_, rfl⟩
  rw [← hh29] at hl9 ht_0 ht_28 ht_38 ht_71 ⊢
  clear hl
  have hl := hl9
  clear hl9
  clear hs_0
  have hs_0 := ht_0
  clear ht_0
  clear hs_28
  have hs_28 := ht_28
  clear ht_28
  clear hs_38
  have hs_38 := ht_38
  clear ht_38
  have hs_71 := ht_71
  clear ht_71
  obtain ⟨I32, hI32⟩ : ∃ z, z = upc I31 (q + 71) (fun _ => 0) := ⟨_, rfl⟩
  rw [show upc I31 (q + 71) (fun _ => 0) = I32 from hI32.symm]
  obtain ⟨J29, hJ29⟩ : ∃ z, z = upc J28 (q + 71) (fun _ => 0) := ⟨_, rfl⟩
  rw [show upc J28 (q + 71) (fun _ => 0) = J29 from hJ29.symm]
  obtain ⟨K47, hK47⟩ : ∃ z, z = upc K46 (q + 71) (fun _ => none) := ⟨_, rfl⟩
  rw [show upc K46 (q + 71) (fun _ => none) = K47 from hK47.symm]
  replace hk_5 : K47 q 5 = (some (q + 28)) := by rw [hK47, upc_ne _ _ (Nat.ne_of_lt (Nat.lt_add_of_pos_right (by decide)))]; exact hk_5
  replace hk_9 : K47 q 9 = (some (q + 38)) := by rw [hK47, upc_ne _ _ (Nat.ne_of_lt (Nat.lt_add_of_pos_right (by decide)))]; exact hk_9
  refine p_dup k54_149 rfl ?_
  refine p_cI0v k54_150 c_11_39 (Nat.le_of_ble_eq_true rfl) (C_twn (q := q + 71) (by omega) (by omega) hs_71) (fun m1 hq => ?_)
  obtain rfl := hq
  obtain ⟨I33, hI33⟩ : ∃ z, z = twnI I32 (q + 71) := ⟨_, rfl⟩
  rw [show twnI I32 (q + 71) = I33 from hI33.symm]
  obtain ⟨J30, hJ30⟩ : ∃ z, z = twnJ J29 (q + 71) := ⟨_, rfl⟩
  rw [show twnJ J29 (q + 71) = J30 from hJ30.symm]
  obtain ⟨K48, hK48⟩ : ∃ z, z = twnK K47 (q + 71) := ⟨_, rfl⟩
  rw [show twnK K47 (q + 71) = K48 from hK48.symm]
  replace hk_5 : K48 q 5 = (some (q + 28)) := by rw [hK48, twnK_lo (Nat.lt_add_of_pos_right (by decide))]; exact hk_5
  replace hk_9 : K48 q 9 = (some (q + 38)) := by rw [hK48, twnK_lo (Nat.lt_add_of_pos_right (by decide))]; exact hk_9
  have hl9 : (twnH h29).length = q + 78 := by rw [twn_len, hl]
  have ht_0 : (twnH h29)[q]? = some (.inl 11) := by rw [twn_at (by rw [hl]; exact Nat.lt_add_of_pos_right (by decide))]; exact hs_0
  have ht_28 : (twnH h29)[q + 28]? = some (.inr (.object (xR 8), 6) : xSh) := by rw [twn_at (by rw [hl]; exact Nat.add_lt_add_left (by decide) q)]; exact hs_28
  have ht_38 : (twnH h29)[q + 38]? = some (.inr (.object (xR 5), 6) : xSh) := by rw [twn_at (by rw [hl]; exact Nat.add_lt_add_left (by decide) q)]; exact hs_38
  have ht_71 : (twnH h29)[q + 71]? = some (.inl 8 : xSh) := by rw [twn_at (by rw [hl]; exact Nat.add_lt_add_left (by decide) q)]; exact hs_71
  obtain ⟨h30, hh30⟩ : ∃ z, z = twnH h29 := ⟨_, rfl⟩
  rw [← hh30] at hl9 ht_0 ht_28 ht_38 ht_71 ⊢
  clear hl
  have hl := hl9
  clear hl9
  clear hs_0
  have hs_0 := ht_0
  clear ht_0
  clear hs_28
  have hs_28 := ht_28
  clear ht_28
  clear hs_38
  have hs_38 := ht_38
  clear ht_38
  clear hs_71
  have hs_71 := ht_71
  clear ht_71
  refine p_aastk k54_153 hs_28 (by omega) (by decide) xaty_8 hs_71 (Or.inl ⟨by decide, rfl⟩) ?_
  clear hs_71
  obtain ⟨K49, hK49⟩ : ∃ z, z = sK K48 (q + 28) 3 (some (q + 71)) := ⟨_, rfl⟩
  rw [show upc K48 (q + 28) (upc (K48 (q + 28)) 3 (some (q + 71))) = K49 from hK49.symm]
  replace hk_5 : K49 q 5 = (some (q + 28)) := by rw [hK49]; exact (congrFun (sK_ne (Nat.ne_of_lt (Nat.lt_add_of_pos_right (by decide)))) _).trans hk_5
  replace hk_9 : K49 q 9 = (some (q + 38)) := by rw [hK49]; exact (congrFun (sK_ne (Nat.ne_of_lt (Nat.lt_add_of_pos_right (by decide)))) _).trans hk_9
  refine p_aload_n k54_154 rfl ?_
  refine p_getRv k54_155 hs_0 f_11_56_11 hk_9 ?_
  refine p_iload_n k54_158 rfl ?_
  refine p_new (ci := 5) k54_159 (by decide) (by omega) ?_
  have hl9 : (h30 ++ [(.inl 5 : xSh)]).length = q + 79 := by rw [List.length_append, hl]; rfl
  have ht_0 : (h30 ++ [(.inl 5 : xSh)])[q]? = some (.inl 11) := by rw [List.getElem?_append_left (by rw [hl]; exact Nat.lt_add_of_pos_right (by decide))]; exact hs_0
  have ht_28 : (h30 ++ [(.inl 5 : xSh)])[q + 28]? = some (.inr (.object (xR 8), 6) : xSh) := by rw [List.getElem?_append_left (by rw [hl]; exact Nat.add_lt_add_left (by decide) q)]; exact hs_28
  have ht_38 : (h30 ++ [(.inl 5 : xSh)])[q + 38]? = some (.inr (.object (xR 5), 6) : xSh) := by rw [List.getElem?_append_left (by rw [hl]; exact Nat.add_lt_add_left (by decide) q)]; exact hs_38
  have ht_78 : (h30 ++ [(.inl 5 : xSh)])[q + 78]? = some (.inl 5 : xSh) := by rw [List.getElem?_append_right (by omega), hl, show q + 78 - (q + 78) = 0 by omega]; rfl
  rw [hl]
  obtain ⟨h31, hh31⟩ : ∃ z, z = h30 ++ [(.inl 5 : xSh)] := ⟨_, rfl⟩
  rw [← hh31] at hl9 ht_0 ht_28 ht_38 ht_78 ⊢
  clear hl
  have hl := hl9
  clear hl9
  clear hs_0
  have hs_0 := ht_0
  clear ht_0
  clear hs_28
  have hs_28 := ht_28
  clear ht_28
  clear hs_38
  have hs_38 := ht_38
  clear ht_38
  have hs_78 := ht_78
  clear ht_78
  obtain ⟨I34, hI34⟩ : ∃ z, z = upc I33 (q + 78) (fun _ => 0) := ⟨_, rfl⟩
  rw [show upc I33 (q + 78) (fun _ => 0) = I34 from hI34.symm]
  obtain ⟨J31, hJ31⟩ : ∃ z, z = upc J30 (q + 78) (fun _ => 0) := ⟨_, rfl⟩
  rw [show upc J30 (q + 78) (fun _ => 0) = J31 from hJ31.symm]
  obtain ⟨K50, hK50⟩ : ∃ z, z = upc K49 (q + 78) (fun _ => none) := ⟨_, rfl⟩
  rw [show upc K49 (q + 78) (fun _ => none) = K50 from hK50.symm]
  replace hk_5 : K50 q 5 = (some (q + 28)) := by rw [hK50, upc_ne _ _ (Nat.ne_of_lt (Nat.lt_add_of_pos_right (by decide)))]; exact hk_5
  replace hk_9 : K50 q 9 = (some (q + 38)) := by rw [hK50, upc_ne _ _ (Nat.ne_of_lt (Nat.lt_add_of_pos_right (by decide)))]; exact hk_9
  refine p_dup k54_162 rfl ?_
  refine p_cI0v k54_163 c_11_84 (Nat.le_of_ble_eq_true rfl) (C_tap (q := q + 78) (by omega) (by omega) hs_78) (fun m1 hq => ?_)
  obtain rfl := hq
  obtain ⟨I35, hI35⟩ : ∃ z, z = tapI I34 (q + 78) := ⟨_, rfl⟩
  rw [show tapI I34 (q + 78) = I35 from hI35.symm]
  obtain ⟨J32, hJ32⟩ : ∃ z, z = tapJ J31 (q + 78) := ⟨_, rfl⟩
  rw [show tapJ J31 (q + 78) = J32 from hJ32.symm]
  obtain ⟨K51, hK51⟩ : ∃ z, z = tapK K50 (q + 78) := ⟨_, rfl⟩
  rw [show tapK K50 (q + 78) = K51 from hK51.symm]
  replace hk_5 : K51 q 5 = (some (q + 28)) := by rw [hK51, tapK_lo (Nat.lt_add_of_pos_right (by decide))]; exact hk_5
  replace hk_9 : K51 q 9 = (some (q + 38)) := by rw [hK51, tapK_lo (Nat.lt_add_of_pos_right (by decide))]; exact hk_9
  have hl9 : (tapH h31).length = q + 80 := by rw [tap_len, hl]
  have ht_0 : (tapH h31)[q]? = some (.inl 11) := by rw [tap_at (by rw [hl]; exact Nat.lt_add_of_pos_right (by decide))]; exact hs_0
  have ht_28 : (tapH h31)[q + 28]? = some (.inr (.object (xR 8), 6) : xSh) := by rw [tap_at (by rw [hl]; exact Nat.add_lt_add_left (by decide) q)]; exact hs_28
  have ht_38 : (tapH h31)[q + 38]? = some (.inr (.object (xR 5), 6) : xSh) := by rw [tap_at (by rw [hl]; exact Nat.add_lt_add_left (by decide) q)]; exact hs_38
  have ht_78 : (tapH h31)[q + 78]? = some (.inl 5 : xSh) := by rw [tap_at (by rw [hl]; exact Nat.add_lt_add_left (by decide) q)]; exact hs_78
  obtain ⟨h32, hh32⟩ : ∃ z, z = tapH h31 := ⟨_, rfl⟩
  rw [← hh32] at hl9 ht_0 ht_28 ht_38 ht_78 ⊢
  clear hl
  have hl := hl9
  clear hl9
  clear hs_0
  have hs_0 := ht_0
  clear ht_0
  clear hs_28
  have hs_28 := ht_28
  clear ht_28
  clear hs_38
  have hs_38 := ht_38
  clear ht_38
  clear hs_78
  have hs_78 := ht_78
  clear ht_78
  refine p_aastk k54_166 hs_38 (by omega) (by decide) xaty_5 hs_78 (Or.inl ⟨by decide, rfl⟩) ?_
  clear hs_78
  obtain ⟨K52, hK52⟩ : ∃ z, z = sK K51 (q + 38) 3 (some (q + 78)) := ⟨_, rfl⟩
  rw [show upc K51 (q + 38) (upc (K51 (q + 38)) 3 (some (q + 78))) = K52 from hK52.symm]
  replace hk_5 : K52 q 5 = (some (q + 28)) := by rw [hK52]; exact (congrFun (sK_ne (Nat.ne_of_lt (Nat.lt_add_of_pos_right (by decide)))) _).trans hk_5
  replace hk_9 : K52 q 9 = (some (q + 38)) := by rw [hK52]; exact (congrFun (sK_ne (Nat.ne_of_lt (Nat.lt_add_of_pos_right (by decide)))) _).trans hk_9
  refine p_iincN (ls1 := [(0, _), (1, _)]) k54_167 rfl rfl ?_
  refine p_goto (tgt := 135) k54_170 (by decide) ?_
  refine p_iload_n k54_135 rfl ?_
  refine p_bipush (v := nI 6) k54_136 (by decide) ?_
  refine p_icmp_geN (tgt := 173) k54_138 (by decide) (by decide) (by decide) (fun c => False.elim (by omega)) (fun _ => ?_)
  refine p_aload_n k54_141 rfl ?_
  refine p_getRv k54_142 hs_0 f_11_35_11 hk_5 ?_
  refine p_iload_n k54_145 rfl ?_
  refine p_new (ci := 8) k54_146 (by decide) (by omega) ?_
  have hl9 : (h32 ++ [(.inl 8 : xSh)]).length = q + 81 := by rw [List.length_append, hl]; rfl
  have ht_0 : (h32 ++ [(.inl 8 : xSh)])[q]? = some (.inl 11) := by rw [List.getElem?_append_left (by rw [hl]; exact Nat.lt_add_of_pos_right (by decide))]; exact hs_0
  have ht_28 : (h32 ++ [(.inl 8 : xSh)])[q + 28]? = some (.inr (.object (xR 8), 6) : xSh) := by rw [List.getElem?_append_left (by rw [hl]; exact Nat.add_lt_add_left (by decide) q)]; exact hs_28
  have ht_38 : (h32 ++ [(.inl 8 : xSh)])[q + 38]? = some (.inr (.object (xR 5), 6) : xSh) := by rw [List.getElem?_append_left (by rw [hl]; exact Nat.add_lt_add_left (by decide) q)]; exact hs_38
  have ht_80 : (h32 ++ [(.inl 8 : xSh)])[q + 80]? = some (.inl 8 : xSh) := by rw [List.getElem?_append_right (by omega), hl, show q + 80 - (q + 80) = 0 by omega]; rfl
  rw [hl]
  obtain ⟨h33, hh33⟩ : ∃ z, z = h32 ++ [(.inl 8 : xSh)] := ⟨_, rfl⟩
  rw [← hh33] at hl9 ht_0 ht_28 ht_38 ht_80 ⊢
  clear hl
  have hl := hl9
  clear hl9
  clear hs_0
  have hs_0 := ht_0
  clear ht_0
  clear hs_28
  have hs_28 := ht_28
  clear ht_28
  clear hs_38
  have hs_38 := ht_38
  clear ht_38
  have hs_80 := ht_80
  clear ht_80
  obtain ⟨I36, hI36⟩ : ∃ z, z = upc I35 (q + 80) (fun _ => 0) := ⟨_, rfl⟩
  rw [show upc I35 (q + 80) (fun _ => 0) = I36 from hI36.symm]
  obtain ⟨J33, hJ33⟩ : ∃ z, z = upc J32 (q + 80) (fun _ => 0) := ⟨_, rfl⟩
  rw [show upc J32 (q + 80) (fun _ => 0) = J33 from hJ33.symm]
  obtain ⟨K53, hK53⟩ : ∃ z, z = upc K52 (q + 80) (fun _ => none) := ⟨_, rfl⟩
  rw [show upc K52 (q + 80) (fun _ => none) = K53 from hK53.symm]
  replace hk_5 : K53 q 5 = (some (q + 28)) := by rw [hK53, upc_ne _ _ (Nat.ne_of_lt (Nat.lt_add_of_pos_right (by decide)))]; exact hk_5
  replace hk_9 : K53 q 9 = (some (q + 38)) := by rw [hK53, upc_ne _ _ (Nat.ne_of_lt (Nat.lt_add_of_pos_right (by decide)))]; exact hk_9
  refine p_dup k54_149 rfl ?_
  refine p_cI0v k54_150 c_11_39 (Nat.le_of_ble_eq_true rfl) (C_twn (q := q + 80) (by omega) (by omega) hs_80) (fun m1 hq => ?_)
  obtain rfl := hq
  obtain ⟨I37, hI37⟩ : ∃ z, z = twnI I36 (q + 80) := ⟨_, rfl⟩
  rw [show twnI I36 (q + 80) = I37 from hI37.symm]
  obtain ⟨J34, hJ34⟩ : ∃ z, z = twnJ J33 (q + 80) := ⟨_, rfl⟩
  rw [show twnJ J33 (q + 80) = J34 from hJ34.symm]
  obtain ⟨K54, hK54⟩ : ∃ z, z = twnK K53 (q + 80) := ⟨_, rfl⟩
  rw [show twnK K53 (q + 80) = K54 from hK54.symm]
  replace hk_5 : K54 q 5 = (some (q + 28)) := by rw [hK54, twnK_lo (Nat.lt_add_of_pos_right (by decide))]; exact hk_5
  replace hk_9 : K54 q 9 = (some (q + 38)) := by rw [hK54, twnK_lo (Nat.lt_add_of_pos_right (by decide))]; exact hk_9
  have hl9 : (twnH h33).length = q + 87 := by rw [twn_len, hl]
  have ht_0 : (twnH h33)[q]? = some (.inl 11) := by rw [twn_at (by rw [hl]; exact Nat.lt_add_of_pos_right (by decide))]; exact hs_0
  have ht_28 : (twnH h33)[q + 28]? = some (.inr (.object (xR 8), 6) : xSh) := by rw [twn_at (by rw [hl]; exact Nat.add_lt_add_left (by decide) q)]; exact hs_28
  have ht_38 : (twnH h33)[q + 38]? = some (.inr (.object (xR 5), 6) : xSh) := by rw [twn_at (by rw [hl]; exact Nat.add_lt_add_left (by decide) q)]; exact hs_38
  have ht_80 : (twnH h33)[q + 80]? = some (.inl 8 : xSh) := by rw [twn_at (by rw [hl]; exact Nat.add_lt_add_left (by decide) q)]; exact hs_80
  obtain ⟨h34, hh34⟩ : ∃ z, z = twnH h33 := ⟨_, rfl⟩
  rw [← hh34] at hl9 ht_0 ht_28 ht_38 ht_80 ⊢
  clear hl
  have hl := hl9
  clear hl9
  clear hs_0
  have hs_0 := ht_0
  clear ht_0
  clear hs_28
  have hs_28 := ht_28
  clear ht_28
  clear hs_38
  have hs_38 := ht_38
  clear ht_38
  clear hs_80
  have hs_80 := ht_80
  clear ht_80
  refine p_aastk k54_153 hs_28 (by omega) (by decide) xaty_8 hs_80 (Or.inl ⟨by decide, rfl⟩) ?_
  clear hs_80
  obtain ⟨K55, hK55⟩ : ∃ z, z = sK K54 (q + 28) 4 (some (q + 80)) := ⟨_, rfl⟩
  rw [show upc K54 (q + 28) (upc (K54 (q + 28)) 4 (some (q + 80))) = K55 from hK55.symm]
  replace hk_5 : K55 q 5 = (some (q + 28)) := by rw [hK55]; exact (congrFun (sK_ne (Nat.ne_of_lt (Nat.lt_add_of_pos_right (by decide)))) _).trans hk_5
  replace hk_9 : K55 q 9 = (some (q + 38)) := by rw [hK55]; exact (congrFun (sK_ne (Nat.ne_of_lt (Nat.lt_add_of_pos_right (by decide)))) _).trans hk_9
  refine p_aload_n k54_154 rfl ?_
  refine p_getRv k54_155 hs_0 f_11_56_11 hk_9 ?_
  refine p_iload_n k54_158 rfl ?_
  refine p_new (ci := 5) k54_159 (by decide) (by omega) ?_
  have hl9 : (h34 ++ [(.inl 5 : xSh)]).length = q + 88 := by rw [List.length_append, hl]; rfl
  have ht_0 : (h34 ++ [(.inl 5 : xSh)])[q]? = some (.inl 11) := by rw [List.getElem?_append_left (by rw [hl]; exact Nat.lt_add_of_pos_right (by decide))]; exact hs_0
  have ht_28 : (h34 ++ [(.inl 5 : xSh)])[q + 28]? = some (.inr (.object (xR 8), 6) : xSh) := by rw [List.getElem?_append_left (by rw [hl]; exact Nat.add_lt_add_left (by decide) q)]; exact hs_28
  have ht_38 : (h34 ++ [(.inl 5 : xSh)])[q + 38]? = some (.inr (.object (xR 5), 6) : xSh) := by rw [List.getElem?_append_left (by rw [hl]; exact Nat.add_lt_add_left (by decide) q)]; exact hs_38
  have ht_87 : (h34 ++ [(.inl 5 : xSh)])[q + 87]? = some (.inl 5 : xSh) := by rw [List.getElem?_append_right (by omega), hl, show q + 87 - (q + 87) = 0 by omega]; rfl
  rw [hl]
  obtain ⟨h35, hh35⟩ : ∃ z, z = h34 ++ [(.inl 5 : xSh)] := ⟨_, rfl⟩
  rw [← hh35] at hl9 ht_0 ht_28 ht_38 ht_87 ⊢
  clear hl
  have hl := hl9
  clear hl9
  clear hs_0
  have hs_0 := ht_0
  clear ht_0
  clear hs_28
  have hs_28 := ht_28
  clear ht_28
  clear hs_38
  have hs_38 := ht_38
  clear ht_38
  have hs_87 := ht_87
  clear ht_87
  obtain ⟨I38, hI38⟩ : ∃ z, z = upc I37 (q + 87) (fun _ => 0) := ⟨_, rfl⟩
  rw [show upc I37 (q + 87) (fun _ => 0) = I38 from hI38.symm]
  obtain ⟨J35, hJ35⟩ : ∃ z, z = upc J34 (q + 87) (fun _ => 0) := ⟨_, rfl⟩
  rw [show upc J34 (q + 87) (fun _ => 0) = J35 from hJ35.symm]
  obtain ⟨K56, hK56⟩ : ∃ z, z = upc K55 (q + 87) (fun _ => none) := ⟨_, rfl⟩
  rw [show upc K55 (q + 87) (fun _ => none) = K56 from hK56.symm]
  replace hk_5 : K56 q 5 = (some (q + 28)) := by rw [hK56, upc_ne _ _ (Nat.ne_of_lt (Nat.lt_add_of_pos_right (by decide)))]; exact hk_5
  replace hk_9 : K56 q 9 = (some (q + 38)) := by rw [hK56, upc_ne _ _ (Nat.ne_of_lt (Nat.lt_add_of_pos_right (by decide)))]; exact hk_9
  refine p_dup k54_162 rfl ?_
  refine p_cI0v k54_163 c_11_84 (Nat.le_of_ble_eq_true rfl) (C_tap (q := q + 87) (by omega) (by omega) hs_87) (fun m1 hq => ?_)
  obtain rfl := hq
  obtain ⟨I39, hI39⟩ : ∃ z, z = tapI I38 (q + 87) := ⟨_, rfl⟩
  rw [show tapI I38 (q + 87) = I39 from hI39.symm]
  obtain ⟨J36, hJ36⟩ : ∃ z, z = tapJ J35 (q + 87) := ⟨_, rfl⟩
  rw [show tapJ J35 (q + 87) = J36 from hJ36.symm]
  obtain ⟨K57, hK57⟩ : ∃ z, z = tapK K56 (q + 87) := ⟨_, rfl⟩
  rw [show tapK K56 (q + 87) = K57 from hK57.symm]
  replace hk_5 : K57 q 5 = (some (q + 28)) := by rw [hK57, tapK_lo (Nat.lt_add_of_pos_right (by decide))]; exact hk_5
  replace hk_9 : K57 q 9 = (some (q + 38)) := by rw [hK57, tapK_lo (Nat.lt_add_of_pos_right (by decide))]; exact hk_9
  have hl9 : (tapH h35).length = q + 89 := by rw [tap_len, hl]
  have ht_0 : (tapH h35)[q]? = some (.inl 11) := by rw [tap_at (by rw [hl]; exact Nat.lt_add_of_pos_right (by decide))]; exact hs_0
  have ht_28 : (tapH h35)[q + 28]? = some (.inr (.object (xR 8), 6) : xSh) := by rw [tap_at (by rw [hl]; exact Nat.add_lt_add_left (by decide) q)]; exact hs_28
  have ht_38 : (tapH h35)[q + 38]? = some (.inr (.object (xR 5), 6) : xSh) := by rw [tap_at (by rw [hl]; exact Nat.add_lt_add_left (by decide) q)]; exact hs_38
  have ht_87 : (tapH h35)[q + 87]? = some (.inl 5 : xSh) := by rw [tap_at (by rw [hl]; exact Nat.add_lt_add_left (by decide) q)]; exact hs_87
  obtain ⟨h36, hh36⟩ : ∃ z, z = tapH h35 := ⟨_, rfl⟩
  rw [← hh36] at hl9 ht_0 ht_28 ht_38 ht_87 ⊢
  clear hl
  have hl := hl9
  clear hl9
  clear hs_0
  have hs_0 := ht_0
  clear ht_0
  clear hs_28
  have hs_28 := ht_28
  clear ht_28
  clear hs_38
  have hs_38 := ht_38
  clear ht_38
  clear hs_87
  have hs_87 := ht_87
  clear ht_87
  refine p_aastk k54_166 hs_38 (by omega) (by decide) xaty_5 hs_87 (Or.inl ⟨by decide, rfl⟩) ?_
  clear hs_87
  obtain ⟨K58, hK58⟩ : ∃ z, z = sK K57 (q + 38) 4 (some (q + 87)) := ⟨_, rfl⟩
  rw [show upc K57 (q + 38) (upc (K57 (q + 38)) 4 (some (q + 87))) = K58 from hK58.symm]
  replace hk_5 : K58 q 5 = (some (q + 28)) := by rw [hK58]; exact (congrFun (sK_ne (Nat.ne_of_lt (Nat.lt_add_of_pos_right (by decide)))) _).trans hk_5
  replace hk_9 : K58 q 9 = (some (q + 38)) := by rw [hK58]; exact (congrFun (sK_ne (Nat.ne_of_lt (Nat.lt_add_of_pos_right (by decide)))) _).trans hk_9
  refine p_iincN (ls1 := [(0, _), (1, _)]) k54_167 rfl rfl ?_
  refine p_goto (tgt := 135) k54_170 (by decide) ?_
  refine p_iload_n k54_135 rfl ?_
  refine p_bipush (v := nI 6) k54_136 (by decide) ?_
  refine p_icmp_geN (tgt := 173) k54_138 (by decide) (by decide) (by decide) (fun c => False.elim (by omega)) (fun _ => ?_)
  refine p_aload_n k54_141 rfl ?_
  refine p_getRv k54_142 hs_0 f_11_35_11 hk_5 ?_
  refine p_iload_n k54_145 rfl ?_
  refine p_new (ci := 8) k54_146 (by decide) (by omega) ?_
  have hl9 : (h36 ++ [(.inl 8 : xSh)]).length = q + 90 := by rw [List.length_append, hl]; rfl
  have ht_0 : (h36 ++ [(.inl 8 : xSh)])[q]? = some (.inl 11) := by rw [List.getElem?_append_left (by rw [hl]; exact Nat.lt_add_of_pos_right (by decide))]; exact hs_0
  have ht_28 : (h36 ++ [(.inl 8 : xSh)])[q + 28]? = some (.inr (.object (xR 8), 6) : xSh) := by rw [List.getElem?_append_left (by rw [hl]; exact Nat.add_lt_add_left (by decide) q)]; exact hs_28
  have ht_38 : (h36 ++ [(.inl 8 : xSh)])[q + 38]? = some (.inr (.object (xR 5), 6) : xSh) := by rw [List.getElem?_append_left (by rw [hl]; exact Nat.add_lt_add_left (by decide) q)]; exact hs_38
  have ht_89 : (h36 ++ [(.inl 8 : xSh)])[q + 89]? = some (.inl 8 : xSh) := by rw [List.getElem?_append_right (by omega), hl, show q + 89 - (q + 89) = 0 by omega]; rfl
  rw [hl]
  obtain ⟨h37, hh37⟩ : ∃ z, z = h36 ++ [(.inl 8 : xSh)] := ⟨_, rfl⟩
  rw [← hh37] at hl9 ht_0 ht_28 ht_38 ht_89 ⊢
  clear hl
  have hl := hl9
  clear hl9
  clear hs_0
  have hs_0 := ht_0
  clear ht_0
  clear hs_28
  have hs_28 := ht_28
  clear ht_28
  clear hs_38
  have hs_38 := ht_38
  clear ht_38
  have hs_89 := ht_89
  clear ht_89
  obtain ⟨I40, hI40⟩ : ∃ z, z = upc I39 (q + 89) (fun _ => 0) := ⟨_, rfl⟩
  rw [show upc I39 (q + 89) (fun _ => 0) = I40 from hI40.symm]
  obtain ⟨J37, hJ37⟩ : ∃ z, z = upc J36 (q + 89) (fun _ => 0) := ⟨_, rfl⟩
  rw [show upc J36 (q + 89) (fun _ => 0) = J37 from hJ37.symm]
  obtain ⟨K59, hK59⟩ : ∃ z, z = upc K58 (q + 89) (fun _ => none) := ⟨_, rfl⟩
  rw [show upc K58 (q + 89) (fun _ => none) = K59 from hK59.symm]
  replace hk_5 : K59 q 5 = (some (q + 28)) := by rw [hK59, upc_ne _ _ (Nat.ne_of_lt (Nat.lt_add_of_pos_right (by decide)))]; exact hk_5
  replace hk_9 : K59 q 9 = (some (q + 38)) := by rw [hK59, upc_ne _ _ (Nat.ne_of_lt (Nat.lt_add_of_pos_right (by decide)))]; exact hk_9
  refine p_dup k54_149 rfl ?_
  refine p_cI0v k54_150 c_11_39 (Nat.le_of_ble_eq_true rfl) (C_twn (q := q + 89) (by omega) (by omega) hs_89) (fun m1 hq => ?_)
  obtain rfl := hq
  obtain ⟨I41, hI41⟩ : ∃ z, z = twnI I40 (q + 89) := ⟨_, rfl⟩
  rw [show twnI I40 (q + 89) = I41 from hI41.symm]
  obtain ⟨J38, hJ38⟩ : ∃ z, z = twnJ J37 (q + 89) := ⟨_, rfl⟩
  rw [show twnJ J37 (q + 89) = J38 from hJ38.symm]
  obtain ⟨K60, hK60⟩ : ∃ z, z = twnK K59 (q + 89) := ⟨_, rfl⟩
  rw [show twnK K59 (q + 89) = K60 from hK60.symm]
  replace hk_5 : K60 q 5 = (some (q + 28)) := by rw [hK60, twnK_lo (Nat.lt_add_of_pos_right (by decide))]; exact hk_5
  replace hk_9 : K60 q 9 = (some (q + 38)) := by rw [hK60, twnK_lo (Nat.lt_add_of_pos_right (by decide))]; exact hk_9
  have hl9 : (twnH h37).length = q + 96 := by rw [twn_len, hl]
  have ht_0 : (twnH h37)[q]? = some (.inl 11) := by rw [twn_at (by rw [hl]; exact Nat.lt_add_of_pos_right (by decide))]; exact hs_0
  have ht_28 : (twnH h37)[q + 28]? = some (.inr (.object (xR 8), 6) : xSh) := by rw [twn_at (by rw [hl]; exact Nat.add_lt_add_left (by decide) q)]; exact hs_28
  have ht_38 : (twnH h37)[q + 38]? = some (.inr (.object (xR 5), 6) : xSh) := by rw [twn_at (by rw [hl]; exact Nat.add_lt_add_left (by decide) q)]; exact hs_38
  have ht_89 : (twnH h37)[q + 89]? = some (.inl 8 : xSh) := by rw [twn_at (by rw [hl]; exact Nat.add_lt_add_left (by decide) q)]; exact hs_89
  obtain ⟨h38, hh38⟩ : ∃ z, z = twnH h37 := ⟨_, rfl⟩
  rw [← hh38] at hl9 ht_0 ht_28 ht_38 ht_89 ⊢
  clear hl
  have hl := hl9
  clear hl9
  clear hs_0
  have hs_0 := ht_0
  clear ht_0
  clear hs_28
  have hs_28 := ht_28
  clear ht_28
  clear hs_38
  have hs_38 := ht_38
  clear ht_38
  clear hs_89
  have hs_89 := ht_89
  clear ht_89
  refine p_aastk k54_153 hs_28 (by omega) (by decide) xaty_8 hs_89 (Or.inl ⟨by decide, rfl⟩) ?_
  clear hs_89
  obtain ⟨K61, hK61⟩ : ∃ z, z = sK K60 (q + 28) 5 (some (q + 89)) := ⟨_, rfl⟩
  rw [show upc K60 (q + 28) (upc (K60 (q + 28)) 5 (some (q + 89))) = K61 from hK61.symm]
  replace hk_5 : K61 q 5 = (some (q + 28)) := by rw [hK61]; exact (congrFun (sK_ne (Nat.ne_of_lt (Nat.lt_add_of_pos_right (by decide)))) _).trans hk_5
  replace hk_9 : K61 q 9 = (some (q + 38)) := by rw [hK61]; exact (congrFun (sK_ne (Nat.ne_of_lt (Nat.lt_add_of_pos_right (by decide)))) _).trans hk_9
  refine p_aload_n k54_154 rfl ?_
  refine p_getRv k54_155 hs_0 f_11_56_11 hk_9 ?_
  refine p_iload_n k54_158 rfl ?_
  refine p_new (ci := 5) k54_159 (by decide) (by omega) ?_
  have hl9 : (h38 ++ [(.inl 5 : xSh)]).length = q + 97 := by rw [List.length_append, hl]; rfl
  have ht_0 : (h38 ++ [(.inl 5 : xSh)])[q]? = some (.inl 11) := by rw [List.getElem?_append_left (by rw [hl]; exact Nat.lt_add_of_pos_right (by decide))]; exact hs_0
  have ht_28 : (h38 ++ [(.inl 5 : xSh)])[q + 28]? = some (.inr (.object (xR 8), 6) : xSh) := by rw [List.getElem?_append_left (by rw [hl]; exact Nat.add_lt_add_left (by decide) q)]; exact hs_28
  have ht_38 : (h38 ++ [(.inl 5 : xSh)])[q + 38]? = some (.inr (.object (xR 5), 6) : xSh) := by rw [List.getElem?_append_left (by rw [hl]; exact Nat.add_lt_add_left (by decide) q)]; exact hs_38
  have ht_96 : (h38 ++ [(.inl 5 : xSh)])[q + 96]? = some (.inl 5 : xSh) := by rw [List.getElem?_append_right (by omega), hl, show q + 96 - (q + 96) = 0 by omega]; rfl
  rw [hl]
  obtain ⟨h39, hh39⟩ : ∃ z, z = h38 ++ [(.inl 5 : xSh)] := ⟨_, rfl⟩
  rw [← hh39] at hl9 ht_0 ht_28 ht_38 ht_96 ⊢
  clear hl
  have hl := hl9
  clear hl9
  clear hs_0
  have hs_0 := ht_0
  clear ht_0
  clear hs_28
  have hs_28 := ht_28
  clear ht_28
  clear hs_38
  have hs_38 := ht_38
  clear ht_38
  have hs_96 := ht_96
  clear ht_96
  obtain ⟨I42, hI42⟩ : ∃ z, z = upc I41 (q + 96) (fun _ => 0) := ⟨_, rfl⟩
  rw [show upc I41 (q + 96) (fun _ => 0) = I42 from hI42.symm]
  obtain ⟨J39, hJ39⟩ : ∃ z, z = upc J38 (q + 96) (fun _ => 0) := ⟨_, rfl⟩
  rw [show upc J38 (q + 96) (fun _ => 0) = J39 from hJ39.symm]
  obtain ⟨K62, hK62⟩ : ∃ z, z = upc K61 (q + 96) (fun _ => none) := ⟨_, rfl⟩
  rw [show upc K61 (q + 96) (fun _ => none) = K62 from hK62.symm]
  replace hk_5 : K62 q 5 = (some (q + 28)) := by rw [hK62, upc_ne _ _ (Nat.ne_of_lt (Nat.lt_add_of_pos_right (by decide)))]; exact hk_5
  replace hk_9 : K62 q 9 = (some (q + 38)) := by rw [hK62, upc_ne _ _ (Nat.ne_of_lt (Nat.lt_add_of_pos_right (by decide)))]; exact hk_9
  refine p_dup k54_162 rfl ?_
  refine p_cI0v k54_163 c_11_84 (Nat.le_of_ble_eq_true rfl) (C_tap (q := q + 96) (by omega) (by omega) hs_96) (fun m1 hq => ?_)
  obtain rfl := hq
  obtain ⟨I43, hI43⟩ : ∃ z, z = tapI I42 (q + 96) := ⟨_, rfl⟩
  rw [show tapI I42 (q + 96) = I43 from hI43.symm]
  obtain ⟨J40, hJ40⟩ : ∃ z, z = tapJ J39 (q + 96) := ⟨_, rfl⟩
  rw [show tapJ J39 (q + 96) = J40 from hJ40.symm]
  obtain ⟨K63, hK63⟩ : ∃ z, z = tapK K62 (q + 96) := ⟨_, rfl⟩
  rw [show tapK K62 (q + 96) = K63 from hK63.symm]
  replace hk_5 : K63 q 5 = (some (q + 28)) := by rw [hK63, tapK_lo (Nat.lt_add_of_pos_right (by decide))]; exact hk_5
  replace hk_9 : K63 q 9 = (some (q + 38)) := by rw [hK63, tapK_lo (Nat.lt_add_of_pos_right (by decide))]; exact hk_9
  have hl9 : (tapH h39).length = q + 98 := by rw [tap_len, hl]
  have ht_0 : (tapH h39)[q]? = some (.inl 11) := by rw [tap_at (by rw [hl]; exact Nat.lt_add_of_pos_right (by decide))]; exact hs_0
  have ht_28 : (tapH h39)[q + 28]? = some (.inr (.object (xR 8), 6) : xSh) := by rw [tap_at (by rw [hl]; exact Nat.add_lt_add_left (by decide) q)]; exact hs_28
  have ht_38 : (tapH h39)[q + 38]? = some (.inr (.object (xR 5), 6) : xSh) := by rw [tap_at (by rw [hl]; exact Nat.add_lt_add_left (by decide) q)]; exact hs_38
  have ht_96 : (tapH h39)[q + 96]? = some (.inl 5 : xSh) := by rw [tap_at (by rw [hl]; exact Nat.add_lt_add_left (by decide) q)]; exact hs_96
  obtain ⟨h40, hh40⟩ : ∃ z, z = tapH h39 := ⟨_, rfl⟩
  rw [← hh40] at hl9 ht_0 ht_28 ht_38 ht_96 ⊢
  clear hl
  have hl := hl9
  clear hl9
  clear hs_0
  have hs_0 := ht_0
  clear ht_0
  clear hs_28
  have hs_28 := ht_28
  clear ht_28
  clear hs_38
  have hs_38 := ht_38
  clear ht_38
  clear hs_96
  have hs_96 := ht_96
  clear ht_96
  refine p_aastk k54_166 hs_38 (by omega) (by decide) xaty_5 hs_96 (Or.inl ⟨by decide, rfl⟩) ?_
  clear hs_96
  obtain ⟨K64, hK64⟩ : ∃ z, z = sK K63 (q + 38) 5 (some (q + 96)) := ⟨_, rfl⟩
  rw [show upc K63 (q + 38) (upc (K63 (q + 38)) 5 (some (q + 96))) = K64 from hK64.symm]
  replace hk_5 : K64 q 5 = (some (q + 28)) := by rw [hK64]; exact (congrFun (sK_ne (Nat.ne_of_lt (Nat.lt_add_of_pos_right (by decide)))) _).trans hk_5
  replace hk_9 : K64 q 9 = (some (q + 38)) := by rw [hK64]; exact (congrFun (sK_ne (Nat.ne_of_lt (Nat.lt_add_of_pos_right (by decide)))) _).trans hk_9
  refine p_iincN (ls1 := [(0, _), (1, _)]) k54_167 rfl rfl ?_
  refine p_goto (tgt := 135) k54_170 (by decide) ?_
  refine p_iload_n k54_135 rfl ?_
  refine p_bipush (v := nI 6) k54_136 (by decide) ?_
  refine p_icmp_geN (tgt := 173) k54_138 (by decide) (by decide) (by decide) (fun _ => ?_) (fun c => False.elim (by omega))
  refine p_return k54_173 rt_54 ?_
  have eI : I43 = clsI I q := by
    rw [hI43, hI42, hI41, hI40, hI39, hI38, hI37, hI36, hI35, hI34, hI33, hI32, hI31, hI30, hI29, hI28, hI27, hI26, hI25, hI24, hI23, hI22, hI21, hI20, hI19, hI18, hI17, hI16, hI15, hI14, hI13, hI12, hI11, hI10, hI9, hI8, hI7, hI6, hI5, hI4, hI3, hI2, hI1]
    rfl
  have eJ : J40 = clsJ J q := by
    rw [hJ40, hJ39, hJ38, hJ37, hJ36, hJ35, hJ34, hJ33, hJ32, hJ31, hJ30, hJ29, hJ28, hJ27, hJ26, hJ25, hJ24, hJ23, hJ22, hJ21, hJ20, hJ19, hJ18, hJ17, hJ16, hJ15, hJ14, hJ13, hJ12, hJ11, hJ10, hJ9, hJ8, hJ7, hJ6, hJ5, hJ4, hJ3, hJ2, hJ1]
    rfl
  have eK : K64 = clsK K q := by
    rw [hK64, hK63, hK62, hK61, hK60, hK59, hK58, hK57, hK56, hK55, hK54, hK53, hK52, hK51, hK50, hK49, hK48, hK47, hK46, hK45, hK44, hK43, hK42, hK41, hK40, hK39, hK38, hK37, hK36, hK35, hK34, hK33, hK32, hK31, hK30, hK29, hK28, hK27, hK26, hK25, hK24, hK23, hK22, hK21, hK20, hK19, hK18, hK17, hK16, hK15, hK14, hK13, hK12, hK11, hK10, hK9, hK8, hK7, hK6, hK5, hK4, hK3, hK2, hK1]
    rfl
  have eH : h40 = clsH h := by
    rw [hh40, hh39, hh38, hh37, hh36, hh35, hh34, hh33, hh32, hh31, hh30, hh29, hh28, hh27, hh26, hh25, hh24, hh23, hh22, hh21, hh20, hh19, hh18, hh17, hh16, hh15, hh14, hh13, hh12, hh11, hh10, hh9, hh8, hh7, hh6, hh5, hh4, hh3, hh2, hh1]
    rfl
  show (_, _, _, _) = (_, _, _, _)
  rw [eI, eJ, eK, eH]

