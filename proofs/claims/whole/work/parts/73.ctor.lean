/-! the constructors -/
def sK (K : Nat → Nat → Option Nat) (a k : Nat) (v : Option Nat) : Nat → Nat → Option Nat := upc K a (upc (K a) k v)
theorem sK_ne {K : Nat → Nat → Option Nat} {a k x : Nat} {v : Option Nat} (h : x ≠ a) : sK K a k v x = K x := upc_ne _ _ h
theorem sK_nk {K : Nat → Nat → Option Nat} {a k i : Nat} {v : Option Nat} (h : i ≠ k) : sK K a k v a i = K a i := by
  unfold sK
  rw [upc_eq, upc_ne _ _ h]
theorem sK_eq {K : Nat → Nat → Option Nat} {a k : Nat} {v : Option Nat} : sK K a k v a k = v := by
  unfold sK
  rw [upc_eq, upc_eq]
theorem xa1_int : xaty1 .int := Or.inl rfl
theorem xa1_long : xaty1 .long := Or.inr (Or.inl rfl)
theorem xa1_byte : xaty1 .byte := Or.inr (Or.inr (Or.inl rfl))
theorem xa1_boolean : xaty1 .boolean := Or.inr (Or.inr (Or.inr rfl))
set_option maxRecDepth 100000 in
set_option maxHeartbeats 4000000 in
theorem C_coder0 {d : Nat} {I : Nat → Nat → Int32} {J : Nat → Nat → Int64} {K : Nat → Nat → Option Nat} {h : List xSh} {k : Nat} (hk : k < 5) : EvP d 237 0 [(0, .ref (1000001 + k))] [] (I, J, K, h) (QI (fun z t => z = 0 ∧ t = (I, J, K, h))) := by
  refine p_getsC k237_0 rfl ?_
  refine p_if_eq (tgt := 13) k237_3 (by decide) (fun c => False.elim (by exact absurd c (by decide))) (fun _ => ?_)
  refine p_aload_n k237_6 rfl ?_
  refine p_sgetC k237_7 rfl (by omega) ?_
  refine p_goto (tgt := 14) k237_10 (by decide) ?_
  refine p_treturn k237_14 rt_237 rfl ?_
  exact ⟨rfl, rfl⟩

set_option maxRecDepth 100000 in
set_option maxHeartbeats 4000000 in
theorem C_length0 {d : Nat} {I : Nat → Nat → Int32} {J : Nat → Nat → Int64} {K : Nat → Nat → Option Nat} {h : List xSh} {k : Nat} (hk : k < 5) : EvP (d + 1) 235 0 [(0, .ref (1000001 + k))] [] (I, J, K, h) (QI (fun z t => z = nI (xStr k).length ∧ t = (I, J, K, h))) := by
  refine p_aload_n k235_0 rfl ?_
  refine p_sgetV k235_1 rfl (by omega) ?_
  refine p_sblen k235_4 (by omega) ?_
  refine p_aload_n k235_5 rfl ?_
  refine p_cT0i k235_6 (by omega) c_16_335 (Nat.le_of_ble_eq_true rfl) (C_coder0 hk) (fun x1 m1 hq => ?_)
  obtain ⟨rfl, rfl⟩ := hq
  refine p_ishr k235_9 ?_
  refine p_ireturn k235_10 rt_235 ?_
  exact ⟨shr_0 _ (xs_len hk), rfl⟩

def scnI (I : Nat → Nat → Int32) (q : Nat) : Nat → Nat → Int32 := (s1 (upc (upc (s1 (upc (upc (s1 (upc (s1 (upc (upc (upc (upc (s1 (upc (upc (upc (s1 I q 0 (nI (0))) (q + 1) (fun _ => 0)) (q + 2) (fun _ => 0)) (q + 3) (fun _ => 0)) q 4 (nI (0))) (q + 4) (fun _ => 0)) (q + 5) (fun _ => 0)) (q + 6) (fun _ => 0)) (q + 7) (fun _ => 0)) q 9 (nI (0))) (q + 8) (fun _ => 0)) q 11 (nI (0))) (q + 9) (fun _ => 0)) (q + 10) (fun _ => 0)) q 14 (nI (0))) (q + 11) (fun _ => 0)) (q + 12) (fun _ => 0)) q 17 ((-1)))
def scnJ (J : Nat → Nat → Int64) (q : Nat) : Nat → Nat → Int64 := (upc (upc (upc (upc (upc (upc (upc (upc (upc (upc (upc (upc J (q + 1) (fun _ => 0)) (q + 2) (fun _ => 0)) (q + 3) (fun _ => 0)) (q + 4) (fun _ => 0)) (q + 5) (fun _ => 0)) (q + 6) (fun _ => 0)) (q + 7) (fun _ => 0)) (q + 8) (fun _ => 0)) (q + 9) (fun _ => 0)) (q + 10) (fun _ => 0)) (q + 11) (fun _ => 0)) (q + 12) (fun _ => 0))
def scnK (K : Nat → Nat → Option Nat) (q : Nat) : Nat → Nat → Option Nat := (sK (upc (sK (upc (sK (upc (sK (upc (sK (upc (sK (upc (sK (upc (sK (upc (sK (upc (sK (upc (sK (upc (sK (upc K (q + 1) (fun _ => none)) q 1 (some (q + 1))) (q + 2) (fun _ => none)) q 2 (some (q + 2))) (q + 3) (fun _ => none)) q 3 (some (q + 3))) (q + 4) (fun _ => none)) q 5 (some (q + 4))) (q + 5) (fun _ => none)) q 6 (some (q + 5))) (q + 6) (fun _ => none)) q 7 (some (q + 6))) (q + 7) (fun _ => none)) q 8 (some (q + 7))) (q + 8) (fun _ => none)) q 10 (some (q + 8))) (q + 9) (fun _ => none)) q 12 (some (q + 9))) (q + 10) (fun _ => none)) q 13 (some (q + 10))) (q + 11) (fun _ => none)) q 15 (some (q + 11))) (q + 12) (fun _ => none)) q 16 (some (q + 12)))
theorem scnK_lo {K : Nat → Nat → Option Nat} {q x : Nat} (hx : x < q) : scnK K q x = K x := by
  unfold scnK
  repeat (first | rw [upc_ne _ _ (by omega)] | rw [sK_ne (by omega)])
def scnH (h : List xSh) : List xSh := ((((((((((((h ++ [(.inr (.int, 6) : xSh)]) ++ [(.inr (.int, 6) : xSh)]) ++ [(.inr (.int, 6) : xSh)]) ++ [(.inr (.object (xR 2), 6) : xSh)]) ++ [(.inr (.int, 6) : xSh)]) ++ [(.inr (.int, 6) : xSh)]) ++ [(.inr (.int, 24) : xSh)]) ++ [(.inr (.int, 5) : xSh)]) ++ [(.inr (.int, 6) : xSh)]) ++ [(.inr (.int, 6) : xSh)]) ++ [(.inr (.int, 8) : xSh)]) ++ [(.inr (.int, 8) : xSh)])
theorem scn_len (h : List xSh) : (scnH h).length = h.length + 12 := by unfold scnH; simp only [List.length_append, List.length_cons, List.length_nil]
theorem scn_at {h : List xSh} {i : Nat} (hi : i < h.length) : (scnH h)[i]? = h[i]? := by
  unfold scnH
  repeat (first | rw [List.getElem?_append_left (by (try simp only [List.length_append, List.length_cons, List.length_nil]); omega)] )
set_option maxRecDepth 100000 in
set_option maxHeartbeats 4000000 in
theorem C_scn {d : Nat} {I : Nat → Nat → Int32} {J : Nat → Nat → Int64} {K : Nat → Nat → Option Nat} {h : List xSh} {q : Nat} (hq9 : q < 1000) (hl : h.length = q + 1) (hs_0 : h[q]? = some (.inl 3)) : EvP (d + 1) 11 0 [(0, .ref q)] [] (I, J, K, h) (QV (fun t => t = (scnI I q, scnJ J q, scnK K q, scnH h))) := by
  refine p_aload_n k11_0 rfl ?_
  refine p_oinit k11_1 (by decide) (Nat.le_of_ble_eq_true rfl) ?_
  refine p_aload_n k11_4 rfl ?_
  refine p_iconst (v := nI 0) k11_5 (by decide) ?_
  refine p_putIv k11_6 hs_0 g_3_9_3 n_11_3_0 ?_
  obtain ⟨I1, hI1⟩ : ∃ z, z = s1 I q 0 (nI (0)) := ⟨_, rfl⟩
  rw [show upc I q (upc (I q) 0 (nI (0))) = I1 from hI1.symm]
  refine p_aload_n k11_9 rfl ?_
  refine p_bipush (v := nI 6) k11_10 (by decide) ?_
  refine p_newa (N := 6) k11_12 xa1_int (by decide) (by decide) (by decide) (by omega) ?_
  rw [show newarray.typeOf .int = .int from rfl]
  have hl9 : (h ++ [(.inr (.int, 6) : xSh)]).length = q + 2 := by rw [List.length_append, hl]; rfl
  have ht_0 : (h ++ [(.inr (.int, 6) : xSh)])[q]? = some (.inl 3) := by rw [List.getElem?_append_left (by rw [hl]; exact Nat.lt_add_of_pos_right (by decide))]; exact hs_0
  rw [hl]
  obtain ⟨h1, hh1⟩ : ∃ z, z = h ++ [(.inr (.int, 6) : xSh)] := ⟨_, rfl⟩
  rw [← hh1] at hl9 ht_0 ⊢
  clear hl
  have hl := hl9
  clear hl9
  clear hs_0
  have hs_0 := ht_0
  clear ht_0
  obtain ⟨I2, hI2⟩ : ∃ z, z = upc I1 (q + 1) (fun _ => 0) := ⟨_, rfl⟩
  rw [show upc I1 (q + 1) (fun _ => 0) = I2 from hI2.symm]
  obtain ⟨J1, hJ1⟩ : ∃ z, z = upc J (q + 1) (fun _ => 0) := ⟨_, rfl⟩
  rw [show upc J (q + 1) (fun _ => 0) = J1 from hJ1.symm]
  obtain ⟨K1, hK1⟩ : ∃ z, z = upc K (q + 1) (fun _ => none) := ⟨_, rfl⟩
  rw [show upc K (q + 1) (fun _ => none) = K1 from hK1.symm]
  refine p_putRv k11_14 hs_0 f_3_15_3 n_11_3_1 ?_
  obtain ⟨K2, hK2⟩ : ∃ z, z = sK K1 q 1 (some (q + 1)) := ⟨_, rfl⟩
  rw [show upc K1 q (upc (K1 q) 1 (some (q + 1))) = K2 from hK2.symm]
  refine p_aload_n k11_17 rfl ?_
  refine p_bipush (v := nI 6) k11_18 (by decide) ?_
  refine p_newa (N := 6) k11_20 xa1_int (by decide) (by decide) (by decide) (by omega) ?_
  rw [show newarray.typeOf .int = .int from rfl]
  have hl9 : (h1 ++ [(.inr (.int, 6) : xSh)]).length = q + 3 := by rw [List.length_append, hl]; rfl
  have ht_0 : (h1 ++ [(.inr (.int, 6) : xSh)])[q]? = some (.inl 3) := by rw [List.getElem?_append_left (by rw [hl]; exact Nat.lt_add_of_pos_right (by decide))]; exact hs_0
  rw [hl]
  obtain ⟨h2, hh2⟩ : ∃ z, z = h1 ++ [(.inr (.int, 6) : xSh)] := ⟨_, rfl⟩
  rw [← hh2] at hl9 ht_0 ⊢
  clear hl
  have hl := hl9
  clear hl9
  clear hs_0
  have hs_0 := ht_0
  clear ht_0
  obtain ⟨I3, hI3⟩ : ∃ z, z = upc I2 (q + 2) (fun _ => 0) := ⟨_, rfl⟩
  rw [show upc I2 (q + 2) (fun _ => 0) = I3 from hI3.symm]
  obtain ⟨J2, hJ2⟩ : ∃ z, z = upc J1 (q + 2) (fun _ => 0) := ⟨_, rfl⟩
  rw [show upc J1 (q + 2) (fun _ => 0) = J2 from hJ2.symm]
  obtain ⟨K3, hK3⟩ : ∃ z, z = upc K2 (q + 2) (fun _ => none) := ⟨_, rfl⟩
  rw [show upc K2 (q + 2) (fun _ => none) = K3 from hK3.symm]
  refine p_putRv k11_22 hs_0 f_3_19_3 n_11_3_2 ?_
  obtain ⟨K4, hK4⟩ : ∃ z, z = sK K3 q 2 (some (q + 2)) := ⟨_, rfl⟩
  rw [show upc K3 q (upc (K3 q) 2 (some (q + 2))) = K4 from hK4.symm]
  refine p_aload_n k11_25 rfl ?_
  refine p_bipush (v := nI 6) k11_26 (by decide) ?_
  refine p_newa (N := 6) k11_28 xa1_int (by decide) (by decide) (by decide) (by omega) ?_
  rw [show newarray.typeOf .int = .int from rfl]
  have hl9 : (h2 ++ [(.inr (.int, 6) : xSh)]).length = q + 4 := by rw [List.length_append, hl]; rfl
  have ht_0 : (h2 ++ [(.inr (.int, 6) : xSh)])[q]? = some (.inl 3) := by rw [List.getElem?_append_left (by rw [hl]; exact Nat.lt_add_of_pos_right (by decide))]; exact hs_0
  rw [hl]
  obtain ⟨h3, hh3⟩ : ∃ z, z = h2 ++ [(.inr (.int, 6) : xSh)] := ⟨_, rfl⟩
  rw [← hh3] at hl9 ht_0 ⊢
  clear hl
  have hl := hl9
  clear hl9
  clear hs_0
  have hs_0 := ht_0
  clear ht_0
  obtain ⟨I4, hI4⟩ : ∃ z, z = upc I3 (q + 3) (fun _ => 0) := ⟨_, rfl⟩
  rw [show upc I3 (q + 3) (fun _ => 0) = I4 from hI4.symm]
  obtain ⟨J3, hJ3⟩ : ∃ z, z = upc J2 (q + 3) (fun _ => 0) := ⟨_, rfl⟩
  rw [show upc J2 (q + 3) (fun _ => 0) = J3 from hJ3.symm]
  obtain ⟨K5, hK5⟩ : ∃ z, z = upc K4 (q + 3) (fun _ => none) := ⟨_, rfl⟩
  rw [show upc K4 (q + 3) (fun _ => none) = K5 from hK5.symm]
  refine p_putRv k11_30 hs_0 f_3_22_3 n_11_3_3 ?_
  obtain ⟨K6, hK6⟩ : ∃ z, z = sK K5 q 3 (some (q + 3)) := ⟨_, rfl⟩
  rw [show upc K5 q (upc (K5 q) 3 (some (q + 3))) = K6 from hK6.symm]
  refine p_aload_n k11_33 rfl ?_
  refine p_iconst (v := nI 0) k11_34 (by decide) ?_
  refine p_putIv k11_35 hs_0 g_3_25_3 n_11_3_4 ?_
  obtain ⟨I5, hI5⟩ : ∃ z, z = s1 I4 q 4 (nI (0)) := ⟨_, rfl⟩
  rw [show upc I4 q (upc (I4 q) 4 (nI (0))) = I5 from hI5.symm]
  refine p_aload_n k11_38 rfl ?_
  refine p_bipush (v := nI 6) k11_39 (by decide) ?_
  refine p_newq (ci := 2) (N := 6) k11_41 (by decide) xaty_2 (by decide) (by decide) (by decide) (by omega) ?_
  have hl9 : (h3 ++ [(.inr (.object (xR 2), 6) : xSh)]).length = q + 5 := by rw [List.length_append, hl]; rfl
  have ht_0 : (h3 ++ [(.inr (.object (xR 2), 6) : xSh)])[q]? = some (.inl 3) := by rw [List.getElem?_append_left (by rw [hl]; exact Nat.lt_add_of_pos_right (by decide))]; exact hs_0
  rw [hl]
  obtain ⟨h4, hh4⟩ : ∃ z, z = h3 ++ [(.inr (.object (xR 2), 6) : xSh)] := ⟨_, rfl⟩
  rw [← hh4] at hl9 ht_0 ⊢
  clear hl
  have hl := hl9
  clear hl9
  clear hs_0
  have hs_0 := ht_0
  clear ht_0
  obtain ⟨I6, hI6⟩ : ∃ z, z = upc I5 (q + 4) (fun _ => 0) := ⟨_, rfl⟩
  rw [show upc I5 (q + 4) (fun _ => 0) = I6 from hI6.symm]
  obtain ⟨J4, hJ4⟩ : ∃ z, z = upc J3 (q + 4) (fun _ => 0) := ⟨_, rfl⟩
  rw [show upc J3 (q + 4) (fun _ => 0) = J4 from hJ4.symm]
  obtain ⟨K7, hK7⟩ : ∃ z, z = upc K6 (q + 4) (fun _ => none) := ⟨_, rfl⟩
  rw [show upc K6 (q + 4) (fun _ => none) = K7 from hK7.symm]
  refine p_putRv k11_44 hs_0 f_3_30_3 n_11_3_5 ?_
  obtain ⟨K8, hK8⟩ : ∃ z, z = sK K7 q 5 (some (q + 4)) := ⟨_, rfl⟩
  rw [show upc K7 q (upc (K7 q) 5 (some (q + 4))) = K8 from hK8.symm]
  refine p_aload_n k11_47 rfl ?_
  refine p_bipush (v := nI 6) k11_48 (by decide) ?_
  refine p_newa (N := 6) k11_50 xa1_int (by decide) (by decide) (by decide) (by omega) ?_
  rw [show newarray.typeOf .int = .int from rfl]
  have hl9 : (h4 ++ [(.inr (.int, 6) : xSh)]).length = q + 6 := by rw [List.length_append, hl]; rfl
  have ht_0 : (h4 ++ [(.inr (.int, 6) : xSh)])[q]? = some (.inl 3) := by rw [List.getElem?_append_left (by rw [hl]; exact Nat.lt_add_of_pos_right (by decide))]; exact hs_0
  rw [hl]
  obtain ⟨h5, hh5⟩ : ∃ z, z = h4 ++ [(.inr (.int, 6) : xSh)] := ⟨_, rfl⟩
  rw [← hh5] at hl9 ht_0 ⊢
  clear hl
  have hl := hl9
  clear hl9
  clear hs_0
  have hs_0 := ht_0
  clear ht_0
  obtain ⟨I7, hI7⟩ : ∃ z, z = upc I6 (q + 5) (fun _ => 0) := ⟨_, rfl⟩
  rw [show upc I6 (q + 5) (fun _ => 0) = I7 from hI7.symm]
  obtain ⟨J5, hJ5⟩ : ∃ z, z = upc J4 (q + 5) (fun _ => 0) := ⟨_, rfl⟩
  rw [show upc J4 (q + 5) (fun _ => 0) = J5 from hJ5.symm]
  obtain ⟨K9, hK9⟩ : ∃ z, z = upc K8 (q + 5) (fun _ => none) := ⟨_, rfl⟩
  rw [show upc K8 (q + 5) (fun _ => none) = K9 from hK9.symm]
  refine p_putRv k11_52 hs_0 f_3_34_3 n_11_3_6 ?_
  obtain ⟨K10, hK10⟩ : ∃ z, z = sK K9 q 6 (some (q + 5)) := ⟨_, rfl⟩
  rw [show upc K9 q (upc (K9 q) 6 (some (q + 5))) = K10 from hK10.symm]
  refine p_aload_n k11_55 rfl ?_
  refine p_bipush (v := nI 6) k11_56 (by decide) ?_
  refine p_newa (N := 6) k11_58 xa1_int (by decide) (by decide) (by decide) (by omega) ?_
  rw [show newarray.typeOf .int = .int from rfl]
  have hl9 : (h5 ++ [(.inr (.int, 6) : xSh)]).length = q + 7 := by rw [List.length_append, hl]; rfl
  have ht_0 : (h5 ++ [(.inr (.int, 6) : xSh)])[q]? = some (.inl 3) := by rw [List.getElem?_append_left (by rw [hl]; exact Nat.lt_add_of_pos_right (by decide))]; exact hs_0
  rw [hl]
  obtain ⟨h6, hh6⟩ : ∃ z, z = h5 ++ [(.inr (.int, 6) : xSh)] := ⟨_, rfl⟩
  rw [← hh6] at hl9 ht_0 ⊢
  clear hl
  have hl := hl9
  clear hl9
  clear hs_0
  have hs_0 := ht_0
  clear ht_0
  obtain ⟨I8, hI8⟩ : ∃ z, z = upc I7 (q + 6) (fun _ => 0) := ⟨_, rfl⟩
  rw [show upc I7 (q + 6) (fun _ => 0) = I8 from hI8.symm]
  obtain ⟨J6, hJ6⟩ : ∃ z, z = upc J5 (q + 6) (fun _ => 0) := ⟨_, rfl⟩
  rw [show upc J5 (q + 6) (fun _ => 0) = J6 from hJ6.symm]
  obtain ⟨K11, hK11⟩ : ∃ z, z = upc K10 (q + 6) (fun _ => none) := ⟨_, rfl⟩
  rw [show upc K10 (q + 6) (fun _ => none) = K11 from hK11.symm]
  refine p_putRv k11_60 hs_0 f_3_37_3 n_11_3_7 ?_
  obtain ⟨K12, hK12⟩ : ∃ z, z = sK K11 q 7 (some (q + 6)) := ⟨_, rfl⟩
  rw [show upc K11 q (upc (K11 q) 7 (some (q + 6))) = K12 from hK12.symm]
  refine p_aload_n k11_63 rfl ?_
  refine p_bipush (v := nI 24) k11_64 (by decide) ?_
  refine p_newa (N := 24) k11_66 xa1_int (by decide) (by decide) (by decide) (by omega) ?_
  rw [show newarray.typeOf .int = .int from rfl]
  have hl9 : (h6 ++ [(.inr (.int, 24) : xSh)]).length = q + 8 := by rw [List.length_append, hl]; rfl
  have ht_0 : (h6 ++ [(.inr (.int, 24) : xSh)])[q]? = some (.inl 3) := by rw [List.getElem?_append_left (by rw [hl]; exact Nat.lt_add_of_pos_right (by decide))]; exact hs_0
  rw [hl]
  obtain ⟨h7, hh7⟩ : ∃ z, z = h6 ++ [(.inr (.int, 24) : xSh)] := ⟨_, rfl⟩
  rw [← hh7] at hl9 ht_0 ⊢
  clear hl
  have hl := hl9
  clear hl9
  clear hs_0
  have hs_0 := ht_0
  clear ht_0
  obtain ⟨I9, hI9⟩ : ∃ z, z = upc I8 (q + 7) (fun _ => 0) := ⟨_, rfl⟩
  rw [show upc I8 (q + 7) (fun _ => 0) = I9 from hI9.symm]
  obtain ⟨J7, hJ7⟩ : ∃ z, z = upc J6 (q + 7) (fun _ => 0) := ⟨_, rfl⟩
  rw [show upc J6 (q + 7) (fun _ => 0) = J7 from hJ7.symm]
  obtain ⟨K13, hK13⟩ : ∃ z, z = upc K12 (q + 7) (fun _ => none) := ⟨_, rfl⟩
  rw [show upc K12 (q + 7) (fun _ => none) = K13 from hK13.symm]
  refine p_putRv k11_68 hs_0 f_3_40_3 n_11_3_8 ?_
  obtain ⟨K14, hK14⟩ : ∃ z, z = sK K13 q 8 (some (q + 7)) := ⟨_, rfl⟩
  rw [show upc K13 q (upc (K13 q) 8 (some (q + 7))) = K14 from hK14.symm]
  refine p_aload_n k11_71 rfl ?_
  refine p_iconst (v := nI 0) k11_72 (by decide) ?_
  refine p_putIv k11_73 hs_0 g_3_43_3 n_11_3_9 ?_
  obtain ⟨I10, hI10⟩ : ∃ z, z = s1 I9 q 9 (nI (0)) := ⟨_, rfl⟩
  rw [show upc I9 q (upc (I9 q) 9 (nI (0))) = I10 from hI10.symm]
  refine p_aload_n k11_76 rfl ?_
  refine p_iconst (v := nI 5) k11_77 (by decide) ?_
  refine p_newa (N := 5) k11_78 xa1_int (by decide) (by decide) (by decide) (by omega) ?_
  rw [show newarray.typeOf .int = .int from rfl]
  have hl9 : (h7 ++ [(.inr (.int, 5) : xSh)]).length = q + 9 := by rw [List.length_append, hl]; rfl
  have ht_0 : (h7 ++ [(.inr (.int, 5) : xSh)])[q]? = some (.inl 3) := by rw [List.getElem?_append_left (by rw [hl]; exact Nat.lt_add_of_pos_right (by decide))]; exact hs_0
  rw [hl]
  obtain ⟨h8, hh8⟩ : ∃ z, z = h7 ++ [(.inr (.int, 5) : xSh)] := ⟨_, rfl⟩
  rw [← hh8] at hl9 ht_0 ⊢
  clear hl
  have hl := hl9
  clear hl9
  clear hs_0
  have hs_0 := ht_0
  clear ht_0
  obtain ⟨I11, hI11⟩ : ∃ z, z = upc I10 (q + 8) (fun _ => 0) := ⟨_, rfl⟩
  rw [show upc I10 (q + 8) (fun _ => 0) = I11 from hI11.symm]
  obtain ⟨J8, hJ8⟩ : ∃ z, z = upc J7 (q + 8) (fun _ => 0) := ⟨_, rfl⟩
  rw [show upc J7 (q + 8) (fun _ => 0) = J8 from hJ8.symm]
  obtain ⟨K15, hK15⟩ : ∃ z, z = upc K14 (q + 8) (fun _ => none) := ⟨_, rfl⟩
  rw [show upc K14 (q + 8) (fun _ => none) = K15 from hK15.symm]
  refine p_putRv k11_80 hs_0 f_3_46_3 n_11_3_10 ?_
  obtain ⟨K16, hK16⟩ : ∃ z, z = sK K15 q 10 (some (q + 8)) := ⟨_, rfl⟩
  rw [show upc K15 q (upc (K15 q) 10 (some (q + 8))) = K16 from hK16.symm]
  refine p_aload_n k11_83 rfl ?_
  refine p_iconst (v := nI 0) k11_84 (by decide) ?_
  refine p_putIv k11_85 hs_0 g_3_49_3 n_11_3_11 ?_
  obtain ⟨I12, hI12⟩ : ∃ z, z = s1 I11 q 11 (nI (0)) := ⟨_, rfl⟩
  rw [show upc I11 q (upc (I11 q) 11 (nI (0))) = I12 from hI12.symm]
  refine p_aload_n k11_88 rfl ?_
  refine p_bipush (v := nI 6) k11_89 (by decide) ?_
  refine p_newa (N := 6) k11_91 xa1_int (by decide) (by decide) (by decide) (by omega) ?_
  rw [show newarray.typeOf .int = .int from rfl]
  have hl9 : (h8 ++ [(.inr (.int, 6) : xSh)]).length = q + 10 := by rw [List.length_append, hl]; rfl
  have ht_0 : (h8 ++ [(.inr (.int, 6) : xSh)])[q]? = some (.inl 3) := by rw [List.getElem?_append_left (by rw [hl]; exact Nat.lt_add_of_pos_right (by decide))]; exact hs_0
  rw [hl]
  obtain ⟨h9, hh9⟩ : ∃ z, z = h8 ++ [(.inr (.int, 6) : xSh)] := ⟨_, rfl⟩
  rw [← hh9] at hl9 ht_0 ⊢
  clear hl
  have hl := hl9
  clear hl9
  clear hs_0
  have hs_0 := ht_0
  clear ht_0
  obtain ⟨I13, hI13⟩ : ∃ z, z = upc I12 (q + 9) (fun _ => 0) := ⟨_, rfl⟩
  rw [show upc I12 (q + 9) (fun _ => 0) = I13 from hI13.symm]
  obtain ⟨J9, hJ9⟩ : ∃ z, z = upc J8 (q + 9) (fun _ => 0) := ⟨_, rfl⟩
  rw [show upc J8 (q + 9) (fun _ => 0) = J9 from hJ9.symm]
  obtain ⟨K17, hK17⟩ : ∃ z, z = upc K16 (q + 9) (fun _ => none) := ⟨_, rfl⟩
  rw [show upc K16 (q + 9) (fun _ => none) = K17 from hK17.symm]
  refine p_putRv k11_93 hs_0 f_3_52_3 n_11_3_12 ?_
  obtain ⟨K18, hK18⟩ : ∃ z, z = sK K17 q 12 (some (q + 9)) := ⟨_, rfl⟩
  rw [show upc K17 q (upc (K17 q) 12 (some (q + 9))) = K18 from hK18.symm]
  refine p_aload_n k11_96 rfl ?_
  refine p_bipush (v := nI 6) k11_97 (by decide) ?_
  refine p_newa (N := 6) k11_99 xa1_int (by decide) (by decide) (by decide) (by omega) ?_
  rw [show newarray.typeOf .int = .int from rfl]
  have hl9 : (h9 ++ [(.inr (.int, 6) : xSh)]).length = q + 11 := by rw [List.length_append, hl]; rfl
  have ht_0 : (h9 ++ [(.inr (.int, 6) : xSh)])[q]? = some (.inl 3) := by rw [List.getElem?_append_left (by rw [hl]; exact Nat.lt_add_of_pos_right (by decide))]; exact hs_0
  rw [hl]
  obtain ⟨h10, hh10⟩ : ∃ z, z = h9 ++ [(.inr (.int, 6) : xSh)] := ⟨_, rfl⟩
  rw [← hh10] at hl9 ht_0 ⊢
  clear hl
  have hl := hl9
  clear hl9
  clear hs_0
  have hs_0 := ht_0
  clear ht_0
  obtain ⟨I14, hI14⟩ : ∃ z, z = upc I13 (q + 10) (fun _ => 0) := ⟨_, rfl⟩
  rw [show upc I13 (q + 10) (fun _ => 0) = I14 from hI14.symm]
  obtain ⟨J10, hJ10⟩ : ∃ z, z = upc J9 (q + 10) (fun _ => 0) := ⟨_, rfl⟩
  rw [show upc J9 (q + 10) (fun _ => 0) = J10 from hJ10.symm]
  obtain ⟨K19, hK19⟩ : ∃ z, z = upc K18 (q + 10) (fun _ => none) := ⟨_, rfl⟩
  rw [show upc K18 (q + 10) (fun _ => none) = K19 from hK19.symm]
  refine p_putRv k11_101 hs_0 f_3_55_3 n_11_3_13 ?_
  obtain ⟨K20, hK20⟩ : ∃ z, z = sK K19 q 13 (some (q + 10)) := ⟨_, rfl⟩
  rw [show upc K19 q (upc (K19 q) 13 (some (q + 10))) = K20 from hK20.symm]
  refine p_aload_n k11_104 rfl ?_
  refine p_iconst (v := nI 0) k11_105 (by decide) ?_
  refine p_putIv k11_106 hs_0 g_3_58_3 n_11_3_14 ?_
  obtain ⟨I15, hI15⟩ : ∃ z, z = s1 I14 q 14 (nI (0)) := ⟨_, rfl⟩
  rw [show upc I14 q (upc (I14 q) 14 (nI (0))) = I15 from hI15.symm]
  refine p_aload_n k11_109 rfl ?_
  refine p_bipush (v := nI 8) k11_110 (by decide) ?_
  refine p_newa (N := 8) k11_112 xa1_int (by decide) (by decide) (by decide) (by omega) ?_
  rw [show newarray.typeOf .int = .int from rfl]
  have hl9 : (h10 ++ [(.inr (.int, 8) : xSh)]).length = q + 12 := by rw [List.length_append, hl]; rfl
  have ht_0 : (h10 ++ [(.inr (.int, 8) : xSh)])[q]? = some (.inl 3) := by rw [List.getElem?_append_left (by rw [hl]; exact Nat.lt_add_of_pos_right (by decide))]; exact hs_0
  rw [hl]
  obtain ⟨h11, hh11⟩ : ∃ z, z = h10 ++ [(.inr (.int, 8) : xSh)] := ⟨_, rfl⟩
  rw [← hh11] at hl9 ht_0 ⊢
  clear hl
  have hl := hl9
  clear hl9
  clear hs_0
  have hs_0 := ht_0
  clear ht_0
  obtain ⟨I16, hI16⟩ : ∃ z, z = upc I15 (q + 11) (fun _ => 0) := ⟨_, rfl⟩
  rw [show upc I15 (q + 11) (fun _ => 0) = I16 from hI16.symm]
  obtain ⟨J11, hJ11⟩ : ∃ z, z = upc J10 (q + 11) (fun _ => 0) := ⟨_, rfl⟩
  rw [show upc J10 (q + 11) (fun _ => 0) = J11 from hJ11.symm]
  obtain ⟨K21, hK21⟩ : ∃ z, z = upc K20 (q + 11) (fun _ => none) := ⟨_, rfl⟩
  rw [show upc K20 (q + 11) (fun _ => none) = K21 from hK21.symm]
  refine p_putRv k11_114 hs_0 f_3_61_3 n_11_3_15 ?_
  obtain ⟨K22, hK22⟩ : ∃ z, z = sK K21 q 15 (some (q + 11)) := ⟨_, rfl⟩
  rw [show upc K21 q (upc (K21 q) 15 (some (q + 11))) = K22 from hK22.symm]
  refine p_aload_n k11_117 rfl ?_
  refine p_bipush (v := nI 8) k11_118 (by decide) ?_
  refine p_newa (N := 8) k11_120 xa1_int (by decide) (by decide) (by decide) (by omega) ?_
  rw [show newarray.typeOf .int = .int from rfl]
  have hl9 : (h11 ++ [(.inr (.int, 8) : xSh)]).length = q + 13 := by rw [List.length_append, hl]; rfl
  have ht_0 : (h11 ++ [(.inr (.int, 8) : xSh)])[q]? = some (.inl 3) := by rw [List.getElem?_append_left (by rw [hl]; exact Nat.lt_add_of_pos_right (by decide))]; exact hs_0
  rw [hl]
  obtain ⟨h12, hh12⟩ : ∃ z, z = h11 ++ [(.inr (.int, 8) : xSh)] := ⟨_, rfl⟩
  rw [← hh12] at hl9 ht_0 ⊢
  clear hl
  have hl := hl9
  clear hl9
  clear hs_0
  have hs_0 := ht_0
  clear ht_0
  obtain ⟨I17, hI17⟩ : ∃ z, z = upc I16 (q + 12) (fun _ => 0) := ⟨_, rfl⟩
  rw [show upc I16 (q + 12) (fun _ => 0) = I17 from hI17.symm]
  obtain ⟨J12, hJ12⟩ : ∃ z, z = upc J11 (q + 12) (fun _ => 0) := ⟨_, rfl⟩
  rw [show upc J11 (q + 12) (fun _ => 0) = J12 from hJ12.symm]
  obtain ⟨K23, hK23⟩ : ∃ z, z = upc K22 (q + 12) (fun _ => none) := ⟨_, rfl⟩
  rw [show upc K22 (q + 12) (fun _ => none) = K23 from hK23.symm]
  refine p_putRv k11_122 hs_0 f_3_64_3 n_11_3_16 ?_
  obtain ⟨K24, hK24⟩ : ∃ z, z = sK K23 q 16 (some (q + 12)) := ⟨_, rfl⟩
  rw [show upc K23 q (upc (K23 q) 16 (some (q + 12))) = K24 from hK24.symm]
  refine p_aload_n k11_125 rfl ?_
  refine p_iconst (v := (-1)) k11_126 (by decide) ?_
  refine p_putIv k11_127 hs_0 g_3_67_3 n_11_3_17 ?_
  obtain ⟨I18, hI18⟩ : ∃ z, z = s1 I17 q 17 ((-1)) := ⟨_, rfl⟩
  rw [show upc I17 q (upc (I17 q) 17 ((-1))) = I18 from hI18.symm]
  refine p_return k11_130 rt_11 ?_
  have eI : I18 = scnI I q := by
    rw [hI18, hI17, hI16, hI15, hI14, hI13, hI12, hI11, hI10, hI9, hI8, hI7, hI6, hI5, hI4, hI3, hI2, hI1]
    rfl
  have eJ : J12 = scnJ J q := by
    rw [hJ12, hJ11, hJ10, hJ9, hJ8, hJ7, hJ6, hJ5, hJ4, hJ3, hJ2, hJ1]
    rfl
  have eK : K24 = scnK K q := by
    rw [hK24, hK23, hK22, hK21, hK20, hK19, hK18, hK17, hK16, hK15, hK14, hK13, hK12, hK11, hK10, hK9, hK8, hK7, hK6, hK5, hK4, hK3, hK2, hK1]
    rfl
  have eH : h12 = scnH h := by
    rw [hh12, hh11, hh10, hh9, hh8, hh7, hh6, hh5, hh4, hh3, hh2, hh1]
    rfl
  show (_, _, _, _) = (_, _, _, _)
  rw [eI, eJ, eK, eH]

def tapI (I : Nat → Nat → Int32) (q : Nat) : Nat → Nat → Int32 := (upc (s1 (s1 I q 0 ((-1))) q 1 (nI (0))) (q + 1) (fun _ => 0))
def tapJ (J : Nat → Nat → Int64) (q : Nat) : Nat → Nat → Int64 := (upc J (q + 1) (fun _ => 0))
def tapK (K : Nat → Nat → Option Nat) (q : Nat) : Nat → Nat → Option Nat := (sK (upc K (q + 1) (fun _ => none)) q 2 (some (q + 1)))
theorem tapK_lo {K : Nat → Nat → Option Nat} {q x : Nat} (hx : x < q) : tapK K q x = K x := by
  unfold tapK
  repeat (first | rw [upc_ne _ _ (by omega)] | rw [sK_ne (by omega)] | rw [scnK_lo (by omega)])
def tapH (h : List xSh) : List xSh := (h ++ [(.inr (.long, 60) : xSh)])
theorem tap_len (h : List xSh) : (tapH h).length = h.length + 1 := by unfold tapH; simp only [List.length_append, List.length_cons, List.length_nil, scn_len]
theorem tap_at {h : List xSh} {i : Nat} (hi : i < h.length) : (tapH h)[i]? = h[i]? := by
  unfold tapH
  repeat (first | rw [List.getElem?_append_left (by (try simp only [List.length_append, List.length_cons, List.length_nil, scn_len]); omega)] | rw [scn_at (by (try simp only [List.length_append, List.length_cons, List.length_nil, scn_len]); omega)])
set_option maxRecDepth 100000 in
set_option maxHeartbeats 4000000 in
theorem C_tap {d : Nat} {I : Nat → Nat → Int32} {J : Nat → Nat → Int64} {K : Nat → Nat → Option Nat} {h : List xSh} {q : Nat} (hq9 : q < 1000) (hl : h.length = q + 1) (hs_0 : h[q]? = some (.inl 5)) : EvP (d + 1) 21 0 [(0, .ref q)] [] (I, J, K, h) (QV (fun t => t = (tapI I q, tapJ J q, tapK K q, tapH h))) := by
  refine p_aload_n k21_0 rfl ?_
  refine p_oinit k21_1 (by decide) (Nat.le_of_ble_eq_true rfl) ?_
  refine p_aload_n k21_4 rfl ?_
  refine p_iconst (v := (-1)) k21_5 (by decide) ?_
  refine p_putIv k21_6 hs_0 g_5_11_5 n_21_5_0 ?_
  obtain ⟨I1, hI1⟩ : ∃ z, z = s1 I q 0 ((-1)) := ⟨_, rfl⟩
  rw [show upc I q (upc (I q) 0 ((-1))) = I1 from hI1.symm]
  refine p_aload_n k21_9 rfl ?_
  refine p_iconst (v := nI 0) k21_10 (by decide) ?_
  refine p_putIv k21_11 hs_0 g_5_15_5 n_21_5_1 ?_
  obtain ⟨I2, hI2⟩ : ∃ z, z = s1 I1 q 1 (nI (0)) := ⟨_, rfl⟩
  rw [show upc I1 q (upc (I1 q) 1 (nI (0))) = I2 from hI2.symm]
  refine p_aload_n k21_14 rfl ?_
  refine p_bipush (v := nI 60) k21_15 (by decide) ?_
  refine p_newa (N := 60) k21_17 xa1_long (by decide) (by decide) (by decide) (by omega) ?_
  rw [show newarray.typeOf .long = .long from rfl]
  have hl9 : (h ++ [(.inr (.long, 60) : xSh)]).length = q + 2 := by rw [List.length_append, hl]; rfl
  have ht_0 : (h ++ [(.inr (.long, 60) : xSh)])[q]? = some (.inl 5) := by rw [List.getElem?_append_left (by rw [hl]; exact Nat.lt_add_of_pos_right (by decide))]; exact hs_0
  rw [hl]
  obtain ⟨h1, hh1⟩ : ∃ z, z = h ++ [(.inr (.long, 60) : xSh)] := ⟨_, rfl⟩
  rw [← hh1] at hl9 ht_0 ⊢
  clear hl
  have hl := hl9
  clear hl9
  clear hs_0
  have hs_0 := ht_0
  clear ht_0
  obtain ⟨I3, hI3⟩ : ∃ z, z = upc I2 (q + 1) (fun _ => 0) := ⟨_, rfl⟩
  rw [show upc I2 (q + 1) (fun _ => 0) = I3 from hI3.symm]
  obtain ⟨J1, hJ1⟩ : ∃ z, z = upc J (q + 1) (fun _ => 0) := ⟨_, rfl⟩
  rw [show upc J (q + 1) (fun _ => 0) = J1 from hJ1.symm]
  obtain ⟨K1, hK1⟩ : ∃ z, z = upc K (q + 1) (fun _ => none) := ⟨_, rfl⟩
  rw [show upc K (q + 1) (fun _ => none) = K1 from hK1.symm]
  refine p_putRv k21_19 hs_0 f_5_18_5 n_21_5_2 ?_
  obtain ⟨K2, hK2⟩ : ∃ z, z = sK K1 q 2 (some (q + 1)) := ⟨_, rfl⟩
  rw [show upc K1 q (upc (K1 q) 2 (some (q + 1))) = K2 from hK2.symm]
  refine p_return k21_22 rt_21 ?_
  have eI : I3 = tapI I q := by
    rw [hI3, hI2, hI1]
    rfl
  have eJ : J1 = tapJ J q := by
    rw [hJ1]
    rfl
  have eK : K2 = tapK K q := by
    rw [hK2, hK1]
    rfl
  have eH : h1 = tapH h := by
    rw [hh1]
    rfl
  show (_, _, _, _) = (_, _, _, _)
  rw [eI, eJ, eK, eH]

def twnI (I : Nat → Nat → Int32) (q : Nat) : Nat → Nat → Int32 := (s1 (s1 (s1 (upc (s1 (upc (upc (upc (upc (upc (s1 I q 0 (nI (0))) (q + 1) (fun _ => 0)) (q + 2) (fun _ => 0)) (q + 3) (fun _ => 0)) (q + 4) (fun _ => 0)) (q + 5) (fun _ => 0)) q 6 (nI (0))) (q + 6) (fun _ => 0)) q 9 (nI (0))) q 10 (nI (0))) q 11 (bI true))
def twnJ (J : Nat → Nat → Int64) (q : Nat) : Nat → Nat → Int64 := (upc (upc (upc (upc (upc (upc J (q + 1) (fun _ => 0)) (q + 2) (fun _ => 0)) (q + 3) (fun _ => 0)) (q + 4) (fun _ => 0)) (q + 5) (fun _ => 0)) (q + 6) (fun _ => 0))
def twnK (K : Nat → Nat → Option Nat) (q : Nat) : Nat → Nat → Option Nat := (sK (sK (upc (sK (upc (sK (upc (sK (upc (sK (upc (sK (upc K (q + 1) (fun _ => none)) q 1 (some (q + 1))) (q + 2) (fun _ => none)) q 2 (some (q + 2))) (q + 3) (fun _ => none)) q 3 (some (q + 3))) (q + 4) (fun _ => none)) q 4 (some (q + 4))) (q + 5) (fun _ => none)) q 5 (some (q + 5))) (q + 6) (fun _ => none)) q 7 (some (q + 6))) q 8 (some (1000010)))
theorem twnK_lo {K : Nat → Nat → Option Nat} {q x : Nat} (hx : x < q) : twnK K q x = K x := by
  unfold twnK
  repeat (first | rw [upc_ne _ _ (by omega)] | rw [sK_ne (by omega)] | rw [scnK_lo (by omega)] | rw [tapK_lo (by omega)])
def twnH (h : List xSh) : List xSh := ((((((h ++ [(.inr (.int, 10) : xSh)]) ++ [(.inr (.int, 10) : xSh)]) ++ [(.inr (.int, 10) : xSh)]) ++ [(.inr (.int, 10) : xSh)]) ++ [(.inr (.int, 10) : xSh)]) ++ [(.inr (.int, 100) : xSh)])
theorem twn_len (h : List xSh) : (twnH h).length = h.length + 6 := by unfold twnH; simp only [List.length_append, List.length_cons, List.length_nil, scn_len, tap_len]
theorem twn_at {h : List xSh} {i : Nat} (hi : i < h.length) : (twnH h)[i]? = h[i]? := by
  unfold twnH
  repeat (first | rw [List.getElem?_append_left (by (try simp only [List.length_append, List.length_cons, List.length_nil, scn_len, tap_len]); omega)] | rw [scn_at (by (try simp only [List.length_append, List.length_cons, List.length_nil, scn_len, tap_len]); omega)] | rw [tap_at (by (try simp only [List.length_append, List.length_cons, List.length_nil, scn_len, tap_len]); omega)])
set_option maxRecDepth 100000 in
set_option maxHeartbeats 4000000 in
theorem C_twn {d : Nat} {I : Nat → Nat → Int32} {J : Nat → Nat → Int64} {K : Nat → Nat → Option Nat} {h : List xSh} {q : Nat} (hq9 : q < 1000) (hl : h.length = q + 1) (hs_0 : h[q]? = some (.inl 8)) : EvP (d + 1) 32 0 [(0, .ref q)] [] (I, J, K, h) (QV (fun t => t = (twnI I q, twnJ J q, twnK K q, twnH h))) := by
  refine p_aload_n k32_0 rfl ?_
  refine p_oinit k32_1 (by decide) (Nat.le_of_ble_eq_true rfl) ?_
  refine p_aload_n k32_4 rfl ?_
  refine p_iconst (v := nI 0) k32_5 (by decide) ?_
  refine p_putIv k32_6 hs_0 g_8_9_8 n_32_8_0 ?_
  obtain ⟨I1, hI1⟩ : ∃ z, z = s1 I q 0 (nI (0)) := ⟨_, rfl⟩
  rw [show upc I q (upc (I q) 0 (nI (0))) = I1 from hI1.symm]
  refine p_aload_n k32_9 rfl ?_
  refine p_bipush (v := nI 10) k32_10 (by decide) ?_
  refine p_newa (N := 10) k32_12 xa1_int (by decide) (by decide) (by decide) (by omega) ?_
  rw [show newarray.typeOf .int = .int from rfl]
  have hl9 : (h ++ [(.inr (.int, 10) : xSh)]).length = q + 2 := by rw [List.length_append, hl]; rfl
  have ht_0 : (h ++ [(.inr (.int, 10) : xSh)])[q]? = some (.inl 8) := by rw [List.getElem?_append_left (by rw [hl]; exact Nat.lt_add_of_pos_right (by decide))]; exact hs_0
  rw [hl]
  obtain ⟨h1, hh1⟩ : ∃ z, z = h ++ [(.inr (.int, 10) : xSh)] := ⟨_, rfl⟩
  rw [← hh1] at hl9 ht_0 ⊢
  clear hl
  have hl := hl9
  clear hl9
  clear hs_0
  have hs_0 := ht_0
  clear ht_0
  obtain ⟨I2, hI2⟩ : ∃ z, z = upc I1 (q + 1) (fun _ => 0) := ⟨_, rfl⟩
  rw [show upc I1 (q + 1) (fun _ => 0) = I2 from hI2.symm]
  obtain ⟨J1, hJ1⟩ : ∃ z, z = upc J (q + 1) (fun _ => 0) := ⟨_, rfl⟩
  rw [show upc J (q + 1) (fun _ => 0) = J1 from hJ1.symm]
  obtain ⟨K1, hK1⟩ : ∃ z, z = upc K (q + 1) (fun _ => none) := ⟨_, rfl⟩
  rw [show upc K (q + 1) (fun _ => none) = K1 from hK1.symm]
  refine p_putRv k32_14 hs_0 f_8_15_8 n_32_8_1 ?_
  obtain ⟨K2, hK2⟩ : ∃ z, z = sK K1 q 1 (some (q + 1)) := ⟨_, rfl⟩
  rw [show upc K1 q (upc (K1 q) 1 (some (q + 1))) = K2 from hK2.symm]
  refine p_aload_n k32_17 rfl ?_
  refine p_bipush (v := nI 10) k32_18 (by decide) ?_
  refine p_newa (N := 10) k32_20 xa1_int (by decide) (by decide) (by decide) (by omega) ?_
  rw [show newarray.typeOf .int = .int from rfl]
  have hl9 : (h1 ++ [(.inr (.int, 10) : xSh)]).length = q + 3 := by rw [List.length_append, hl]; rfl
  have ht_0 : (h1 ++ [(.inr (.int, 10) : xSh)])[q]? = some (.inl 8) := by rw [List.getElem?_append_left (by rw [hl]; exact Nat.lt_add_of_pos_right (by decide))]; exact hs_0
  rw [hl]
  obtain ⟨h2, hh2⟩ : ∃ z, z = h1 ++ [(.inr (.int, 10) : xSh)] := ⟨_, rfl⟩
  rw [← hh2] at hl9 ht_0 ⊢
  clear hl
  have hl := hl9
  clear hl9
  clear hs_0
  have hs_0 := ht_0
  clear ht_0
  obtain ⟨I3, hI3⟩ : ∃ z, z = upc I2 (q + 2) (fun _ => 0) := ⟨_, rfl⟩
  rw [show upc I2 (q + 2) (fun _ => 0) = I3 from hI3.symm]
  obtain ⟨J2, hJ2⟩ : ∃ z, z = upc J1 (q + 2) (fun _ => 0) := ⟨_, rfl⟩
  rw [show upc J1 (q + 2) (fun _ => 0) = J2 from hJ2.symm]
  obtain ⟨K3, hK3⟩ : ∃ z, z = upc K2 (q + 2) (fun _ => none) := ⟨_, rfl⟩
  rw [show upc K2 (q + 2) (fun _ => none) = K3 from hK3.symm]
  refine p_putRv k32_22 hs_0 f_8_19_8 n_32_8_2 ?_
  obtain ⟨K4, hK4⟩ : ∃ z, z = sK K3 q 2 (some (q + 2)) := ⟨_, rfl⟩
  rw [show upc K3 q (upc (K3 q) 2 (some (q + 2))) = K4 from hK4.symm]
  refine p_aload_n k32_25 rfl ?_
  refine p_bipush (v := nI 10) k32_26 (by decide) ?_
  refine p_newa (N := 10) k32_28 xa1_int (by decide) (by decide) (by decide) (by omega) ?_
  rw [show newarray.typeOf .int = .int from rfl]
  have hl9 : (h2 ++ [(.inr (.int, 10) : xSh)]).length = q + 4 := by rw [List.length_append, hl]; rfl
  have ht_0 : (h2 ++ [(.inr (.int, 10) : xSh)])[q]? = some (.inl 8) := by rw [List.getElem?_append_left (by rw [hl]; exact Nat.lt_add_of_pos_right (by decide))]; exact hs_0
  rw [hl]
  obtain ⟨h3, hh3⟩ : ∃ z, z = h2 ++ [(.inr (.int, 10) : xSh)] := ⟨_, rfl⟩
  rw [← hh3] at hl9 ht_0 ⊢
  clear hl
  have hl := hl9
  clear hl9
  clear hs_0
  have hs_0 := ht_0
  clear ht_0
  obtain ⟨I4, hI4⟩ : ∃ z, z = upc I3 (q + 3) (fun _ => 0) := ⟨_, rfl⟩
  rw [show upc I3 (q + 3) (fun _ => 0) = I4 from hI4.symm]
  obtain ⟨J3, hJ3⟩ : ∃ z, z = upc J2 (q + 3) (fun _ => 0) := ⟨_, rfl⟩
  rw [show upc J2 (q + 3) (fun _ => 0) = J3 from hJ3.symm]
  obtain ⟨K5, hK5⟩ : ∃ z, z = upc K4 (q + 3) (fun _ => none) := ⟨_, rfl⟩
  rw [show upc K4 (q + 3) (fun _ => none) = K5 from hK5.symm]
  refine p_putRv k32_30 hs_0 f_8_22_8 n_32_8_3 ?_
  obtain ⟨K6, hK6⟩ : ∃ z, z = sK K5 q 3 (some (q + 3)) := ⟨_, rfl⟩
  rw [show upc K5 q (upc (K5 q) 3 (some (q + 3))) = K6 from hK6.symm]
  refine p_aload_n k32_33 rfl ?_
  refine p_bipush (v := nI 10) k32_34 (by decide) ?_
  refine p_newa (N := 10) k32_36 xa1_int (by decide) (by decide) (by decide) (by omega) ?_
  rw [show newarray.typeOf .int = .int from rfl]
  have hl9 : (h3 ++ [(.inr (.int, 10) : xSh)]).length = q + 5 := by rw [List.length_append, hl]; rfl
  have ht_0 : (h3 ++ [(.inr (.int, 10) : xSh)])[q]? = some (.inl 8) := by rw [List.getElem?_append_left (by rw [hl]; exact Nat.lt_add_of_pos_right (by decide))]; exact hs_0
  rw [hl]
  obtain ⟨h4, hh4⟩ : ∃ z, z = h3 ++ [(.inr (.int, 10) : xSh)] := ⟨_, rfl⟩
  rw [← hh4] at hl9 ht_0 ⊢
  clear hl
  have hl := hl9
  clear hl9
  clear hs_0
  have hs_0 := ht_0
  clear ht_0
  obtain ⟨I5, hI5⟩ : ∃ z, z = upc I4 (q + 4) (fun _ => 0) := ⟨_, rfl⟩
  rw [show upc I4 (q + 4) (fun _ => 0) = I5 from hI5.symm]
  obtain ⟨J4, hJ4⟩ : ∃ z, z = upc J3 (q + 4) (fun _ => 0) := ⟨_, rfl⟩
  rw [show upc J3 (q + 4) (fun _ => 0) = J4 from hJ4.symm]
  obtain ⟨K7, hK7⟩ : ∃ z, z = upc K6 (q + 4) (fun _ => none) := ⟨_, rfl⟩
  rw [show upc K6 (q + 4) (fun _ => none) = K7 from hK7.symm]
  refine p_putRv k32_38 hs_0 f_8_25_8 n_32_8_4 ?_
  obtain ⟨K8, hK8⟩ : ∃ z, z = sK K7 q 4 (some (q + 4)) := ⟨_, rfl⟩
  rw [show upc K7 q (upc (K7 q) 4 (some (q + 4))) = K8 from hK8.symm]
  refine p_aload_n k32_41 rfl ?_
  refine p_bipush (v := nI 10) k32_42 (by decide) ?_
  refine p_newa (N := 10) k32_44 xa1_int (by decide) (by decide) (by decide) (by omega) ?_
  rw [show newarray.typeOf .int = .int from rfl]
  have hl9 : (h4 ++ [(.inr (.int, 10) : xSh)]).length = q + 6 := by rw [List.length_append, hl]; rfl
  have ht_0 : (h4 ++ [(.inr (.int, 10) : xSh)])[q]? = some (.inl 8) := by rw [List.getElem?_append_left (by rw [hl]; exact Nat.lt_add_of_pos_right (by decide))]; exact hs_0
  rw [hl]
  obtain ⟨h5, hh5⟩ : ∃ z, z = h4 ++ [(.inr (.int, 10) : xSh)] := ⟨_, rfl⟩
  rw [← hh5] at hl9 ht_0 ⊢
  clear hl
  have hl := hl9
  clear hl9
  clear hs_0
  have hs_0 := ht_0
  clear ht_0
  obtain ⟨I6, hI6⟩ : ∃ z, z = upc I5 (q + 5) (fun _ => 0) := ⟨_, rfl⟩
  rw [show upc I5 (q + 5) (fun _ => 0) = I6 from hI6.symm]
  obtain ⟨J5, hJ5⟩ : ∃ z, z = upc J4 (q + 5) (fun _ => 0) := ⟨_, rfl⟩
  rw [show upc J4 (q + 5) (fun _ => 0) = J5 from hJ5.symm]
  obtain ⟨K9, hK9⟩ : ∃ z, z = upc K8 (q + 5) (fun _ => none) := ⟨_, rfl⟩
  rw [show upc K8 (q + 5) (fun _ => none) = K9 from hK9.symm]
  refine p_putRv k32_46 hs_0 f_8_28_8 n_32_8_5 ?_
  obtain ⟨K10, hK10⟩ : ∃ z, z = sK K9 q 5 (some (q + 5)) := ⟨_, rfl⟩
  rw [show upc K9 q (upc (K9 q) 5 (some (q + 5))) = K10 from hK10.symm]
  refine p_aload_n k32_49 rfl ?_
  refine p_iconst (v := nI 0) k32_50 (by decide) ?_
  refine p_putIv k32_51 hs_0 g_8_31_8 n_32_8_6 ?_
  obtain ⟨I7, hI7⟩ : ∃ z, z = s1 I6 q 6 (nI (0)) := ⟨_, rfl⟩
  rw [show upc I6 q (upc (I6 q) 6 (nI (0))) = I7 from hI7.symm]
  refine p_aload_n k32_54 rfl ?_
  refine p_bipush (v := nI 100) k32_55 (by decide) ?_
  refine p_newa (N := 100) k32_57 xa1_int (by decide) (by decide) (by decide) (by omega) ?_
  rw [show newarray.typeOf .int = .int from rfl]
  have hl9 : (h5 ++ [(.inr (.int, 100) : xSh)]).length = q + 7 := by rw [List.length_append, hl]; rfl
  have ht_0 : (h5 ++ [(.inr (.int, 100) : xSh)])[q]? = some (.inl 8) := by rw [List.getElem?_append_left (by rw [hl]; exact Nat.lt_add_of_pos_right (by decide))]; exact hs_0
  rw [hl]
  obtain ⟨h6, hh6⟩ : ∃ z, z = h5 ++ [(.inr (.int, 100) : xSh)] := ⟨_, rfl⟩
  rw [← hh6] at hl9 ht_0 ⊢
  clear hl
  have hl := hl9
  clear hl9
  clear hs_0
  have hs_0 := ht_0
  clear ht_0
  obtain ⟨I8, hI8⟩ : ∃ z, z = upc I7 (q + 6) (fun _ => 0) := ⟨_, rfl⟩
  rw [show upc I7 (q + 6) (fun _ => 0) = I8 from hI8.symm]
  obtain ⟨J6, hJ6⟩ : ∃ z, z = upc J5 (q + 6) (fun _ => 0) := ⟨_, rfl⟩
  rw [show upc J5 (q + 6) (fun _ => 0) = J6 from hJ6.symm]
  obtain ⟨K11, hK11⟩ : ∃ z, z = upc K10 (q + 6) (fun _ => none) := ⟨_, rfl⟩
  rw [show upc K10 (q + 6) (fun _ => none) = K11 from hK11.symm]
  refine p_putRv k32_59 hs_0 f_8_34_8 n_32_8_7 ?_
  obtain ⟨K12, hK12⟩ : ∃ z, z = sK K11 q 7 (some (q + 6)) := ⟨_, rfl⟩
  rw [show upc K11 q (upc (K11 q) 7 (some (q + 6))) = K12 from hK12.symm]
  refine p_aload_n k32_62 rfl ?_
  refine p_gets k32_63 rfl ?_
  refine p_putRv k32_66 hs_0 f_8_41_8 n_32_8_8 ?_
  obtain ⟨K13, hK13⟩ : ∃ z, z = sK K12 q 8 (some (1000010)) := ⟨_, rfl⟩
  rw [show upc K12 q (upc (K12 q) 8 (some (1000010))) = K13 from hK13.symm]
  refine p_aload_n k32_69 rfl ?_
  refine p_iconst (v := nI 0) k32_70 (by decide) ?_
  refine p_putIv k32_71 hs_0 g_8_44_8 n_32_8_9 ?_
  obtain ⟨I9, hI9⟩ : ∃ z, z = s1 I8 q 9 (nI (0)) := ⟨_, rfl⟩
  rw [show upc I8 q (upc (I8 q) 9 (nI (0))) = I9 from hI9.symm]
  refine p_aload_n k32_74 rfl ?_
  refine p_iconst (v := nI 0) k32_75 (by decide) ?_
  refine p_putIv k32_76 hs_0 g_8_47_8 n_32_8_10 ?_
  obtain ⟨I10, hI10⟩ : ∃ z, z = s1 I9 q 10 (nI (0)) := ⟨_, rfl⟩
  rw [show upc I9 q (upc (I9 q) 10 (nI (0))) = I10 from hI10.symm]
  refine p_aload_n k32_79 rfl ?_
  refine p_iconst (v := bI true) k32_80 (by decide) ?_
  refine p_putZv k32_81 hs_0 g_8_50_8 n_32_8_11 (bI_01 _) ?_
  obtain ⟨I11, hI11⟩ : ∃ z, z = s1 I10 q 11 (bI true) := ⟨_, rfl⟩
  rw [show upc I10 q (upc (I10 q) 11 (bI true)) = I11 from hI11.symm]
  refine p_return k32_84 rt_32 ?_
  have eI : I11 = twnI I q := by
    rw [hI11, hI10, hI9, hI8, hI7, hI6, hI5, hI4, hI3, hI2, hI1]
    rfl
  have eJ : J6 = twnJ J q := by
    rw [hJ6, hJ5, hJ4, hJ3, hJ2, hJ1]
    rfl
  have eK : K13 = twnK K q := by
    rw [hK13, hK12, hK11, hK10, hK9, hK8, hK7, hK6, hK5, hK4, hK3, hK2, hK1]
    rfl
  have eH : h6 = twnH h := by
    rw [hh6, hh5, hh4, hh3, hh2, hh1]
    rfl
  show (_, _, _, _) = (_, _, _, _)
  rw [eI, eJ, eK, eH]

def trcI (I : Nat → Nat → Int32) (q : Nat) : Nat → Nat → Int32 := (s1 (upc I (q + 1) (fun _ => 0)) q 1 (nI (0)))
def trcJ (J : Nat → Nat → Int64) (q : Nat) : Nat → Nat → Int64 := (upc J (q + 1) (fun _ => 0))
def trcK (K : Nat → Nat → Option Nat) (q : Nat) : Nat → Nat → Option Nat := (sK (upc K (q + 1) (fun _ => none)) q 0 (some (q + 1)))
theorem trcK_lo {K : Nat → Nat → Option Nat} {q x : Nat} (hx : x < q) : trcK K q x = K x := by
  unfold trcK
  repeat (first | rw [upc_ne _ _ (by omega)] | rw [sK_ne (by omega)] | rw [scnK_lo (by omega)] | rw [tapK_lo (by omega)] | rw [twnK_lo (by omega)])
def trcH (h : List xSh) : List xSh := (h ++ [(.inr (.int, 20) : xSh)])
theorem trc_len (h : List xSh) : (trcH h).length = h.length + 1 := by unfold trcH; simp only [List.length_append, List.length_cons, List.length_nil, scn_len, tap_len, twn_len]
theorem trc_at {h : List xSh} {i : Nat} (hi : i < h.length) : (trcH h)[i]? = h[i]? := by
  unfold trcH
  repeat (first | rw [List.getElem?_append_left (by (try simp only [List.length_append, List.length_cons, List.length_nil, scn_len, tap_len, twn_len]); omega)] | rw [scn_at (by (try simp only [List.length_append, List.length_cons, List.length_nil, scn_len, tap_len, twn_len]); omega)] | rw [tap_at (by (try simp only [List.length_append, List.length_cons, List.length_nil, scn_len, tap_len, twn_len]); omega)] | rw [twn_at (by (try simp only [List.length_append, List.length_cons, List.length_nil, scn_len, tap_len, twn_len]); omega)])
set_option maxRecDepth 100000 in
set_option maxHeartbeats 4000000 in
theorem C_trc {d : Nat} {I : Nat → Nat → Int32} {J : Nat → Nat → Int64} {K : Nat → Nat → Option Nat} {h : List xSh} {q : Nat} (hq9 : q < 1000) (hl : h.length = q + 1) (hs_0 : h[q]? = some (.inl 9)) : EvP (d + 1) 48 0 [(0, .ref q)] [] (I, J, K, h) (QV (fun t => t = (trcI I q, trcJ J q, trcK K q, trcH h))) := by
  refine p_aload_n k48_0 rfl ?_
  refine p_oinit k48_1 (by decide) (Nat.le_of_ble_eq_true rfl) ?_
  refine p_aload_n k48_4 rfl ?_
  refine p_bipush (v := nI 20) k48_5 (by decide) ?_
  refine p_newa (N := 20) k48_7 xa1_int (by decide) (by decide) (by decide) (by omega) ?_
  rw [show newarray.typeOf .int = .int from rfl]
  have hl9 : (h ++ [(.inr (.int, 20) : xSh)]).length = q + 2 := by rw [List.length_append, hl]; rfl
  have ht_0 : (h ++ [(.inr (.int, 20) : xSh)])[q]? = some (.inl 9) := by rw [List.getElem?_append_left (by rw [hl]; exact Nat.lt_add_of_pos_right (by decide))]; exact hs_0
  rw [hl]
  obtain ⟨h1, hh1⟩ : ∃ z, z = h ++ [(.inr (.int, 20) : xSh)] := ⟨_, rfl⟩
  rw [← hh1] at hl9 ht_0 ⊢
  clear hl
  have hl := hl9
  clear hl9
  clear hs_0
  have hs_0 := ht_0
  clear ht_0
  obtain ⟨I1, hI1⟩ : ∃ z, z = upc I (q + 1) (fun _ => 0) := ⟨_, rfl⟩
  rw [show upc I (q + 1) (fun _ => 0) = I1 from hI1.symm]
  obtain ⟨J1, hJ1⟩ : ∃ z, z = upc J (q + 1) (fun _ => 0) := ⟨_, rfl⟩
  rw [show upc J (q + 1) (fun _ => 0) = J1 from hJ1.symm]
  obtain ⟨K1, hK1⟩ : ∃ z, z = upc K (q + 1) (fun _ => none) := ⟨_, rfl⟩
  rw [show upc K (q + 1) (fun _ => none) = K1 from hK1.symm]
  refine p_putRv k48_9 hs_0 f_9_9_9 n_48_9_0 ?_
  obtain ⟨K2, hK2⟩ : ∃ z, z = sK K1 q 0 (some (q + 1)) := ⟨_, rfl⟩
  rw [show upc K1 q (upc (K1 q) 0 (some (q + 1))) = K2 from hK2.symm]
  refine p_aload_n k48_12 rfl ?_
  refine p_iconst (v := nI 0) k48_13 (by decide) ?_
  refine p_putIv k48_14 hs_0 g_9_15_9 n_48_9_1 ?_
  obtain ⟨I2, hI2⟩ : ∃ z, z = s1 I1 q 1 (nI (0)) := ⟨_, rfl⟩
  rw [show upc I1 q (upc (I1 q) 1 (nI (0))) = I2 from hI2.symm]
  refine p_return k48_17 rt_48 ?_
  have eI : I2 = trcI I q := by
    rw [hI2, hI1]
    rfl
  have eJ : J1 = trcJ J q := by
    rw [hJ1]
    rfl
  have eK : K2 = trcK K q := by
    rw [hK2, hK1]
    rfl
  have eH : h1 = trcH h := by
    rw [hh1]
    rfl
  show (_, _, _, _) = (_, _, _, _)
  rw [eI, eJ, eK, eH]

