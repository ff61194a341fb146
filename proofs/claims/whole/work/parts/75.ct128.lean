/-! the constructor of the reference -/
def mdlI (I : Nat → Nat → Int32) (q : Nat) : Nat → Nat → Int32 := (upc (upc (upc (s1 (s1 (s1 (s1 (s1 (s1 (upc (upc (s1 (upc (upc (upc (upc (upc (upc (upc (upc (upc (upc (upc (upc (upc (upc (upc (s1 (s1 (s1 (s1 (s1 (s1 (s1 (upc (upc (s1 (upc (upc (upc (s1 (upc (upc (s1 (upc (upc (upc (upc (s1 (upc (s1 (upc (s1 (s1 (s1 (s1 (s1 (s1 (s1 (s1 (s1 (s1 (s1 (s1 (s1 (s1 (s1 (s1 (upc (s1 (s1 (s1 (upc (upc (upc (upc (upc (upc (upc (upc (upc (s1 (s1 (s1 (s1 (s1 (upc (upc (upc (upc (upc (upc (upc (upc (upc (upc (upc (s1 (s1 (s1 I q 0 (nI (0))) q 1 (nI (0))) q 2 (nI (0))) (q + 1) (fun _ => 0)) (q + 2) (fun _ => 0)) (q + 3) (fun _ => 0)) (q + 4) (fun _ => 0)) (q + 5) (fun _ => 0)) (q + 6) (fun _ => 0)) (q + 7) (fun _ => 0)) (q + 8) (fun _ => 0)) (q + 9) (fun _ => 0)) (q + 10) (fun _ => 0)) (q + 11) (fun _ => 0)) q 14 (nI (0))) q 15 ((-1))) q 16 (nI (0))) q 17 (nI (0))) q 18 (nI (0))) (q + 12) (fun _ => 0)) (q + 13) (fun _ => 0)) (q + 14) (fun _ => 0)) (q + 15) (fun _ => 0)) (q + 16) (fun _ => 0)) (q + 17) (fun _ => 0)) (q + 18) (fun _ => 0)) (q + 19) (fun _ => 0)) (q + 20) (fun _ => 0)) q 28 (nI (0))) q 29 (nI (0))) q 30 (nI (0))) (q + 21) (fun _ => 0)) (q + 21) 0 (nI (115))) (q + 21) 1 (nI (117))) (q + 21) 2 (nI (105))) (q + 21) 3 (nI (116))) (q + 21) 4 (nI (103))) (q + 21) 5 (nI (97))) (q + 21) 6 (nI (108))) (q + 21) 7 (nI (108))) (q + 21) 8 (nI (109))) (q + 21) 9 (nI (111))) (q + 21) 10 (nI (116))) (q + 21) 11 (nI (104))) (q + 21) 12 (nI (119))) (q + 21) 13 (nI (111))) (q + 21) 14 (nI (114))) (q + 21) 15 (nI (107))) (q + 22) (fun _ => 0)) q 33 (nI (9999))) (q + 23) (fun _ => 0)) q 35 (nI (0))) (q + 24) (fun _ => 0)) (q + 25) (fun _ => 0)) (q + 26) (fun _ => 0)) (q + 27) (fun _ => 0)) q 40 (nI (0))) (q + 28) (fun _ => 0)) (q + 29) (fun _ => 0)) q 43 (nI (0))) (q + 30) (fun _ => 0)) (q + 31) (fun _ => 0)) (q + 32) (fun _ => 0)) q 47 (nI (0))) (q + 33) (fun _ => 0)) (q + 34) (fun _ => 0)) q 50 (bI false)) q 51 ((-1))) q 52 (nI (0))) q 53 (nI (0))) q 54 (nI (0))) q 55 (nI (0))) q 56 (nI (0))) (q + 35) (fun _ => 0)) (q + 36) (fun _ => 0)) (q + 37) (fun _ => 0)) (q + 38) (fun _ => 0)) (q + 39) (fun _ => 0)) (q + 40) (fun _ => 0)) (q + 41) (fun _ => 0)) (q + 42) (fun _ => 0)) (q + 43) (fun _ => 0)) (q + 44) (fun _ => 0)) (q + 45) (fun _ => 0)) (q + 46) (fun _ => 0)) (q + 47) (fun _ => 0)) (q + 48) (fun _ => 0)) (q + 49) (fun _ => 0)) q 72 (nI (0))) (q + 50) (fun _ => 0)) (q + 51) (fun _ => 0)) (q + 51) 0 ((-1))) (q + 51) 1 ((-1))) (q + 51) 2 ((-1))) (q + 51) 3 ((-1))) (q + 51) 4 ((-1))) (q + 51) 5 ((-1))) (q + 52) (fun _ => 0)) (q + 53) (fun _ => 0)) (q + 54) (fun _ => 0))
def mdlJ (J : Nat → Nat → Int64) (q : Nat) : Nat → Nat → Int64 := (upc (upc (upc (upc (upc (upc (upc (upc (upc (upc (upc (upc (upc (upc (upc (upc (upc (upc (upc (upc (upc (upc (upc (upc (upc (upc (upc (upc (upc (upc (upc (upc (upc (upc (upc (upc (upc (upc (upc (upc (upc (upc (upc (upc (upc (upc (upc (upc (upc (upc (upc (upc (upc (upc J (q + 1) (fun _ => 0)) (q + 2) (fun _ => 0)) (q + 3) (fun _ => 0)) (q + 4) (fun _ => 0)) (q + 5) (fun _ => 0)) (q + 6) (fun _ => 0)) (q + 7) (fun _ => 0)) (q + 8) (fun _ => 0)) (q + 9) (fun _ => 0)) (q + 10) (fun _ => 0)) (q + 11) (fun _ => 0)) (q + 12) (fun _ => 0)) (q + 13) (fun _ => 0)) (q + 14) (fun _ => 0)) (q + 15) (fun _ => 0)) (q + 16) (fun _ => 0)) (q + 17) (fun _ => 0)) (q + 18) (fun _ => 0)) (q + 19) (fun _ => 0)) (q + 20) (fun _ => 0)) (q + 21) (fun _ => 0)) (q + 22) (fun _ => 0)) (q + 23) (fun _ => 0)) (q + 24) (fun _ => 0)) (q + 25) (fun _ => 0)) (q + 26) (fun _ => 0)) (q + 27) (fun _ => 0)) (q + 28) (fun _ => 0)) (q + 29) (fun _ => 0)) (q + 30) (fun _ => 0)) (q + 31) (fun _ => 0)) (q + 32) (fun _ => 0)) (q + 33) (fun _ => 0)) (q + 34) (fun _ => 0)) (q + 35) (fun _ => 0)) (q + 36) (fun _ => 0)) (q + 37) (fun _ => 0)) (q + 38) (fun _ => 0)) (q + 39) (fun _ => 0)) (q + 40) (fun _ => 0)) (q + 41) (fun _ => 0)) (q + 42) (fun _ => 0)) (q + 43) (fun _ => 0)) (q + 44) (fun _ => 0)) (q + 45) (fun _ => 0)) (q + 46) (fun _ => 0)) (q + 47) (fun _ => 0)) (q + 48) (fun _ => 0)) (q + 49) (fun _ => 0)) (q + 50) (fun _ => 0)) (q + 51) (fun _ => 0)) (q + 52) (fun _ => 0)) (q + 53) (fun _ => 0)) (q + 54) (fun _ => 0))
def mdlK (K : Nat → Nat → Option Nat) (q : Nat) : Nat → Nat → Option Nat := (sK (upc (sK (upc (sK (upc (sK (upc (sK (upc (sK (upc (sK (upc (sK (upc (sK (upc (sK (upc (sK (upc (sK (upc (sK (upc (sK (upc (sK (upc (sK (upc (sK (upc (sK (upc (sK (upc (sK (upc (sK (upc (sK (upc (sK (upc (sK (upc (sK (upc (sK (upc (sK (upc (sK (upc (sK (upc (sK (upc (sK (upc (sK (upc (sK (upc (sK (upc (sK (upc (sK (upc (sK (upc (sK (upc (sK (upc (sK (upc (sK (upc (sK (upc (sK (upc (sK (upc (sK (upc (sK (upc (sK (upc (sK (upc (sK (upc (sK (upc (sK (upc (sK (upc (sK (upc (sK (upc K (q + 1) (fun _ => none)) q 3 (some (q + 1))) (q + 2) (fun _ => none)) q 4 (some (q + 2))) (q + 3) (fun _ => none)) q 5 (some (q + 3))) (q + 4) (fun _ => none)) q 6 (some (q + 4))) (q + 5) (fun _ => none)) q 7 (some (q + 5))) (q + 6) (fun _ => none)) q 8 (some (q + 6))) (q + 7) (fun _ => none)) q 9 (some (q + 7))) (q + 8) (fun _ => none)) q 10 (some (q + 8))) (q + 9) (fun _ => none)) q 11 (some (q + 9))) (q + 10) (fun _ => none)) q 12 (some (q + 10))) (q + 11) (fun _ => none)) q 13 (some (q + 11))) (q + 12) (fun _ => none)) q 19 (some (q + 12))) (q + 13) (fun _ => none)) q 20 (some (q + 13))) (q + 14) (fun _ => none)) q 21 (some (q + 14))) (q + 15) (fun _ => none)) q 22 (some (q + 15))) (q + 16) (fun _ => none)) q 23 (some (q + 16))) (q + 17) (fun _ => none)) q 24 (some (q + 17))) (q + 18) (fun _ => none)) q 25 (some (q + 18))) (q + 19) (fun _ => none)) q 26 (some (q + 19))) (q + 20) (fun _ => none)) q 27 (some (q + 20))) (q + 21) (fun _ => none)) q 31 (some (q + 21))) (q + 22) (fun _ => none)) q 32 (some (q + 22))) (q + 23) (fun _ => none)) q 34 (some (q + 23))) (q + 24) (fun _ => none)) q 36 (some (q + 24))) (q + 25) (fun _ => none)) q 37 (some (q + 25))) (q + 26) (fun _ => none)) q 38 (some (q + 26))) (q + 27) (fun _ => none)) q 39 (some (q + 27))) (q + 28) (fun _ => none)) q 41 (some (q + 28))) (q + 29) (fun _ => none)) q 42 (some (q + 29))) (q + 30) (fun _ => none)) q 44 (some (q + 30))) (q + 31) (fun _ => none)) q 45 (some (q + 31))) (q + 32) (fun _ => none)) q 46 (some (q + 32))) (q + 33) (fun _ => none)) q 48 (some (q + 33))) (q + 34) (fun _ => none)) q 49 (some (q + 34))) (q + 35) (fun _ => none)) q 57 (some (q + 35))) (q + 36) (fun _ => none)) q 58 (some (q + 36))) (q + 37) (fun _ => none)) q 59 (some (q + 37))) (q + 38) (fun _ => none)) q 60 (some (q + 38))) (q + 39) (fun _ => none)) q 61 (some (q + 39))) (q + 40) (fun _ => none)) q 62 (some (q + 40))) (q + 41) (fun _ => none)) q 63 (some (q + 41))) (q + 42) (fun _ => none)) q 64 (some (q + 42))) (q + 43) (fun _ => none)) q 65 (some (q + 43))) (q + 44) (fun _ => none)) q 66 (some (q + 44))) (q + 45) (fun _ => none)) q 67 (some (q + 45))) (q + 46) (fun _ => none)) q 68 (some (q + 46))) (q + 47) (fun _ => none)) q 69 (some (q + 47))) (q + 48) (fun _ => none)) q 70 (some (q + 48))) (q + 49) (fun _ => none)) q 71 (some (q + 49))) (q + 50) (fun _ => none)) q 73 (some (q + 50))) (q + 51) (fun _ => none)) q 74 (some (q + 51))) (q + 52) (fun _ => none)) q 75 (some (q + 52))) (q + 53) (fun _ => none)) q 76 (some (q + 53))) (q + 54) (fun _ => none)) q 77 (some (q + 54)))
def mdlH (h : List xSh) : List xSh := ((((((((((((((((((((((((((((((((((((((((((((((((((((((h ++ [(.inr (.int, 6) : xSh)]) ++ [(.inr (.int, 6) : xSh)]) ++ [(.inr (.int, 6) : xSh)]) ++ [(.inr (.int, 6) : xSh)]) ++ [(.inr (.int, 6) : xSh)]) ++ [(.inr (.int, 6) : xSh)]) ++ [(.inr (.int, 6) : xSh)]) ++ [(.inr (.int, 6) : xSh)]) ++ [(.inr (.int, 6) : xSh)]) ++ [(.inr (.int, 24) : xSh)]) ++ [(.inr (.int, 5) : xSh)]) ++ [(.inr (.int, 100) : xSh)]) ++ [(.inr (.int, 6) : xSh)]) ++ [(.inr (.int, 60) : xSh)]) ++ [(.inr (.int, 60) : xSh)]) ++ [(.inr (.int, 60) : xSh)]) ++ [(.inr (.int, 60) : xSh)]) ++ [(.inr (.int, 60) : xSh)]) ++ [(.inr (.int, 600) : xSh)]) ++ [(.inr (.int, 101) : xSh)]) ++ [(.inr (.int, 16) : xSh)]) ++ [(.inr (.boolean, 100) : xSh)]) ++ [(.inr (.int, 6) : xSh)]) ++ [(.inr (.int, 6) : xSh)]) ++ [(.inr (.int, 6) : xSh)]) ++ [(.inr (.int, 6) : xSh)]) ++ [(.inr (.int, 36) : xSh)]) ++ [(.inr (.int, 448) : xSh)]) ++ [(.inr (.int, 64) : xSh)]) ++ [(.inr (.int, 6) : xSh)]) ++ [(.inr (.int, 6) : xSh)]) ++ [(.inr (.int, 64) : xSh)]) ++ [(.inr (.int, 8) : xSh)]) ++ [(.inr (.int, 8) : xSh)]) ++ [(.inr (.int, 6) : xSh)]) ++ [(.inr (.int, 6) : xSh)]) ++ [(.inr (.int, 6) : xSh)]) ++ [(.inr (.int, 6) : xSh)]) ++ [(.inr (.int, 6) : xSh)]) ++ [(.inr (.int, 6) : xSh)]) ++ [(.inr (.int, 6) : xSh)]) ++ [(.inr (.int, 6) : xSh)]) ++ [(.inr (.int, 6) : xSh)]) ++ [(.inr (.int, 24) : xSh)]) ++ [(.inr (.int, 5) : xSh)]) ++ [(.inr (.int, 6) : xSh)]) ++ [(.inr (.int, 6) : xSh)]) ++ [(.inr (.int, 8) : xSh)]) ++ [(.inr (.int, 8) : xSh)]) ++ [(.inr (.int, 20) : xSh)]) ++ [(.inr (.int, 6) : xSh)]) ++ [(.inr (.int, 6) : xSh)]) ++ [(.inr (.long, 360) : xSh)]) ++ [(.inr (.long, 60) : xSh)])
theorem mdl_len (h : List xSh) : (mdlH h).length = h.length + 54 := by unfold mdlH; simp only [List.length_append, List.length_cons, List.length_nil]
set_option maxRecDepth 100000 in
set_option maxHeartbeats 4000000 in
theorem C_mdl {d : Nat} {I : Nat → Nat → Int32} {J : Nat → Nat → Int64} {K : Nat → Nat → Option Nat} {h : List xSh} {q : Nat} (hq9 : q < 1000) (hl : h.length = q + 1) (hs_0 : h[q]? = some (.inl 12)) : EvP (d + 1) 128 0 [(0, .ref q)] [] (I, J, K, h) (QV (fun t => t = (mdlI I q, mdlJ J q, mdlK K q, mdlH h))) := by
  refine p_aload_n k128_0 rfl ?_
  refine p_oinit k128_1 (by decide) (Nat.le_of_ble_eq_true rfl) ?_
  refine p_aload_n k128_4 rfl ?_
  refine p_iconst (v := nI 0) k128_5 (by decide) ?_
  refine p_putIv k128_6 hs_0 g_12_7_12 n_128_12_0 ?_
  obtain ⟨I1, hI1⟩ : ∃ z, z = s1 I q 0 (nI (0)) := ⟨_, rfl⟩
  rw [show upc I q (upc (I q) 0 (nI (0))) = I1 from hI1.symm]
  refine p_aload_n k128_9 rfl ?_
  refine p_iconst (v := nI 0) k128_10 (by decide) ?_
  refine p_putIv k128_11 hs_0 g_12_13_12 n_128_12_1 ?_
  obtain ⟨I2, hI2⟩ : ∃ z, z = s1 I1 q 1 (nI (0)) := ⟨_, rfl⟩
  rw [show upc I1 q (upc (I1 q) 1 (nI (0))) = I2 from hI2.symm]
  refine p_aload_n k128_14 rfl ?_
  refine p_iconst (v := nI 0) k128_15 (by decide) ?_
  refine p_putIv k128_16 hs_0 g_12_16_12 n_128_12_2 ?_
  obtain ⟨I3, hI3⟩ : ∃ z, z = s1 I2 q 2 (nI (0)) := ⟨_, rfl⟩
  rw [show upc I2 q (upc (I2 q) 2 (nI (0))) = I3 from hI3.symm]
  refine p_aload_n k128_19 rfl ?_
  refine p_bipush (v := nI 6) k128_20 (by decide) ?_
  refine p_newa (N := 6) k128_22 xa1_int (by decide) (by decide) (by decide) (by omega) ?_
  rw [show newarray.typeOf .int = .int from rfl]
  have hl9 : (h ++ [(.inr (.int, 6) : xSh)]).length = q + 2 := by rw [List.length_append, hl]; rfl
  have ht_0 : (h ++ [(.inr (.int, 6) : xSh)])[q]? = some (.inl 12) := by rw [List.getElem?_append_left (by rw [hl]; exact Nat.lt_add_of_pos_right (by decide))]; exact hs_0
  rw [hl]
  obtain ⟨h1, hh1⟩ : ∃ z, z = h ++ [(.inr (.int, 6) : xSh)] := ⟨_, rfl⟩
  rw [← hh1] at hl9 ht_0 ⊢
  clear hl
  have hl := hl9
  clear hl9
  clear hs_0
  have hs_0 := ht_0
  clear ht_0
  obtain ⟨I4, hI4⟩ : ∃ z, z = upc I3 (q + 1) (fun _ => 0) := ⟨_, rfl⟩
  rw [show upc I3 (q + 1) (fun _ => 0) = I4 from hI4.symm]
  obtain ⟨J1, hJ1⟩ : ∃ z, z = upc J (q + 1) (fun _ => 0) := ⟨_, rfl⟩
  rw [show upc J (q + 1) (fun _ => 0) = J1 from hJ1.symm]
  obtain ⟨K1, hK1⟩ : ∃ z, z = upc K (q + 1) (fun _ => none) := ⟨_, rfl⟩
  rw [show upc K (q + 1) (fun _ => none) = K1 from hK1.symm]
  refine p_putRv k128_24 hs_0 f_12_19_12 n_128_12_3 ?_
  obtain ⟨K2, hK2⟩ : ∃ z, z = sK K1 q 3 (some (q + 1)) := ⟨_, rfl⟩
  rw [show upc K1 q (upc (K1 q) 3 (some (q + 1))) = K2 from hK2.symm]
  refine p_aload_n k128_27 rfl ?_
  refine p_bipush (v := nI 6) k128_28 (by decide) ?_
  refine p_newa (N := 6) k128_30 xa1_int (by decide) (by decide) (by decide) (by omega) ?_
  rw [show newarray.typeOf .int = .int from rfl]
  have hl9 : (h1 ++ [(.inr (.int, 6) : xSh)]).length = q + 3 := by rw [List.length_append, hl]; rfl
  have ht_0 : (h1 ++ [(.inr (.int, 6) : xSh)])[q]? = some (.inl 12) := by rw [List.getElem?_append_left (by rw [hl]; exact Nat.lt_add_of_pos_right (by decide))]; exact hs_0
  rw [hl]
  obtain ⟨h2, hh2⟩ : ∃ z, z = h1 ++ [(.inr (.int, 6) : xSh)] := ⟨_, rfl⟩
  rw [← hh2] at hl9 ht_0 ⊢
  clear hl
  have hl := hl9
  clear hl9
  clear hs_0
  have hs_0 := ht_0
  clear ht_0
  obtain ⟨I5, hI5⟩ : ∃ z, z = upc I4 (q + 2) (fun _ => 0) := ⟨_, rfl⟩
  rw [show upc I4 (q + 2) (fun _ => 0) = I5 from hI5.symm]
  obtain ⟨J2, hJ2⟩ : ∃ z, z = upc J1 (q + 2) (fun _ => 0) := ⟨_, rfl⟩
  rw [show upc J1 (q + 2) (fun _ => 0) = J2 from hJ2.symm]
  obtain ⟨K3, hK3⟩ : ∃ z, z = upc K2 (q + 2) (fun _ => none) := ⟨_, rfl⟩
  rw [show upc K2 (q + 2) (fun _ => none) = K3 from hK3.symm]
  refine p_putRv k128_32 hs_0 f_12_23_12 n_128_12_4 ?_
  obtain ⟨K4, hK4⟩ : ∃ z, z = sK K3 q 4 (some (q + 2)) := ⟨_, rfl⟩
  rw [show upc K3 q (upc (K3 q) 4 (some (q + 2))) = K4 from hK4.symm]
  refine p_aload_n k128_35 rfl ?_
  refine p_bipush (v := nI 6) k128_36 (by decide) ?_
  refine p_newa (N := 6) k128_38 xa1_int (by decide) (by decide) (by decide) (by omega) ?_
  rw [show newarray.typeOf .int = .int from rfl]
  have hl9 : (h2 ++ [(.inr (.int, 6) : xSh)]).length = q + 4 := by rw [List.length_append, hl]; rfl
  have ht_0 : (h2 ++ [(.inr (.int, 6) : xSh)])[q]? = some (.inl 12) := by rw [List.getElem?_append_left (by rw [hl]; exact Nat.lt_add_of_pos_right (by decide))]; exact hs_0
  rw [hl]
  obtain ⟨h3, hh3⟩ : ∃ z, z = h2 ++ [(.inr (.int, 6) : xSh)] := ⟨_, rfl⟩
  rw [← hh3] at hl9 ht_0 ⊢
  clear hl
  have hl := hl9
  clear hl9
  clear hs_0
  have hs_0 := ht_0
  clear ht_0
  obtain ⟨I6, hI6⟩ : ∃ z, z = upc I5 (q + 3) (fun _ => 0) := ⟨_, rfl⟩
  rw [show upc I5 (q + 3) (fun _ => 0) = I6 from hI6.symm]
  obtain ⟨J3, hJ3⟩ : ∃ z, z = upc J2 (q + 3) (fun _ => 0) := ⟨_, rfl⟩
  rw [show upc J2 (q + 3) (fun _ => 0) = J3 from hJ3.symm]
  obtain ⟨K5, hK5⟩ : ∃ z, z = upc K4 (q + 3) (fun _ => none) := ⟨_, rfl⟩
  rw [show upc K4 (q + 3) (fun _ => none) = K5 from hK5.symm]
  refine p_putRv k128_40 hs_0 f_12_26_12 n_128_12_5 ?_
  obtain ⟨K6, hK6⟩ : ∃ z, z = sK K5 q 5 (some (q + 3)) := ⟨_, rfl⟩
  rw [show upc K5 q (upc (K5 q) 5 (some (q + 3))) = K6 from hK6.symm]
  refine p_aload_n k128_43 rfl ?_
  refine p_bipush (v := nI 6) k128_44 (by decide) ?_
  refine p_newa (N := 6) k128_46 xa1_int (by decide) (by decide) (by decide) (by omega) ?_
  rw [show newarray.typeOf .int = .int from rfl]
  have hl9 : (h3 ++ [(.inr (.int, 6) : xSh)]).length = q + 5 := by rw [List.length_append, hl]; rfl
  have ht_0 : (h3 ++ [(.inr (.int, 6) : xSh)])[q]? = some (.inl 12) := by rw [List.getElem?_append_left (by rw [hl]; exact Nat.lt_add_of_pos_right (by decide))]; exact hs_0
  rw [hl]
  obtain ⟨h4, hh4⟩ : ∃ z, z = h3 ++ [(.inr (.int, 6) : xSh)] := ⟨_, rfl⟩
  rw [← hh4] at hl9 ht_0 ⊢
  clear hl
  have hl := hl9
  clear hl9
  clear hs_0
  have hs_0 := ht_0
  clear ht_0
  obtain ⟨I7, hI7⟩ : ∃ z, z = upc I6 (q + 4) (fun _ => 0) := ⟨_, rfl⟩
  rw [show upc I6 (q + 4) (fun _ => 0) = I7 from hI7.symm]
  obtain ⟨J4, hJ4⟩ : ∃ z, z = upc J3 (q + 4) (fun _ => 0) := ⟨_, rfl⟩
  rw [show upc J3 (q + 4) (fun _ => 0) = J4 from hJ4.symm]
  obtain ⟨K7, hK7⟩ : ∃ z, z = upc K6 (q + 4) (fun _ => none) := ⟨_, rfl⟩
  rw [show upc K6 (q + 4) (fun _ => none) = K7 from hK7.symm]
  refine p_putRv k128_48 hs_0 f_12_29_12 n_128_12_6 ?_
  obtain ⟨K8, hK8⟩ : ∃ z, z = sK K7 q 6 (some (q + 4)) := ⟨_, rfl⟩
  rw [show upc K7 q (upc (K7 q) 6 (some (q + 4))) = K8 from hK8.symm]
  refine p_aload_n k128_51 rfl ?_
  refine p_bipush (v := nI 6) k128_52 (by decide) ?_
  refine p_newa (N := 6) k128_54 xa1_int (by decide) (by decide) (by decide) (by omega) ?_
  rw [show newarray.typeOf .int = .int from rfl]
  have hl9 : (h4 ++ [(.inr (.int, 6) : xSh)]).length = q + 6 := by rw [List.length_append, hl]; rfl
  have ht_0 : (h4 ++ [(.inr (.int, 6) : xSh)])[q]? = some (.inl 12) := by rw [List.getElem?_append_left (by rw [hl]; exact Nat.lt_add_of_pos_right (by decide))]; exact hs_0
  rw [hl]
  obtain ⟨h5, hh5⟩ : ∃ z, z = h4 ++ [(.inr (.int, 6) : xSh)] := ⟨_, rfl⟩
  rw [← hh5] at hl9 ht_0 ⊢
  clear hl
  have hl := hl9
  clear hl9
  clear hs_0
  have hs_0 := ht_0
  clear ht_0
  obtain ⟨I8, hI8⟩ : ∃ z, z = upc I7 (q + 5) (fun _ => 0) := ⟨_, rfl⟩
  rw [show upc I7 (q + 5) (fun _ => 0) = I8 from hI8.symm]
  obtain ⟨J5, hJ5⟩ : ∃ z, z = upc J4 (q + 5) (fun _ => 0) := ⟨_, rfl⟩
  rw [show upc J4 (q + 5) (fun _ => 0) = J5 from hJ5.symm]
  obtain ⟨K9, hK9⟩ : ∃ z, z = upc K8 (q + 5) (fun _ => none) := ⟨_, rfl⟩
  rw [show upc K8 (q + 5) (fun _ => none) = K9 from hK9.symm]
  refine p_putRv k128_56 hs_0 f_12_32_12 n_128_12_7 ?_
  obtain ⟨K10, hK10⟩ : ∃ z, z = sK K9 q 7 (some (q + 5)) := ⟨_, rfl⟩
  rw [show upc K9 q (upc (K9 q) 7 (some (q + 5))) = K10 from hK10.symm]
  refine p_aload_n k128_59 rfl ?_
  refine p_bipush (v := nI 6) k128_60 (by decide) ?_
  refine p_newa (N := 6) k128_62 xa1_int (by decide) (by decide) (by decide) (by omega) ?_
  rw [show newarray.typeOf .int = .int from rfl]
  have hl9 : (h5 ++ [(.inr (.int, 6) : xSh)]).length = q + 7 := by rw [List.length_append, hl]; rfl
  have ht_0 : (h5 ++ [(.inr (.int, 6) : xSh)])[q]? = some (.inl 12) := by rw [List.getElem?_append_left (by rw [hl]; exact Nat.lt_add_of_pos_right (by decide))]; exact hs_0
  rw [hl]
  obtain ⟨h6, hh6⟩ : ∃ z, z = h5 ++ [(.inr (.int, 6) : xSh)] := ⟨_, rfl⟩
  rw [← hh6] at hl9 ht_0 ⊢
  clear hl
  have hl := hl9
  clear hl9
  clear hs_0
  have hs_0 := ht_0
  clear ht_0
  obtain ⟨I9, hI9⟩ : ∃ z, z = upc I8 (q + 6) (fun _ => 0) := ⟨_, rfl⟩
  rw [show upc I8 (q + 6) (fun _ => 0) = I9 from hI9.symm]
  obtain ⟨J6, hJ6⟩ : ∃ z, z = upc J5 (q + 6) (fun _ => 0) := ⟨_, rfl⟩
  rw [show upc J5 (q + 6) (fun _ => 0) = J6 from hJ6.symm]
  obtain ⟨K11, hK11⟩ : ∃ z, z = upc K10 (q + 6) (fun _ => none) := ⟨_, rfl⟩
  rw [show upc K10 (q + 6) (fun _ => none) = K11 from hK11.symm]
  refine p_putRv k128_64 hs_0 f_12_35_12 n_128_12_8 ?_
  obtain ⟨K12, hK12⟩ : ∃ z, z = sK K11 q 8 (some (q + 6)) := ⟨_, rfl⟩
  rw [show upc K11 q (upc (K11 q) 8 (some (q + 6))) = K12 from hK12.symm]
  refine p_aload_n k128_67 rfl ?_
  refine p_bipush (v := nI 6) k128_68 (by decide) ?_
  refine p_newa (N := 6) k128_70 xa1_int (by decide) (by decide) (by decide) (by omega) ?_
  rw [show newarray.typeOf .int = .int from rfl]
  have hl9 : (h6 ++ [(.inr (.int, 6) : xSh)]).length = q + 8 := by rw [List.length_append, hl]; rfl
  have ht_0 : (h6 ++ [(.inr (.int, 6) : xSh)])[q]? = some (.inl 12) := by rw [List.getElem?_append_left (by rw [hl]; exact Nat.lt_add_of_pos_right (by decide))]; exact hs_0
  rw [hl]
  obtain ⟨h7, hh7⟩ : ∃ z, z = h6 ++ [(.inr (.int, 6) : xSh)] := ⟨_, rfl⟩
  rw [← hh7] at hl9 ht_0 ⊢
  clear hl
  have hl := hl9
  clear hl9
  clear hs_0
  have hs_0 := ht_0
  clear ht_0
  obtain ⟨I10, hI10⟩ : ∃ z, z = upc I9 (q + 7) (fun _ => 0) := ⟨_, rfl⟩
  rw [show upc I9 (q + 7) (fun _ => 0) = I10 from hI10.symm]
  obtain ⟨J7, hJ7⟩ : ∃ z, z = upc J6 (q + 7) (fun _ => 0) := ⟨_, rfl⟩
  rw [show upc J6 (q + 7) (fun _ => 0) = J7 from hJ7.symm]
  obtain ⟨K13, hK13⟩ : ∃ z, z = upc K12 (q + 7) (fun _ => none) := ⟨_, rfl⟩
  rw [show upc K12 (q + 7) (fun _ => none) = K13 from hK13.symm]
  refine p_putRv k128_72 hs_0 f_12_38_12 n_128_12_9 ?_
  obtain ⟨K14, hK14⟩ : ∃ z, z = sK K13 q 9 (some (q + 7)) := ⟨_, rfl⟩
  rw [show upc K13 q (upc (K13 q) 9 (some (q + 7))) = K14 from hK14.symm]
  refine p_aload_n k128_75 rfl ?_
  refine p_bipush (v := nI 6) k128_76 (by decide) ?_
  refine p_newa (N := 6) k128_78 xa1_int (by decide) (by decide) (by decide) (by omega) ?_
  rw [show newarray.typeOf .int = .int from rfl]
  have hl9 : (h7 ++ [(.inr (.int, 6) : xSh)]).length = q + 9 := by rw [List.length_append, hl]; rfl
  have ht_0 : (h7 ++ [(.inr (.int, 6) : xSh)])[q]? = some (.inl 12) := by rw [List.getElem?_append_left (by rw [hl]; exact Nat.lt_add_of_pos_right (by decide))]; exact hs_0
  rw [hl]
  obtain ⟨h8, hh8⟩ : ∃ z, z = h7 ++ [(.inr (.int, 6) : xSh)] := ⟨_, rfl⟩
  rw [← hh8] at hl9 ht_0 ⊢
  clear hl
  have hl := hl9
  clear hl9
  clear hs_0
  have hs_0 := ht_0
  clear ht_0
  obtain ⟨I11, hI11⟩ : ∃ z, z = upc I10 (q + 8) (fun _ => 0) := ⟨_, rfl⟩
  rw [show upc I10 (q + 8) (fun _ => 0) = I11 from hI11.symm]
  obtain ⟨J8, hJ8⟩ : ∃ z, z = upc J7 (q + 8) (fun _ => 0) := ⟨_, rfl⟩
  rw [show upc J7 (q + 8) (fun _ => 0) = J8 from hJ8.symm]
  obtain ⟨K15, hK15⟩ : ∃ z, z = upc K14 (q + 8) (fun _ => none) := ⟨_, rfl⟩
  rw [show upc K14 (q + 8) (fun _ => none) = K15 from hK15.symm]
  refine p_putRv k128_80 hs_0 f_12_41_12 n_128_12_10 ?_
  obtain ⟨K16, hK16⟩ : ∃ z, z = sK K15 q 10 (some (q + 8)) := ⟨_, rfl⟩
  rw [show upc K15 q (upc (K15 q) 10 (some (q + 8))) = K16 from hK16.symm]
  refine p_aload_n k128_83 rfl ?_
  refine p_bipush (v := nI 6) k128_84 (by decide) ?_
  refine p_newa (N := 6) k128_86 xa1_int (by decide) (by decide) (by decide) (by omega) ?_
  rw [show newarray.typeOf .int = .int from rfl]
  have hl9 : (h8 ++ [(.inr (.int, 6) : xSh)]).length = q + 10 := by rw [List.length_append, hl]; rfl
  have ht_0 : (h8 ++ [(.inr (.int, 6) : xSh)])[q]? = some (.inl 12) := by rw [List.getElem?_append_left (by rw [hl]; exact Nat.lt_add_of_pos_right (by decide))]; exact hs_0
  rw [hl]
  obtain ⟨h9, hh9⟩ : ∃ z, z = h8 ++ [(.inr (.int, 6) : xSh)] := ⟨_, rfl⟩
  rw [← hh9] at hl9 ht_0 ⊢
  clear hl
  have hl := hl9
  clear hl9
  clear hs_0
  have hs_0 := ht_0
  clear ht_0
  obtain ⟨I12, hI12⟩ : ∃ z, z = upc I11 (q + 9) (fun _ => 0) := ⟨_, rfl⟩
  rw [show upc I11 (q + 9) (fun _ => 0) = I12 from hI12.symm]
  obtain ⟨J9, hJ9⟩ : ∃ z, z = upc J8 (q + 9) (fun _ => 0) := ⟨_, rfl⟩
  rw [show upc J8 (q + 9) (fun _ => 0) = J9 from hJ9.symm]
  obtain ⟨K17, hK17⟩ : ∃ z, z = upc K16 (q + 9) (fun _ => none) := ⟨_, rfl⟩
  rw [show upc K16 (q + 9) (fun _ => none) = K17 from hK17.symm]
  refine p_putRv k128_88 hs_0 f_12_44_12 n_128_12_11 ?_
  obtain ⟨K18, hK18⟩ : ∃ z, z = sK K17 q 11 (some (q + 9)) := ⟨_, rfl⟩
  rw [show upc K17 q (upc (K17 q) 11 (some (q + 9))) = K18 from hK18.symm]
  refine p_aload_n k128_91 rfl ?_
  refine p_bipush (v := nI 24) k128_92 (by decide) ?_
  refine p_newa (N := 24) k128_94 xa1_int (by decide) (by decide) (by decide) (by omega) ?_
  rw [show newarray.typeOf .int = .int from rfl]
  have hl9 : (h9 ++ [(.inr (.int, 24) : xSh)]).length = q + 11 := by rw [List.length_append, hl]; rfl
  have ht_0 : (h9 ++ [(.inr (.int, 24) : xSh)])[q]? = some (.inl 12) := by rw [List.getElem?_append_left (by rw [hl]; exact Nat.lt_add_of_pos_right (by decide))]; exact hs_0
  rw [hl]
  obtain ⟨h10, hh10⟩ : ∃ z, z = h9 ++ [(.inr (.int, 24) : xSh)] := ⟨_, rfl⟩
  rw [← hh10] at hl9 ht_0 ⊢
  clear hl
  have hl := hl9
  clear hl9
  clear hs_0
  have hs_0 := ht_0
  clear ht_0
  obtain ⟨I13, hI13⟩ : ∃ z, z = upc I12 (q + 10) (fun _ => 0) := ⟨_, rfl⟩
  rw [show upc I12 (q + 10) (fun _ => 0) = I13 from hI13.symm]
  obtain ⟨J10, hJ10⟩ : ∃ z, z = upc J9 (q + 10) (fun _ => 0) := ⟨_, rfl⟩
  rw [show upc J9 (q + 10) (fun _ => 0) = J10 from hJ10.symm]
  obtain ⟨K19, hK19⟩ : ∃ z, z = upc K18 (q + 10) (fun _ => none) := ⟨_, rfl⟩
  rw [show upc K18 (q + 10) (fun _ => none) = K19 from hK19.symm]
  refine p_putRv k128_96 hs_0 f_12_47_12 n_128_12_12 ?_
  obtain ⟨K20, hK20⟩ : ∃ z, z = sK K19 q 12 (some (q + 10)) := ⟨_, rfl⟩
  rw [show upc K19 q (upc (K19 q) 12 (some (q + 10))) = K20 from hK20.symm]
  refine p_aload_n k128_99 rfl ?_
  refine p_iconst (v := nI 5) k128_100 (by decide) ?_
  refine p_newa (N := 5) k128_101 xa1_int (by decide) (by decide) (by decide) (by omega) ?_
  rw [show newarray.typeOf .int = .int from rfl]
  have hl9 : (h10 ++ [(.inr (.int, 5) : xSh)]).length = q + 12 := by rw [List.length_append, hl]; rfl
  have ht_0 : (h10 ++ [(.inr (.int, 5) : xSh)])[q]? = some (.inl 12) := by rw [List.getElem?_append_left (by rw [hl]; exact Nat.lt_add_of_pos_right (by decide))]; exact hs_0
  rw [hl]
  obtain ⟨h11, hh11⟩ : ∃ z, z = h10 ++ [(.inr (.int, 5) : xSh)] := ⟨_, rfl⟩
  rw [← hh11] at hl9 ht_0 ⊢
  clear hl
  have hl := hl9
  clear hl9
  clear hs_0
  have hs_0 := ht_0
  clear ht_0
  obtain ⟨I14, hI14⟩ : ∃ z, z = upc I13 (q + 11) (fun _ => 0) := ⟨_, rfl⟩
  rw [show upc I13 (q + 11) (fun _ => 0) = I14 from hI14.symm]
  obtain ⟨J11, hJ11⟩ : ∃ z, z = upc J10 (q + 11) (fun _ => 0) := ⟨_, rfl⟩
  rw [show upc J10 (q + 11) (fun _ => 0) = J11 from hJ11.symm]
  obtain ⟨K21, hK21⟩ : ∃ z, z = upc K20 (q + 11) (fun _ => none) := ⟨_, rfl⟩
  rw [show upc K20 (q + 11) (fun _ => none) = K21 from hK21.symm]
  refine p_putRv k128_103 hs_0 f_12_50_12 n_128_12_13 ?_
  obtain ⟨K22, hK22⟩ : ∃ z, z = sK K21 q 13 (some (q + 11)) := ⟨_, rfl⟩
  rw [show upc K21 q (upc (K21 q) 13 (some (q + 11))) = K22 from hK22.symm]
  refine p_aload_n k128_106 rfl ?_
  refine p_iconst (v := nI 0) k128_107 (by decide) ?_
  refine p_putIv k128_108 hs_0 g_12_53_12 n_128_12_14 ?_
  obtain ⟨I15, hI15⟩ : ∃ z, z = s1 I14 q 14 (nI (0)) := ⟨_, rfl⟩
  rw [show upc I14 q (upc (I14 q) 14 (nI (0))) = I15 from hI15.symm]
  refine p_aload_n k128_111 rfl ?_
  refine p_iconst (v := (-1)) k128_112 (by decide) ?_
  refine p_putIv k128_113 hs_0 g_12_56_12 n_128_12_15 ?_
  obtain ⟨I16, hI16⟩ : ∃ z, z = s1 I15 q 15 ((-1)) := ⟨_, rfl⟩
  rw [show upc I15 q (upc (I15 q) 15 ((-1))) = I16 from hI16.symm]
  refine p_aload_n k128_116 rfl ?_
  refine p_iconst (v := nI 0) k128_117 (by decide) ?_
  refine p_putIv k128_118 hs_0 g_12_59_12 n_128_12_16 ?_
  obtain ⟨I17, hI17⟩ : ∃ z, z = s1 I16 q 16 (nI (0)) := ⟨_, rfl⟩
  rw [show upc I16 q (upc (I16 q) 16 (nI (0))) = I17 from hI17.symm]
  refine p_aload_n k128_121 rfl ?_
  refine p_iconst (v := nI 0) k128_122 (by decide) ?_
  refine p_putIv k128_123 hs_0 g_12_62_12 n_128_12_17 ?_
  obtain ⟨I18, hI18⟩ : ∃ z, z = s1 I17 q 17 (nI (0)) := ⟨_, rfl⟩
  rw [show upc I17 q (upc (I17 q) 17 (nI (0))) = I18 from hI18.symm]
  refine p_aload_n k128_126 rfl ?_
  refine p_iconst (v := nI 0) k128_127 (by decide) ?_
  refine p_putIv k128_128 hs_0 g_12_65_12 n_128_12_18 ?_
  obtain ⟨I19, hI19⟩ : ∃ z, z = s1 I18 q 18 (nI (0)) := ⟨_, rfl⟩
  rw [show upc I18 q (upc (I18 q) 18 (nI (0))) = I19 from hI19.symm]
  refine p_aload_n k128_131 rfl ?_
  refine p_bipush (v := nI 100) k128_132 (by decide) ?_
  refine p_newa (N := 100) k128_134 xa1_int (by decide) (by decide) (by decide) (by omega) ?_
  rw [show newarray.typeOf .int = .int from rfl]
  have hl9 : (h11 ++ [(.inr (.int, 100) : xSh)]).length = q + 13 := by rw [List.length_append, hl]; rfl
  have ht_0 : (h11 ++ [(.inr (.int, 100) : xSh)])[q]? = some (.inl 12) := by rw [List.getElem?_append_left (by rw [hl]; exact Nat.lt_add_of_pos_right (by decide))]; exact hs_0
  rw [hl]
  obtain ⟨h12, hh12⟩ : ∃ z, z = h11 ++ [(.inr (.int, 100) : xSh)] := ⟨_, rfl⟩
  rw [← hh12] at hl9 ht_0 ⊢
  clear hl
  have hl := hl9
  clear hl9
  clear hs_0
  have hs_0 := ht_0
  clear ht_0
  obtain ⟨I20, hI20⟩ : ∃ z, z = upc I19 (q + 12) (fun _ => 0) := ⟨_, rfl⟩
  rw [show upc I19 (q + 12) (fun _ => 0) = I20 from hI20.symm]
  obtain ⟨J12, hJ12⟩ : ∃ z, z = upc J11 (q + 12) (fun _ => 0) := ⟨_, rfl⟩
  rw [show upc J11 (q + 12) (fun _ => 0) = J12 from hJ12.symm]
  obtain ⟨K23, hK23⟩ : ∃ z, z = upc K22 (q + 12) (fun _ => none) := ⟨_, rfl⟩
  rw [show upc K22 (q + 12) (fun _ => none) = K23 from hK23.symm]
  refine p_putRv k128_136 hs_0 f_12_68_12 n_128_12_19 ?_
  obtain ⟨K24, hK24⟩ : ∃ z, z = sK K23 q 19 (some (q + 12)) := ⟨_, rfl⟩
  rw [show upc K23 q (upc (K23 q) 19 (some (q + 12))) = K24 from hK24.symm]
  refine p_aload_n k128_139 rfl ?_
  refine p_bipush (v := nI 6) k128_140 (by decide) ?_
  refine p_newa (N := 6) k128_142 xa1_int (by decide) (by decide) (by decide) (by omega) ?_
  rw [show newarray.typeOf .int = .int from rfl]
  have hl9 : (h12 ++ [(.inr (.int, 6) : xSh)]).length = q + 14 := by rw [List.length_append, hl]; rfl
  have ht_0 : (h12 ++ [(.inr (.int, 6) : xSh)])[q]? = some (.inl 12) := by rw [List.getElem?_append_left (by rw [hl]; exact Nat.lt_add_of_pos_right (by decide))]; exact hs_0
  rw [hl]
  obtain ⟨h13, hh13⟩ : ∃ z, z = h12 ++ [(.inr (.int, 6) : xSh)] := ⟨_, rfl⟩
  rw [← hh13] at hl9 ht_0 ⊢
  clear hl
  have hl := hl9
  clear hl9
  clear hs_0
  have hs_0 := ht_0
  clear ht_0
  obtain ⟨I21, hI21⟩ : ∃ z, z = upc I20 (q + 13) (fun _ => 0) := ⟨_, rfl⟩
  rw [show upc I20 (q + 13) (fun _ => 0) = I21 from hI21.symm]
  obtain ⟨J13, hJ13⟩ : ∃ z, z = upc J12 (q + 13) (fun _ => 0) := ⟨_, rfl⟩
  rw [show upc J12 (q + 13) (fun _ => 0) = J13 from hJ13.symm]
  obtain ⟨K25, hK25⟩ : ∃ z, z = upc K24 (q + 13) (fun _ => none) := ⟨_, rfl⟩
  rw [show upc K24 (q + 13) (fun _ => none) = K25 from hK25.symm]
  refine p_putRv k128_144 hs_0 f_12_71_12 n_128_12_20 ?_
  obtain ⟨K26, hK26⟩ : ∃ z, z = sK K25 q 20 (some (q + 13)) := ⟨_, rfl⟩
  rw [show upc K25 q (upc (K25 q) 20 (some (q + 13))) = K26 from hK26.symm]
  refine p_aload_n k128_147 rfl ?_
  refine p_bipush (v := nI 60) k128_148 (by decide) ?_
  refine p_newa (N := 60) k128_150 xa1_int (by decide) (by decide) (by decide) (by omega) ?_
  rw [show newarray.typeOf .int = .int from rfl]
  have hl9 : (h13 ++ [(.inr (.int, 60) : xSh)]).length = q + 15 := by rw [List.length_append, hl]; rfl
  have ht_0 : (h13 ++ [(.inr (.int, 60) : xSh)])[q]? = some (.inl 12) := by rw [List.getElem?_append_left (by rw [hl]; exact Nat.lt_add_of_pos_right (by decide))]; exact hs_0
  rw [hl]
  obtain ⟨h14, hh14⟩ : ∃ z, z = h13 ++ [(.inr (.int, 60) : xSh)] := ⟨_, rfl⟩
  rw [← hh14] at hl9 ht_0 ⊢
  clear hl
  have hl := hl9
  clear hl9
  clear hs_0
  have hs_0 := ht_0
  clear ht_0
  obtain ⟨I22, hI22⟩ : ∃ z, z = upc I21 (q + 14) (fun _ => 0) := ⟨_, rfl⟩
  rw [show upc I21 (q + 14) (fun _ => 0) = I22 from hI22.symm]
  obtain ⟨J14, hJ14⟩ : ∃ z, z = upc J13 (q + 14) (fun _ => 0) := ⟨_, rfl⟩
  rw [show upc J13 (q + 14) (fun _ => 0) = J14 from hJ14.symm]
  obtain ⟨K27, hK27⟩ : ∃ z, z = upc K26 (q + 14) (fun _ => none) := ⟨_, rfl⟩
  rw [show upc K26 (q + 14) (fun _ => none) = K27 from hK27.symm]
  refine p_putRv k128_152 hs_0 f_12_74_12 n_128_12_21 ?_
  obtain ⟨K28, hK28⟩ : ∃ z, z = sK K27 q 21 (some (q + 14)) := ⟨_, rfl⟩
  rw [show upc K27 q (upc (K27 q) 21 (some (q + 14))) = K28 from hK28.symm]
  refine p_aload_n k128_155 rfl ?_
  refine p_bipush (v := nI 60) k128_156 (by decide) ?_
  refine p_newa (N := 60) k128_158 xa1_int (by decide) (by decide) (by decide) (by omega) ?_
  rw [show newarray.typeOf .int = .int from rfl]
  have hl9 : (h14 ++ [(.inr (.int, 60) : xSh)]).length = q + 16 := by rw [List.length_append, hl]; rfl
  have ht_0 : (h14 ++ [(.inr (.int, 60) : xSh)])[q]? = some (.inl 12) := by rw [List.getElem?_append_left (by rw [hl]; exact Nat.lt_add_of_pos_right (by decide))]; exact hs_0
  rw [hl]
  obtain ⟨h15, hh15⟩ : ∃ z, z = h14 ++ [(.inr (.int, 60) : xSh)] := ⟨_, rfl⟩
  rw [← hh15] at hl9 ht_0 ⊢
  clear hl
  have hl := hl9
  clear hl9
  clear hs_0
  have hs_0 := ht_0
  clear ht_0
  obtain ⟨I23, hI23⟩ : ∃ z, z = upc I22 (q + 15) (fun _ => 0) := ⟨_, rfl⟩
  rw [show upc I22 (q + 15) (fun _ => 0) = I23 from hI23.symm]
  obtain ⟨J15, hJ15⟩ : ∃ z, z = upc J14 (q + 15) (fun _ => 0) := ⟨_, rfl⟩
  rw [show upc J14 (q + 15) (fun _ => 0) = J15 from hJ15.symm]
  obtain ⟨K29, hK29⟩ : ∃ z, z = upc K28 (q + 15) (fun _ => none) := ⟨_, rfl⟩
  rw [show upc K28 (q + 15) (fun _ => none) = K29 from hK29.symm]
  refine p_putRv k128_160 hs_0 f_12_77_12 n_128_12_22 ?_
  obtain ⟨K30, hK30⟩ : ∃ z, z = sK K29 q 22 (some (q + 15)) := ⟨_, rfl⟩
  rw [show upc K29 q (upc (K29 q) 22 (some (q + 15))) = K30 from hK30.symm]
  refine p_aload_n k128_163 rfl ?_
  refine p_bipush (v := nI 60) k128_164 (by decide) ?_
  refine p_newa (N := 60) k128_166 xa1_int (by decide) (by decide) (by decide) (by omega) ?_
  rw [show newarray.typeOf .int = .int from rfl]
  have hl9 : (h15 ++ [(.inr (.int, 60) : xSh)]).length = q + 17 := by rw [List.length_append, hl]; rfl
  have ht_0 : (h15 ++ [(.inr (.int, 60) : xSh)])[q]? = some (.inl 12) := by rw [List.getElem?_append_left (by rw [hl]; exact Nat.lt_add_of_pos_right (by decide))]; exact hs_0
  rw [hl]
  obtain ⟨h16, hh16⟩ : ∃ z, z = h15 ++ [(.inr (.int, 60) : xSh)] := ⟨_, rfl⟩
  rw [← hh16] at hl9 ht_0 ⊢
  clear hl
  have hl := hl9
  clear hl9
  clear hs_0
  have hs_0 := ht_0
  clear ht_0
  obtain ⟨I24, hI24⟩ : ∃ z, z = upc I23 (q + 16) (fun _ => 0) := ⟨_, rfl⟩
  rw [show upc I23 (q + 16) (fun _ => 0) = I24 from hI24.symm]
  obtain ⟨J16, hJ16⟩ : ∃ z, z = upc J15 (q + 16) (fun _ => 0) := ⟨_, rfl⟩
  rw [show upc J15 (q + 16) (fun _ => 0) = J16 from hJ16.symm]
  obtain ⟨K31, hK31⟩ : ∃ z, z = upc K30 (q + 16) (fun _ => none) := ⟨_, rfl⟩
  rw [show upc K30 (q + 16) (fun _ => none) = K31 from hK31.symm]
  refine p_putRv k128_168 hs_0 f_12_80_12 n_128_12_23 ?_
  obtain ⟨K32, hK32⟩ : ∃ z, z = sK K31 q 23 (some (q + 16)) := ⟨_, rfl⟩
  rw [show upc K31 q (upc (K31 q) 23 (some (q + 16))) = K32 from hK32.symm]
  refine p_aload_n k128_171 rfl ?_
  refine p_bipush (v := nI 60) k128_172 (by decide) ?_
  refine p_newa (N := 60) k128_174 xa1_int (by decide) (by decide) (by decide) (by omega) ?_
  rw [show newarray.typeOf .int = .int from rfl]
  have hl9 : (h16 ++ [(.inr (.int, 60) : xSh)]).length = q + 18 := by rw [List.length_append, hl]; rfl
  have ht_0 : (h16 ++ [(.inr (.int, 60) : xSh)])[q]? = some (.inl 12) := by rw [List.getElem?_append_left (by rw [hl]; exact Nat.lt_add_of_pos_right (by decide))]; exact hs_0
  rw [hl]
  obtain ⟨h17, hh17⟩ : ∃ z, z = h16 ++ [(.inr (.int, 60) : xSh)] := ⟨_, rfl⟩
  rw [← hh17] at hl9 ht_0 ⊢
  clear hl
  have hl := hl9
  clear hl9
  clear hs_0
  have hs_0 := ht_0
  clear ht_0
  obtain ⟨I25, hI25⟩ : ∃ z, z = upc I24 (q + 17) (fun _ => 0) := ⟨_, rfl⟩
  rw [show upc I24 (q + 17) (fun _ => 0) = I25 from hI25.symm]
  obtain ⟨J17, hJ17⟩ : ∃ z, z = upc J16 (q + 17) (fun _ => 0) := ⟨_, rfl⟩
  rw [show upc J16 (q + 17) (fun _ => 0) = J17 from hJ17.symm]
  obtain ⟨K33, hK33⟩ : ∃ z, z = upc K32 (q + 17) (fun _ => none) := ⟨_, rfl⟩
  rw [show upc K32 (q + 17) (fun _ => none) = K33 from hK33.symm]
  refine p_putRv k128_176 hs_0 f_12_83_12 n_128_12_24 ?_
  obtain ⟨K34, hK34⟩ : ∃ z, z = sK K33 q 24 (some (q + 17)) := ⟨_, rfl⟩
  rw [show upc K33 q (upc (K33 q) 24 (some (q + 17))) = K34 from hK34.symm]
  refine p_aload_n k128_179 rfl ?_
  refine p_bipush (v := nI 60) k128_180 (by decide) ?_
  refine p_newa (N := 60) k128_182 xa1_int (by decide) (by decide) (by decide) (by omega) ?_
  rw [show newarray.typeOf .int = .int from rfl]
  have hl9 : (h17 ++ [(.inr (.int, 60) : xSh)]).length = q + 19 := by rw [List.length_append, hl]; rfl
  have ht_0 : (h17 ++ [(.inr (.int, 60) : xSh)])[q]? = some (.inl 12) := by rw [List.getElem?_append_left (by rw [hl]; exact Nat.lt_add_of_pos_right (by decide))]; exact hs_0
  rw [hl]
  obtain ⟨h18, hh18⟩ : ∃ z, z = h17 ++ [(.inr (.int, 60) : xSh)] := ⟨_, rfl⟩
  rw [← hh18] at hl9 ht_0 ⊢
  clear hl
  have hl := hl9
  clear hl9
  clear hs_0
  have hs_0 := ht_0
  clear ht_0
  obtain ⟨I26, hI26⟩ : ∃ z, z = upc I25 (q + 18) (fun _ => 0) := ⟨_, rfl⟩
  rw [show upc I25 (q + 18) (fun _ => 0) = I26 from hI26.symm]
  obtain ⟨J18, hJ18⟩ : ∃ z, z = upc J17 (q + 18) (fun _ => 0) := ⟨_, rfl⟩
  rw [show upc J17 (q + 18) (fun _ => 0) = J18 from hJ18.symm]
  obtain ⟨K35, hK35⟩ : ∃ z, z = upc K34 (q + 18) (fun _ => none) := ⟨_, rfl⟩
  rw [show upc K34 (q + 18) (fun _ => none) = K35 from hK35.symm]
  refine p_putRv k128_184 hs_0 f_12_86_12 n_128_12_25 ?_
  obtain ⟨K36, hK36⟩ : ∃ z, z = sK K35 q 25 (some (q + 18)) := ⟨_, rfl⟩
  rw [show upc K35 q (upc (K35 q) 25 (some (q + 18))) = K36 from hK36.symm]
  refine p_aload_n k128_187 rfl ?_
  refine p_sipush (v := nI 600) k128_188 (by decide) ?_
  refine p_newa (N := 600) k128_191 xa1_int (by decide) (by decide) (by decide) (by omega) ?_
  rw [show newarray.typeOf .int = .int from rfl]
  have hl9 : (h18 ++ [(.inr (.int, 600) : xSh)]).length = q + 20 := by rw [List.length_append, hl]; rfl
  have ht_0 : (h18 ++ [(.inr (.int, 600) : xSh)])[q]? = some (.inl 12) := by rw [List.getElem?_append_left (by rw [hl]; exact Nat.lt_add_of_pos_right (by decide))]; exact hs_0
  rw [hl]
  obtain ⟨h19, hh19⟩ : ∃ z, z = h18 ++ [(.inr (.int, 600) : xSh)] := ⟨_, rfl⟩
  rw [← hh19] at hl9 ht_0 ⊢
  clear hl
  have hl := hl9
  clear hl9
  clear hs_0
  have hs_0 := ht_0
  clear ht_0
  obtain ⟨I27, hI27⟩ : ∃ z, z = upc I26 (q + 19) (fun _ => 0) := ⟨_, rfl⟩
  rw [show upc I26 (q + 19) (fun _ => 0) = I27 from hI27.symm]
  obtain ⟨J19, hJ19⟩ : ∃ z, z = upc J18 (q + 19) (fun _ => 0) := ⟨_, rfl⟩
  rw [show upc J18 (q + 19) (fun _ => 0) = J19 from hJ19.symm]
  obtain ⟨K37, hK37⟩ : ∃ z, z = upc K36 (q + 19) (fun _ => none) := ⟨_, rfl⟩
  rw [show upc K36 (q + 19) (fun _ => none) = K37 from hK37.symm]
  refine p_putRv k128_193 hs_0 f_12_89_12 n_128_12_26 ?_
  obtain ⟨K38, hK38⟩ : ∃ z, z = sK K37 q 26 (some (q + 19)) := ⟨_, rfl⟩
  rw [show upc K37 q (upc (K37 q) 26 (some (q + 19))) = K38 from hK38.symm]
  refine p_aload_n k128_196 rfl ?_
  refine p_bipush (v := nI 101) k128_197 (by decide) ?_
  refine p_newa (N := 101) k128_199 xa1_int (by decide) (by decide) (by decide) (by omega) ?_
  rw [show newarray.typeOf .int = .int from rfl]
  have hl9 : (h19 ++ [(.inr (.int, 101) : xSh)]).length = q + 21 := by rw [List.length_append, hl]; rfl
  have ht_0 : (h19 ++ [(.inr (.int, 101) : xSh)])[q]? = some (.inl 12) := by rw [List.getElem?_append_left (by rw [hl]; exact Nat.lt_add_of_pos_right (by decide))]; exact hs_0
  rw [hl]
  obtain ⟨h20, hh20⟩ : ∃ z, z = h19 ++ [(.inr (.int, 101) : xSh)] := ⟨_, rfl⟩
  rw [← hh20] at hl9 ht_0 ⊢
  clear hl
  have hl := hl9
  clear hl9
  clear hs_0
  have hs_0 := ht_0
  clear ht_0
  obtain ⟨I28, hI28⟩ : ∃ z, z = upc I27 (q + 20) (fun _ => 0) := ⟨_, rfl⟩
  rw [show upc I27 (q + 20) (fun _ => 0) = I28 from hI28.symm]
  obtain ⟨J20, hJ20⟩ : ∃ z, z = upc J19 (q + 20) (fun _ => 0) := ⟨_, rfl⟩
  rw [show upc J19 (q + 20) (fun _ => 0) = J20 from hJ20.symm]
  obtain ⟨K39, hK39⟩ : ∃ z, z = upc K38 (q + 20) (fun _ => none) := ⟨_, rfl⟩
  rw [show upc K38 (q + 20) (fun _ => none) = K39 from hK39.symm]
  refine p_putRv k128_201 hs_0 f_12_92_12 n_128_12_27 ?_
  obtain ⟨K40, hK40⟩ : ∃ z, z = sK K39 q 27 (some (q + 20)) := ⟨_, rfl⟩
  rw [show upc K39 q (upc (K39 q) 27 (some (q + 20))) = K40 from hK40.symm]
  refine p_aload_n k128_204 rfl ?_
  refine p_iconst (v := nI 0) k128_205 (by decide) ?_
  refine p_putIv k128_206 hs_0 g_12_95_12 n_128_12_28 ?_
  obtain ⟨I29, hI29⟩ : ∃ z, z = s1 I28 q 28 (nI (0)) := ⟨_, rfl⟩
  rw [show upc I28 q (upc (I28 q) 28 (nI (0))) = I29 from hI29.symm]
  refine p_aload_n k128_209 rfl ?_
  refine p_iconst (v := nI 0) k128_210 (by decide) ?_
  refine p_putIv k128_211 hs_0 g_12_98_12 n_128_12_29 ?_
  obtain ⟨I30, hI30⟩ : ∃ z, z = s1 I29 q 29 (nI (0)) := ⟨_, rfl⟩
  rw [show upc I29 q (upc (I29 q) 29 (nI (0))) = I30 from hI30.symm]
  refine p_aload_n k128_214 rfl ?_
  refine p_iconst (v := nI 0) k128_215 (by decide) ?_
  refine p_putIv k128_216 hs_0 g_12_101_12 n_128_12_30 ?_
  obtain ⟨I31, hI31⟩ : ∃ z, z = s1 I30 q 30 (nI (0)) := ⟨_, rfl⟩
  rw [show upc I30 q (upc (I30 q) 30 (nI (0))) = I31 from hI31.symm]
  refine p_aload_n k128_219 rfl ?_
  refine p_bipush (v := nI 16) k128_220 (by decide) ?_
  refine p_newa (N := 16) k128_222 xa1_int (by decide) (by decide) (by decide) (by omega) ?_
  rw [show newarray.typeOf .int = .int from rfl]
  have hl9 : (h20 ++ [(.inr (.int, 16) : xSh)]).length = q + 22 := by rw [List.length_append, hl]; rfl
  have ht_0 : (h20 ++ [(.inr (.int, 16) : xSh)])[q]? = some (.inl 12) := by rw [List.getElem?_append_left (by rw [hl]; exact Nat.lt_add_of_pos_right (by decide))]; exact hs_0
  have ht_21 : (h20 ++ [(.inr (.int, 16) : xSh)])[q + 21]? = some (.inr (.int, 16) : xSh) := by rw [List.getElem?_append_right (by omega), hl, show q + 21 - (q + 21) = 0 by omega]; rfl
  rw [hl]
  obtain ⟨h21, hh21⟩ : ∃ z, z = h20 ++ [(.inr (.int, 16) : xSh)] := ⟨_, rfl⟩
  rw [← hh21] at hl9 ht_0 ht_21 ⊢
  clear hl
  have hl := hl9
  clear hl9
  clear hs_0
  have hs_0 := ht_0
  clear ht_0
  have hs_21 := ht_21
  clear ht_21
  obtain ⟨I32, hI32⟩ : ∃ z, z = upc I31 (q + 21) (fun _ => 0) := ⟨_, rfl⟩
  rw [show upc I31 (q + 21) (fun _ => 0) = I32 from hI32.symm]
  obtain ⟨J21, hJ21⟩ : ∃ z, z = upc J20 (q + 21) (fun _ => 0) := ⟨_, rfl⟩
  rw [show upc J20 (q + 21) (fun _ => 0) = J21 from hJ21.symm]
  obtain ⟨K41, hK41⟩ : ∃ z, z = upc K40 (q + 21) (fun _ => none) := ⟨_, rfl⟩
  rw [show upc K40 (q + 21) (fun _ => none) = K41 from hK41.symm]
  refine p_dup k128_224 rfl ?_
  refine p_iconst (v := nI 0) k128_225 (by decide) ?_
  refine p_bipush (v := nI 115) k128_226 (by decide) ?_
  refine p_iastN k128_228 hs_21 (by omega) (by decide) ?_
  obtain ⟨I33, hI33⟩ : ∃ z, z = s1 I32 (q + 21) 0 (nI (115)) := ⟨_, rfl⟩
  rw [show upc I32 (q + 21) (upc (I32 (q + 21)) 0 (nI (115))) = I33 from hI33.symm]
  refine p_dup k128_229 rfl ?_
  refine p_iconst (v := nI 1) k128_230 (by decide) ?_
  refine p_bipush (v := nI 117) k128_231 (by decide) ?_
  refine p_iastN k128_233 hs_21 (by omega) (by decide) ?_
  obtain ⟨I34, hI34⟩ : ∃ z, z = s1 I33 (q + 21) 1 (nI (117)) := ⟨_, rfl⟩
  rw [show upc I33 (q + 21) (upc (I33 (q + 21)) 1 (nI (117))) = I34 from hI34.symm]
  refine p_dup k128_234 rfl ?_
  refine p_iconst (v := nI 2) k128_235 (by decide) ?_
  refine p_bipush (v := nI 105) k128_236 (by decide) ?_
  refine p_iastN k128_238 hs_21 (by omega) (by decide) ?_
  obtain ⟨I35, hI35⟩ : ∃ z, z = s1 I34 (q + 21) 2 (nI (105)) := ⟨_, rfl⟩
  rw [show upc I34 (q + 21) (upc (I34 (q + 21)) 2 (nI (105))) = I35 from hI35.symm]
  refine p_dup k128_239 rfl ?_
  refine p_iconst (v := nI 3) k128_240 (by decide) ?_
  refine p_bipush (v := nI 116) k128_241 (by decide) ?_
  refine p_iastN k128_243 hs_21 (by omega) (by decide) ?_
  obtain ⟨I36, hI36⟩ : ∃ z, z = s1 I35 (q + 21) 3 (nI (116)) := ⟨_, rfl⟩
  rw [show upc I35 (q + 21) (upc (I35 (q + 21)) 3 (nI (116))) = I36 from hI36.symm]
  refine p_dup k128_244 rfl ?_
  refine p_iconst (v := nI 4) k128_245 (by decide) ?_
  refine p_bipush (v := nI 103) k128_246 (by decide) ?_
  refine p_iastN k128_248 hs_21 (by omega) (by decide) ?_
  obtain ⟨I37, hI37⟩ : ∃ z, z = s1 I36 (q + 21) 4 (nI (103)) := ⟨_, rfl⟩
  rw [show upc I36 (q + 21) (upc (I36 (q + 21)) 4 (nI (103))) = I37 from hI37.symm]
  refine p_dup k128_249 rfl ?_
  refine p_iconst (v := nI 5) k128_250 (by decide) ?_
  refine p_bipush (v := nI 97) k128_251 (by decide) ?_
  refine p_iastN k128_253 hs_21 (by omega) (by decide) ?_
  obtain ⟨I38, hI38⟩ : ∃ z, z = s1 I37 (q + 21) 5 (nI (97)) := ⟨_, rfl⟩
  rw [show upc I37 (q + 21) (upc (I37 (q + 21)) 5 (nI (97))) = I38 from hI38.symm]
  refine p_dup k128_254 rfl ?_
  refine p_bipush (v := nI 6) k128_255 (by decide) ?_
  refine p_bipush (v := nI 108) k128_257 (by decide) ?_
  refine p_iastN k128_259 hs_21 (by omega) (by decide) ?_
  obtain ⟨I39, hI39⟩ : ∃ z, z = s1 I38 (q + 21) 6 (nI (108)) := ⟨_, rfl⟩
  rw [show upc I38 (q + 21) (upc (I38 (q + 21)) 6 (nI (108))) = I39 from hI39.symm]
  refine p_dup k128_260 rfl ?_
  refine p_bipush (v := nI 7) k128_261 (by decide) ?_
  refine p_bipush (v := nI 108) k128_263 (by decide) ?_
  refine p_iastN k128_265 hs_21 (by omega) (by decide) ?_
  obtain ⟨I40, hI40⟩ : ∃ z, z = s1 I39 (q + 21) 7 (nI (108)) := ⟨_, rfl⟩
  rw [show upc I39 (q + 21) (upc (I39 (q + 21)) 7 (nI (108))) = I40 from hI40.symm]
  refine p_dup k128_266 rfl ?_
  refine p_bipush (v := nI 8) k128_267 (by decide) ?_
  refine p_bipush (v := nI 109) k128_269 (by decide) ?_
  refine p_iastN k128_271 hs_21 (by omega) (by decide) ?_
  obtain ⟨I41, hI41⟩ : ∃ z, z = s1 I40 (q + 21) 8 (nI (109)) := ⟨_, rfl⟩
  rw [show upc I40 (q + 21) (upc (I40 (q + 21)) 8 (nI (109))) = I41 from hI41.symm]
  refine p_dup k128_272 rfl ?_
  refine p_bipush (v := nI 9) k128_273 (by decide) ?_
  refine p_bipush (v := nI 111) k128_275 (by decide) ?_
  refine p_iastN k128_277 hs_21 (by omega) (by decide) ?_
  obtain ⟨I42, hI42⟩ : ∃ z, z = s1 I41 (q + 21) 9 (nI (111)) := ⟨_, rfl⟩
  rw [show upc I41 (q + 21) (upc (I41 (q + 21)) 9 (nI (111))) = I42 from hI42.symm]
  refine p_dup k128_278 rfl ?_
  refine p_bipush (v := nI 10) k128_279 (by decide) ?_
  refine p_bipush (v := nI 116) k128_281 (by decide) ?_
  refine p_iastN k128_283 hs_21 (by omega) (by decide) ?_
  obtain ⟨I43, hI43⟩ : ∃ z, z = s1 I42 (q + 21) 10 (nI (116)) := ⟨_, rfl⟩
  rw [show upc I42 (q + 21) (upc (I42 (q + 21)) 10 (nI (116))) = I43 from hI43.symm]
  refine p_dup k128_284 rfl ?_
  refine p_bipush (v := nI 11) k128_285 (by decide) ?_
  refine p_bipush (v := nI 104) k128_287 (by decide) ?_
  refine p_iastN k128_289 hs_21 (by omega) (by decide) ?_
  obtain ⟨I44, hI44⟩ : ∃ z, z = s1 I43 (q + 21) 11 (nI (104)) := ⟨_, rfl⟩
  rw [show upc I43 (q + 21) (upc (I43 (q + 21)) 11 (nI (104))) = I44 from hI44.symm]
  refine p_dup k128_290 rfl ?_
  refine p_bipush (v := nI 12) k128_291 (by decide) ?_
  refine p_bipush (v := nI 119) k128_293 (by decide) ?_
  refine p_iastN k128_295 hs_21 (by omega) (by decide) ?_
  obtain ⟨I45, hI45⟩ : ∃ z, z = s1 I44 (q + 21) 12 (nI (119)) := ⟨_, rfl⟩
  rw [show upc I44 (q + 21) (upc (I44 (q + 21)) 12 (nI (119))) = I45 from hI45.symm]
  refine p_dup k128_296 rfl ?_
  refine p_bipush (v := nI 13) k128_297 (by decide) ?_
  refine p_bipush (v := nI 111) k128_299 (by decide) ?_
  refine p_iastN k128_301 hs_21 (by omega) (by decide) ?_
  obtain ⟨I46, hI46⟩ : ∃ z, z = s1 I45 (q + 21) 13 (nI (111)) := ⟨_, rfl⟩
  rw [show upc I45 (q + 21) (upc (I45 (q + 21)) 13 (nI (111))) = I46 from hI46.symm]
  refine p_dup k128_302 rfl ?_
  refine p_bipush (v := nI 14) k128_303 (by decide) ?_
  refine p_bipush (v := nI 114) k128_305 (by decide) ?_
  refine p_iastN k128_307 hs_21 (by omega) (by decide) ?_
  obtain ⟨I47, hI47⟩ : ∃ z, z = s1 I46 (q + 21) 14 (nI (114)) := ⟨_, rfl⟩
  rw [show upc I46 (q + 21) (upc (I46 (q + 21)) 14 (nI (114))) = I47 from hI47.symm]
  refine p_dup k128_308 rfl ?_
  refine p_bipush (v := nI 15) k128_309 (by decide) ?_
  refine p_bipush (v := nI 107) k128_311 (by decide) ?_
  refine p_iastN k128_313 hs_21 (by omega) (by decide) ?_
  obtain ⟨I48, hI48⟩ : ∃ z, z = s1 I47 (q + 21) 15 (nI (107)) := ⟨_, rfl⟩
  rw [show upc I47 (q + 21) (upc (I47 (q + 21)) 15 (nI (107))) = I48 from hI48.symm]
  refine p_putRv k128_314 hs_0 f_12_104_12 n_128_12_31 ?_
  clear hs_21
  obtain ⟨K42, hK42⟩ : ∃ z, z = sK K41 q 31 (some (q + 21)) := ⟨_, rfl⟩
  rw [show upc K41 q (upc (K41 q) 31 (some (q + 21))) = K42 from hK42.symm]
  refine p_aload_n k128_317 rfl ?_
  refine p_bipush (v := nI 100) k128_318 (by decide) ?_
  refine p_newa (N := 100) k128_320 xa1_boolean (by decide) (by decide) (by decide) (by omega) ?_
  rw [show newarray.typeOf .boolean = .boolean from rfl]
  have hl9 : (h21 ++ [(.inr (.boolean, 100) : xSh)]).length = q + 23 := by rw [List.length_append, hl]; rfl
  have ht_0 : (h21 ++ [(.inr (.boolean, 100) : xSh)])[q]? = some (.inl 12) := by rw [List.getElem?_append_left (by rw [hl]; exact Nat.lt_add_of_pos_right (by decide))]; exact hs_0
  rw [hl]
  obtain ⟨h22, hh22⟩ : ∃ z, z = h21 ++ [(.inr (.boolean, 100) : xSh)] := ⟨_, rfl⟩
  rw [← hh22] at hl9 ht_0 ⊢
  clear hl
  have hl := hl9
  clear hl9
  clear hs_0
  have hs_0 := ht_0
  clear ht_0
  obtain ⟨I49, hI49⟩ : ∃ z, z = upc I48 (q + 22) (fun _ => 0) := ⟨_, rfl⟩
  rw [show upc I48 (q + 22) (fun _ => 0) = I49 from hI49.symm]
  obtain ⟨J22, hJ22⟩ : ∃ z, z = upc J21 (q + 22) (fun _ => 0) := ⟨_, rfl⟩
  rw [show upc J21 (q + 22) (fun _ => 0) = J22 from hJ22.symm]
  obtain ⟨K43, hK43⟩ : ∃ z, z = upc K42 (q + 22) (fun _ => none) := ⟨_, rfl⟩
  rw [show upc K42 (q + 22) (fun _ => none) = K43 from hK43.symm]
  refine p_putRv k128_322 hs_0 f_12_107_12 n_128_12_32 ?_
  obtain ⟨K44, hK44⟩ : ∃ z, z = sK K43 q 32 (some (q + 22)) := ⟨_, rfl⟩
  rw [show upc K43 q (upc (K43 q) 32 (some (q + 22))) = K44 from hK44.symm]
  refine p_aload_n k128_325 rfl ?_
  refine p_sipush (v := nI 9999) k128_326 (by decide) ?_
  refine p_putIv k128_329 hs_0 g_12_111_12 n_128_12_33 ?_
  obtain ⟨I50, hI50⟩ : ∃ z, z = s1 I49 q 33 (nI (9999)) := ⟨_, rfl⟩
  rw [show upc I49 q (upc (I49 q) 33 (nI (9999))) = I50 from hI50.symm]
  refine p_aload_n k128_332 rfl ?_
  refine p_bipush (v := nI 6) k128_333 (by decide) ?_
  refine p_newa (N := 6) k128_335 xa1_int (by decide) (by decide) (by decide) (by omega) ?_
  rw [show newarray.typeOf .int = .int from rfl]
  have hl9 : (h22 ++ [(.inr (.int, 6) : xSh)]).length = q + 24 := by rw [List.length_append, hl]; rfl
  have ht_0 : (h22 ++ [(.inr (.int, 6) : xSh)])[q]? = some (.inl 12) := by rw [List.getElem?_append_left (by rw [hl]; exact Nat.lt_add_of_pos_right (by decide))]; exact hs_0
  rw [hl]
  obtain ⟨h23, hh23⟩ : ∃ z, z = h22 ++ [(.inr (.int, 6) : xSh)] := ⟨_, rfl⟩
  rw [← hh23] at hl9 ht_0 ⊢
  clear hl
  have hl := hl9
  clear hl9
  clear hs_0
  have hs_0 := ht_0
  clear ht_0
  obtain ⟨I51, hI51⟩ : ∃ z, z = upc I50 (q + 23) (fun _ => 0) := ⟨_, rfl⟩
  rw [show upc I50 (q + 23) (fun _ => 0) = I51 from hI51.symm]
  obtain ⟨J23, hJ23⟩ : ∃ z, z = upc J22 (q + 23) (fun _ => 0) := ⟨_, rfl⟩
  rw [show upc J22 (q + 23) (fun _ => 0) = J23 from hJ23.symm]
  obtain ⟨K45, hK45⟩ : ∃ z, z = upc K44 (q + 23) (fun _ => none) := ⟨_, rfl⟩
  rw [show upc K44 (q + 23) (fun _ => none) = K45 from hK45.symm]
  refine p_putRv k128_337 hs_0 f_12_114_12 n_128_12_34 ?_
  obtain ⟨K46, hK46⟩ : ∃ z, z = sK K45 q 34 (some (q + 23)) := ⟨_, rfl⟩
  rw [show upc K45 q (upc (K45 q) 34 (some (q + 23))) = K46 from hK46.symm]
  refine p_aload_n k128_340 rfl ?_
  refine p_iconst (v := nI 0) k128_341 (by decide) ?_
  refine p_putIv k128_342 hs_0 g_12_117_12 n_128_12_35 ?_
  obtain ⟨I52, hI52⟩ : ∃ z, z = s1 I51 q 35 (nI (0)) := ⟨_, rfl⟩
  rw [show upc I51 q (upc (I51 q) 35 (nI (0))) = I52 from hI52.symm]
  refine p_aload_n k128_345 rfl ?_
  refine p_bipush (v := nI 6) k128_346 (by decide) ?_
  refine p_newa (N := 6) k128_348 xa1_int (by decide) (by decide) (by decide) (by omega) ?_
  rw [show newarray.typeOf .int = .int from rfl]
  have hl9 : (h23 ++ [(.inr (.int, 6) : xSh)]).length = q + 25 := by rw [List.length_append, hl]; rfl
  have ht_0 : (h23 ++ [(.inr (.int, 6) : xSh)])[q]? = some (.inl 12) := by rw [List.getElem?_append_left (by rw [hl]; exact Nat.lt_add_of_pos_right (by decide))]; exact hs_0
  rw [hl]
  obtain ⟨h24, hh24⟩ : ∃ z, z = h23 ++ [(.inr (.int, 6) : xSh)] := ⟨_, rfl⟩
  rw [← hh24] at hl9 ht_0 ⊢
  clear hl
  have hl := hl9
  clear hl9
  clear hs_0
  have hs_0 := ht_0
  clear ht_0
  obtain ⟨I53, hI53⟩ : ∃ z, z = upc I52 (q + 24) (fun _ => 0) := ⟨_, rfl⟩
  rw [show upc I52 (q + 24) (fun _ => 0) = I53 from hI53.symm]
  obtain ⟨J24, hJ24⟩ : ∃ z, z = upc J23 (q + 24) (fun _ => 0) := ⟨_, rfl⟩
  rw [show upc J23 (q + 24) (fun _ => 0) = J24 from hJ24.symm]
  obtain ⟨K47, hK47⟩ : ∃ z, z = upc K46 (q + 24) (fun _ => none) := ⟨_, rfl⟩
  rw [show upc K46 (q + 24) (fun _ => none) = K47 from hK47.symm]
  refine p_putRv k128_350 hs_0 f_12_120_12 n_128_12_36 ?_
  obtain ⟨K48, hK48⟩ : ∃ z, z = sK K47 q 36 (some (q + 24)) := ⟨_, rfl⟩
  rw [show upc K47 q (upc (K47 q) 36 (some (q + 24))) = K48 from hK48.symm]
  refine p_aload_n k128_353 rfl ?_
  refine p_bipush (v := nI 6) k128_354 (by decide) ?_
  refine p_newa (N := 6) k128_356 xa1_int (by decide) (by decide) (by decide) (by omega) ?_
  rw [show newarray.typeOf .int = .int from rfl]
  have hl9 : (h24 ++ [(.inr (.int, 6) : xSh)]).length = q + 26 := by rw [List.length_append, hl]; rfl
  have ht_0 : (h24 ++ [(.inr (.int, 6) : xSh)])[q]? = some (.inl 12) := by rw [List.getElem?_append_left (by rw [hl]; exact Nat.lt_add_of_pos_right (by decide))]; exact hs_0
  rw [hl]
  obtain ⟨h25, hh25⟩ : ∃ z, z = h24 ++ [(.inr (.int, 6) : xSh)] := ⟨_, rfl⟩
  rw [← hh25] at hl9 ht_0 ⊢
  clear hl
  have hl := hl9
  clear hl9
  clear hs_0
  have hs_0 := ht_0
  clear ht_0
  obtain ⟨I54, hI54⟩ : ∃ z, z = upc I53 (q + 25) (fun _ => 0) := ⟨_, rfl⟩
  rw [show upc I53 (q + 25) (fun _ => 0) = I54 from hI54.symm]
  obtain ⟨J25, hJ25⟩ : ∃ z, z = upc J24 (q + 25) (fun _ => 0) := ⟨_, rfl⟩
  rw [show upc J24 (q + 25) (fun _ => 0) = J25 from hJ25.symm]
  obtain ⟨K49, hK49⟩ : ∃ z, z = upc K48 (q + 25) (fun _ => none) := ⟨_, rfl⟩
  rw [show upc K48 (q + 25) (fun _ => none) = K49 from hK49.symm]
  refine p_putRv k128_358 hs_0 f_12_123_12 n_128_12_37 ?_
  obtain ⟨K50, hK50⟩ : ∃ z, z = sK K49 q 37 (some (q + 25)) := ⟨_, rfl⟩
  rw [show upc K49 q (upc (K49 q) 37 (some (q + 25))) = K50 from hK50.symm]
  refine p_aload_n k128_361 rfl ?_
  refine p_bipush (v := nI 6) k128_362 (by decide) ?_
  refine p_newa (N := 6) k128_364 xa1_int (by decide) (by decide) (by decide) (by omega) ?_
  rw [show newarray.typeOf .int = .int from rfl]
  have hl9 : (h25 ++ [(.inr (.int, 6) : xSh)]).length = q + 27 := by rw [List.length_append, hl]; rfl
  have ht_0 : (h25 ++ [(.inr (.int, 6) : xSh)])[q]? = some (.inl 12) := by rw [List.getElem?_append_left (by rw [hl]; exact Nat.lt_add_of_pos_right (by decide))]; exact hs_0
  rw [hl]
  obtain ⟨h26, hh26⟩ : ∃ z, z = h25 ++ [(.inr (.int, 6) : xSh)] := ⟨_, rfl⟩
  rw [← hh26] at hl9 ht_0 ⊢
  clear hl
  have hl := hl9
  clear hl9
  clear hs_0
  have hs_0 := ht_0
  clear ht_0
  obtain ⟨I55, hI55⟩ : ∃ z, z = upc I54 (q + 26) (fun _ => 0) := ⟨_, rfl⟩
  rw [show upc I54 (q + 26) (fun _ => 0) = I55 from hI55.symm]
  obtain ⟨J26, hJ26⟩ : ∃ z, z = upc J25 (q + 26) (fun _ => 0) := ⟨_, rfl⟩
  rw [show upc J25 (q + 26) (fun _ => 0) = J26 from hJ26.symm]
  obtain ⟨K51, hK51⟩ : ∃ z, z = upc K50 (q + 26) (fun _ => none) := ⟨_, rfl⟩
  rw [show upc K50 (q + 26) (fun _ => none) = K51 from hK51.symm]
  refine p_putRv k128_366 hs_0 f_12_126_12 n_128_12_38 ?_
  obtain ⟨K52, hK52⟩ : ∃ z, z = sK K51 q 38 (some (q + 26)) := ⟨_, rfl⟩
  rw [show upc K51 q (upc (K51 q) 38 (some (q + 26))) = K52 from hK52.symm]
  refine p_aload_n k128_369 rfl ?_
  refine p_bipush (v := nI 36) k128_370 (by decide) ?_
  refine p_newa (N := 36) k128_372 xa1_int (by decide) (by decide) (by decide) (by omega) ?_
  rw [show newarray.typeOf .int = .int from rfl]
  have hl9 : (h26 ++ [(.inr (.int, 36) : xSh)]).length = q + 28 := by rw [List.length_append, hl]; rfl
  have ht_0 : (h26 ++ [(.inr (.int, 36) : xSh)])[q]? = some (.inl 12) := by rw [List.getElem?_append_left (by rw [hl]; exact Nat.lt_add_of_pos_right (by decide))]; exact hs_0
  rw [hl]
  obtain ⟨h27, hh27⟩ : ∃ z, z = h26 ++ [(.inr (.int, 36) : xSh)] := ⟨_, rfl⟩
  rw [← hh27] at hl9 ht_0 ⊢
  clear hl
  have hl := hl9
  clear hl9
  clear hs_0
  have hs_0 := ht_0
  clear ht_0
  obtain ⟨I56, hI56⟩ : ∃ z, z = upc I55 (q + 27) (fun _ => 0) := ⟨_, rfl⟩
  rw [show upc I55 (q + 27) (fun _ => 0) = I56 from hI56.symm]
  obtain ⟨J27, hJ27⟩ : ∃ z, z = upc J26 (q + 27) (fun _ => 0) := ⟨_, rfl⟩
  rw [show upc J26 (q + 27) (fun _ => 0) = J27 from hJ27.symm]
  obtain ⟨K53, hK53⟩ : ∃ z, z = upc K52 (q + 27) (fun _ => none) := ⟨_, rfl⟩
  rw [show upc K52 (q + 27) (fun _ => none) = K53 from hK53.symm]
  refine p_putRv k128_374 hs_0 f_12_129_12 n_128_12_39 ?_
  obtain ⟨K54, hK54⟩ : ∃ z, z = sK K53 q 39 (some (q + 27)) := ⟨_, rfl⟩
  rw [show upc K53 q (upc (K53 q) 39 (some (q + 27))) = K54 from hK54.symm]
  refine p_aload_n k128_377 rfl ?_
  refine p_iconst (v := nI 0) k128_378 (by decide) ?_
  refine p_putIv k128_379 hs_0 g_12_132_12 n_128_12_40 ?_
  obtain ⟨I57, hI57⟩ : ∃ z, z = s1 I56 q 40 (nI (0)) := ⟨_, rfl⟩
  rw [show upc I56 q (upc (I56 q) 40 (nI (0))) = I57 from hI57.symm]
  refine p_aload_n k128_382 rfl ?_
  refine p_sipush (v := nI 448) k128_383 (by decide) ?_
  refine p_newa (N := 448) k128_386 xa1_int (by decide) (by decide) (by decide) (by omega) ?_
  rw [show newarray.typeOf .int = .int from rfl]
  have hl9 : (h27 ++ [(.inr (.int, 448) : xSh)]).length = q + 29 := by rw [List.length_append, hl]; rfl
  have ht_0 : (h27 ++ [(.inr (.int, 448) : xSh)])[q]? = some (.inl 12) := by rw [List.getElem?_append_left (by rw [hl]; exact Nat.lt_add_of_pos_right (by decide))]; exact hs_0
  rw [hl]
  obtain ⟨h28, hh28⟩ : ∃ z, z = h27 ++ [(.inr (.int, 448) : xSh)] := ⟨_, rfl⟩
  rw [← hh28] at hl9 ht_0 ⊢
  clear hl
  have hl := hl9
  clear hl9
  clear hs_0
  have hs_0 := ht_0
  clear ht_0
  obtain ⟨I58, hI58⟩ : ∃ z, z = upc I57 (q + 28) (fun _ => 0) := ⟨_, rfl⟩
  rw [show upc I57 (q + 28) (fun _ => 0) = I58 from hI58.symm]
  obtain ⟨J28, hJ28⟩ : ∃ z, z = upc J27 (q + 28) (fun _ => 0) := ⟨_, rfl⟩
  rw [show upc J27 (q + 28) (fun _ => 0) = J28 from hJ28.symm]
  obtain ⟨K55, hK55⟩ : ∃ z, z = upc K54 (q + 28) (fun _ => none) := ⟨_, rfl⟩
  rw [show upc K54 (q + 28) (fun _ => none) = K55 from hK55.symm]
  refine p_putRv k128_388 hs_0 f_12_135_12 n_128_12_41 ?_
  obtain ⟨K56, hK56⟩ : ∃ z, z = sK K55 q 41 (some (q + 28)) := ⟨_, rfl⟩
  rw [show upc K55 q (upc (K55 q) 41 (some (q + 28))) = K56 from hK56.symm]
  refine p_aload_n k128_391 rfl ?_
  refine p_bipush (v := nI 64) k128_392 (by decide) ?_
  refine p_newa (N := 64) k128_394 xa1_int (by decide) (by decide) (by decide) (by omega) ?_
  rw [show newarray.typeOf .int = .int from rfl]
  have hl9 : (h28 ++ [(.inr (.int, 64) : xSh)]).length = q + 30 := by rw [List.length_append, hl]; rfl
  have ht_0 : (h28 ++ [(.inr (.int, 64) : xSh)])[q]? = some (.inl 12) := by rw [List.getElem?_append_left (by rw [hl]; exact Nat.lt_add_of_pos_right (by decide))]; exact hs_0
  rw [hl]
  obtain ⟨h29, hh29⟩ : ∃ z, z = h28 ++ [(.inr (.int, 64) : xSh)] := ⟨_, rfl⟩
  rw [← hh29] at hl9 ht_0 ⊢
  clear hl
  have hl := hl9
  clear hl9
  clear hs_0
  have hs_0 := ht_0
  clear ht_0
  obtain ⟨I59, hI59⟩ : ∃ z, z = upc I58 (q + 29) (fun _ => 0) := ⟨_, rfl⟩
  rw [show upc I58 (q + 29) (fun _ => 0) = I59 from hI59.symm]
  obtain ⟨J29, hJ29⟩ : ∃ z, z = upc J28 (q + 29) (fun _ => 0) := ⟨_, rfl⟩
  rw [show upc J28 (q + 29) (fun _ => 0) = J29 from hJ29.symm]
  obtain ⟨K57, hK57⟩ : ∃ z, z = upc K56 (q + 29) (fun _ => none) := ⟨_, rfl⟩
  rw [show upc K56 (q + 29) (fun _ => none) = K57 from hK57.symm]
  refine p_putRv k128_396 hs_0 f_12_138_12 n_128_12_42 ?_
  obtain ⟨K58, hK58⟩ : ∃ z, z = sK K57 q 42 (some (q + 29)) := ⟨_, rfl⟩
  rw [show upc K57 q (upc (K57 q) 42 (some (q + 29))) = K58 from hK58.symm]
  refine p_aload_n k128_399 rfl ?_
  refine p_iconst (v := nI 0) k128_400 (by decide) ?_
  refine p_putIv k128_401 hs_0 g_12_141_12 n_128_12_43 ?_
  obtain ⟨I60, hI60⟩ : ∃ z, z = s1 I59 q 43 (nI (0)) := ⟨_, rfl⟩
  rw [show upc I59 q (upc (I59 q) 43 (nI (0))) = I60 from hI60.symm]
  refine p_aload_n k128_404 rfl ?_
  refine p_bipush (v := nI 6) k128_405 (by decide) ?_
  refine p_newa (N := 6) k128_407 xa1_int (by decide) (by decide) (by decide) (by omega) ?_
  rw [show newarray.typeOf .int = .int from rfl]
  have hl9 : (h29 ++ [(.inr (.int, 6) : xSh)]).length = q + 31 := by rw [List.length_append, hl]; rfl
  have ht_0 : (h29 ++ [(.inr (.int, 6) : xSh)])[q]? = some (.inl 12) := by rw [List.getElem?_append_left (by rw [hl]; exact Nat.lt_add_of_pos_right (by decide))]; exact hs_0
  rw [hl]
  obtain ⟨h30, hh30⟩ : ∃ z, z = h29 ++ [(.inr (.int, 6) : xSh)] := ⟨_, rfl⟩
  rw [← hh30] at hl9 ht_0 ⊢
  clear hl
  have hl := hl9
  clear hl9
  clear hs_0
  have hs_0 := ht_0
  clear ht_0
  obtain ⟨I61, hI61⟩ : ∃ z, z = upc I60 (q + 30) (fun _ => 0) := ⟨_, rfl⟩
  rw [show upc I60 (q + 30) (fun _ => 0) = I61 from hI61.symm]
  obtain ⟨J30, hJ30⟩ : ∃ z, z = upc J29 (q + 30) (fun _ => 0) := ⟨_, rfl⟩
  rw [show upc J29 (q + 30) (fun _ => 0) = J30 from hJ30.symm]
  obtain ⟨K59, hK59⟩ : ∃ z, z = upc K58 (q + 30) (fun _ => none) := ⟨_, rfl⟩
  rw [show upc K58 (q + 30) (fun _ => none) = K59 from hK59.symm]
  refine p_putRv k128_409 hs_0 f_12_144_12 n_128_12_44 ?_
  obtain ⟨K60, hK60⟩ : ∃ z, z = sK K59 q 44 (some (q + 30)) := ⟨_, rfl⟩
  rw [show upc K59 q (upc (K59 q) 44 (some (q + 30))) = K60 from hK60.symm]
  refine p_aload_n k128_412 rfl ?_
  refine p_bipush (v := nI 6) k128_413 (by decide) ?_
  refine p_newa (N := 6) k128_415 xa1_int (by decide) (by decide) (by decide) (by omega) ?_
  rw [show newarray.typeOf .int = .int from rfl]
  have hl9 : (h30 ++ [(.inr (.int, 6) : xSh)]).length = q + 32 := by rw [List.length_append, hl]; rfl
  have ht_0 : (h30 ++ [(.inr (.int, 6) : xSh)])[q]? = some (.inl 12) := by rw [List.getElem?_append_left (by rw [hl]; exact Nat.lt_add_of_pos_right (by decide))]; exact hs_0
  rw [hl]
  obtain ⟨h31, hh31⟩ : ∃ z, z = h30 ++ [(.inr (.int, 6) : xSh)] := ⟨_, rfl⟩
  rw [← hh31] at hl9 ht_0 ⊢
  clear hl
  have hl := hl9
  clear hl9
  clear hs_0
  have hs_0 := ht_0
  clear ht_0
  obtain ⟨I62, hI62⟩ : ∃ z, z = upc I61 (q + 31) (fun _ => 0) := ⟨_, rfl⟩
  rw [show upc I61 (q + 31) (fun _ => 0) = I62 from hI62.symm]
  obtain ⟨J31, hJ31⟩ : ∃ z, z = upc J30 (q + 31) (fun _ => 0) := ⟨_, rfl⟩
  rw [show upc J30 (q + 31) (fun _ => 0) = J31 from hJ31.symm]
  obtain ⟨K61, hK61⟩ : ∃ z, z = upc K60 (q + 31) (fun _ => none) := ⟨_, rfl⟩
  rw [show upc K60 (q + 31) (fun _ => none) = K61 from hK61.symm]
  refine p_putRv k128_417 hs_0 f_12_147_12 n_128_12_45 ?_
  obtain ⟨K62, hK62⟩ : ∃ z, z = sK K61 q 45 (some (q + 31)) := ⟨_, rfl⟩
  rw [show upc K61 q (upc (K61 q) 45 (some (q + 31))) = K62 from hK62.symm]
  refine p_aload_n k128_420 rfl ?_
  refine p_bipush (v := nI 64) k128_421 (by decide) ?_
  refine p_newa (N := 64) k128_423 xa1_int (by decide) (by decide) (by decide) (by omega) ?_
  rw [show newarray.typeOf .int = .int from rfl]
  have hl9 : (h31 ++ [(.inr (.int, 64) : xSh)]).length = q + 33 := by rw [List.length_append, hl]; rfl
  have ht_0 : (h31 ++ [(.inr (.int, 64) : xSh)])[q]? = some (.inl 12) := by rw [List.getElem?_append_left (by rw [hl]; exact Nat.lt_add_of_pos_right (by decide))]; exact hs_0
  rw [hl]
  obtain ⟨h32, hh32⟩ : ∃ z, z = h31 ++ [(.inr (.int, 64) : xSh)] := ⟨_, rfl⟩
  rw [← hh32] at hl9 ht_0 ⊢
  clear hl
  have hl := hl9
  clear hl9
  clear hs_0
  have hs_0 := ht_0
  clear ht_0
  obtain ⟨I63, hI63⟩ : ∃ z, z = upc I62 (q + 32) (fun _ => 0) := ⟨_, rfl⟩
  rw [show upc I62 (q + 32) (fun _ => 0) = I63 from hI63.symm]
  obtain ⟨J32, hJ32⟩ : ∃ z, z = upc J31 (q + 32) (fun _ => 0) := ⟨_, rfl⟩
  rw [show upc J31 (q + 32) (fun _ => 0) = J32 from hJ32.symm]
  obtain ⟨K63, hK63⟩ : ∃ z, z = upc K62 (q + 32) (fun _ => none) := ⟨_, rfl⟩
  rw [show upc K62 (q + 32) (fun _ => none) = K63 from hK63.symm]
  refine p_putRv k128_425 hs_0 f_12_150_12 n_128_12_46 ?_
  obtain ⟨K64, hK64⟩ : ∃ z, z = sK K63 q 46 (some (q + 32)) := ⟨_, rfl⟩
  rw [show upc K63 q (upc (K63 q) 46 (some (q + 32))) = K64 from hK64.symm]
  refine p_aload_n k128_428 rfl ?_
  refine p_iconst (v := nI 0) k128_429 (by decide) ?_
  refine p_putIv k128_430 hs_0 g_12_153_12 n_128_12_47 ?_
  obtain ⟨I64, hI64⟩ : ∃ z, z = s1 I63 q 47 (nI (0)) := ⟨_, rfl⟩
  rw [show upc I63 q (upc (I63 q) 47 (nI (0))) = I64 from hI64.symm]
  refine p_aload_n k128_433 rfl ?_
  refine p_bipush (v := nI 8) k128_434 (by decide) ?_
  refine p_newa (N := 8) k128_436 xa1_int (by decide) (by decide) (by decide) (by omega) ?_
  rw [show newarray.typeOf .int = .int from rfl]
  have hl9 : (h32 ++ [(.inr (.int, 8) : xSh)]).length = q + 34 := by rw [List.length_append, hl]; rfl
  have ht_0 : (h32 ++ [(.inr (.int, 8) : xSh)])[q]? = some (.inl 12) := by rw [List.getElem?_append_left (by rw [hl]; exact Nat.lt_add_of_pos_right (by decide))]; exact hs_0
  rw [hl]
  obtain ⟨h33, hh33⟩ : ∃ z, z = h32 ++ [(.inr (.int, 8) : xSh)] := ⟨_, rfl⟩
  rw [← hh33] at hl9 ht_0 ⊢
  clear hl
  have hl := hl9
  clear hl9
  clear hs_0
  have hs_0 := ht_0
  clear ht_0
  obtain ⟨I65, hI65⟩ : ∃ z, z = upc I64 (q + 33) (fun _ => 0) := ⟨_, rfl⟩
  rw [show upc I64 (q + 33) (fun _ => 0) = I65 from hI65.symm]
  obtain ⟨J33, hJ33⟩ : ∃ z, z = upc J32 (q + 33) (fun _ => 0) := ⟨_, rfl⟩
  rw [show upc J32 (q + 33) (fun _ => 0) = J33 from hJ33.symm]
  obtain ⟨K65, hK65⟩ : ∃ z, z = upc K64 (q + 33) (fun _ => none) := ⟨_, rfl⟩
  rw [show upc K64 (q + 33) (fun _ => none) = K65 from hK65.symm]
  refine p_putRv k128_438 hs_0 f_12_156_12 n_128_12_48 ?_
  obtain ⟨K66, hK66⟩ : ∃ z, z = sK K65 q 48 (some (q + 33)) := ⟨_, rfl⟩
  rw [show upc K65 q (upc (K65 q) 48 (some (q + 33))) = K66 from hK66.symm]
  refine p_aload_n k128_441 rfl ?_
  refine p_bipush (v := nI 8) k128_442 (by decide) ?_
  refine p_newa (N := 8) k128_444 xa1_int (by decide) (by decide) (by decide) (by omega) ?_
  rw [show newarray.typeOf .int = .int from rfl]
  have hl9 : (h33 ++ [(.inr (.int, 8) : xSh)]).length = q + 35 := by rw [List.length_append, hl]; rfl
  have ht_0 : (h33 ++ [(.inr (.int, 8) : xSh)])[q]? = some (.inl 12) := by rw [List.getElem?_append_left (by rw [hl]; exact Nat.lt_add_of_pos_right (by decide))]; exact hs_0
  rw [hl]
  obtain ⟨h34, hh34⟩ : ∃ z, z = h33 ++ [(.inr (.int, 8) : xSh)] := ⟨_, rfl⟩
  rw [← hh34] at hl9 ht_0 ⊢
  clear hl
  have hl := hl9
  clear hl9
  clear hs_0
  have hs_0 := ht_0
  clear ht_0
  obtain ⟨I66, hI66⟩ : ∃ z, z = upc I65 (q + 34) (fun _ => 0) := ⟨_, rfl⟩
  rw [show upc I65 (q + 34) (fun _ => 0) = I66 from hI66.symm]
  obtain ⟨J34, hJ34⟩ : ∃ z, z = upc J33 (q + 34) (fun _ => 0) := ⟨_, rfl⟩
  rw [show upc J33 (q + 34) (fun _ => 0) = J34 from hJ34.symm]
  obtain ⟨K67, hK67⟩ : ∃ z, z = upc K66 (q + 34) (fun _ => none) := ⟨_, rfl⟩
  rw [show upc K66 (q + 34) (fun _ => none) = K67 from hK67.symm]
  refine p_putRv k128_446 hs_0 f_12_159_12 n_128_12_49 ?_
  obtain ⟨K68, hK68⟩ : ∃ z, z = sK K67 q 49 (some (q + 34)) := ⟨_, rfl⟩
  rw [show upc K67 q (upc (K67 q) 49 (some (q + 34))) = K68 from hK68.symm]
  refine p_aload_n k128_449 rfl ?_
  refine p_iconst (v := bI false) k128_450 (by decide) ?_
  refine p_putZv k128_451 hs_0 g_12_162_12 n_128_12_50 (bI_01 _) ?_
  obtain ⟨I67, hI67⟩ : ∃ z, z = s1 I66 q 50 (bI false) := ⟨_, rfl⟩
  rw [show upc I66 q (upc (I66 q) 50 (bI false)) = I67 from hI67.symm]
  refine p_aload_n k128_454 rfl ?_
  refine p_iconst (v := (-1)) k128_455 (by decide) ?_
  refine p_putIv k128_456 hs_0 g_12_166_12 n_128_12_51 ?_
  obtain ⟨I68, hI68⟩ : ∃ z, z = s1 I67 q 51 ((-1)) := ⟨_, rfl⟩
  rw [show upc I67 q (upc (I67 q) 51 ((-1))) = I68 from hI68.symm]
  refine p_aload_n k128_459 rfl ?_
  refine p_iconst (v := nI 0) k128_460 (by decide) ?_
  refine p_putIv k128_461 hs_0 g_12_169_12 n_128_12_52 ?_
  obtain ⟨I69, hI69⟩ : ∃ z, z = s1 I68 q 52 (nI (0)) := ⟨_, rfl⟩
  rw [show upc I68 q (upc (I68 q) 52 (nI (0))) = I69 from hI69.symm]
  refine p_aload_n k128_464 rfl ?_
  refine p_iconst (v := nI 0) k128_465 (by decide) ?_
  refine p_putIv k128_466 hs_0 g_12_172_12 n_128_12_53 ?_
  obtain ⟨I70, hI70⟩ : ∃ z, z = s1 I69 q 53 (nI (0)) := ⟨_, rfl⟩
  rw [show upc I69 q (upc (I69 q) 53 (nI (0))) = I70 from hI70.symm]
  refine p_aload_n k128_469 rfl ?_
  refine p_iconst (v := nI 0) k128_470 (by decide) ?_
  refine p_putIv k128_471 hs_0 g_12_175_12 n_128_12_54 ?_
  obtain ⟨I71, hI71⟩ : ∃ z, z = s1 I70 q 54 (nI (0)) := ⟨_, rfl⟩
  rw [show upc I70 q (upc (I70 q) 54 (nI (0))) = I71 from hI71.symm]
  refine p_aload_n k128_474 rfl ?_
  refine p_iconst (v := nI 0) k128_475 (by decide) ?_
  refine p_putIv k128_476 hs_0 g_12_178_12 n_128_12_55 ?_
  obtain ⟨I72, hI72⟩ : ∃ z, z = s1 I71 q 55 (nI (0)) := ⟨_, rfl⟩
  rw [show upc I71 q (upc (I71 q) 55 (nI (0))) = I72 from hI72.symm]
  refine p_aload_n k128_479 rfl ?_
  refine p_iconst (v := nI 0) k128_480 (by decide) ?_
  refine p_putIv k128_481 hs_0 g_12_181_12 n_128_12_56 ?_
  obtain ⟨I73, hI73⟩ : ∃ z, z = s1 I72 q 56 (nI (0)) := ⟨_, rfl⟩
  rw [show upc I72 q (upc (I72 q) 56 (nI (0))) = I73 from hI73.symm]
  refine p_aload_n k128_484 rfl ?_
  refine p_bipush (v := nI 6) k128_485 (by decide) ?_
  refine p_newa (N := 6) k128_487 xa1_int (by decide) (by decide) (by decide) (by omega) ?_
  rw [show newarray.typeOf .int = .int from rfl]
  have hl9 : (h34 ++ [(.inr (.int, 6) : xSh)]).length = q + 36 := by rw [List.length_append, hl]; rfl
  have ht_0 : (h34 ++ [(.inr (.int, 6) : xSh)])[q]? = some (.inl 12) := by rw [List.getElem?_append_left (by rw [hl]; exact Nat.lt_add_of_pos_right (by decide))]; exact hs_0
  rw [hl]
  obtain ⟨h35, hh35⟩ : ∃ z, z = h34 ++ [(.inr (.int, 6) : xSh)] := ⟨_, rfl⟩
  rw [← hh35] at hl9 ht_0 ⊢
  clear hl
  have hl := hl9
  clear hl9
  clear hs_0
  have hs_0 := ht_0
  clear ht_0
  obtain ⟨I74, hI74⟩ : ∃ z, z = upc I73 (q + 35) (fun _ => 0) := ⟨_, rfl⟩
  rw [show upc I73 (q + 35) (fun _ => 0) = I74 from hI74.symm]
  obtain ⟨J35, hJ35⟩ : ∃ z, z = upc J34 (q + 35) (fun _ => 0) := ⟨_, rfl⟩
  rw [show upc J34 (q + 35) (fun _ => 0) = J35 from hJ35.symm]
  obtain ⟨K69, hK69⟩ : ∃ z, z = upc K68 (q + 35) (fun _ => none) := ⟨_, rfl⟩
  rw [show upc K68 (q + 35) (fun _ => none) = K69 from hK69.symm]
  refine p_putRv k128_489 hs_0 f_12_184_12 n_128_12_57 ?_
  obtain ⟨K70, hK70⟩ : ∃ z, z = sK K69 q 57 (some (q + 35)) := ⟨_, rfl⟩
  rw [show upc K69 q (upc (K69 q) 57 (some (q + 35))) = K70 from hK70.symm]
  refine p_aload_n k128_492 rfl ?_
  refine p_bipush (v := nI 6) k128_493 (by decide) ?_
  refine p_newa (N := 6) k128_495 xa1_int (by decide) (by decide) (by decide) (by omega) ?_
  rw [show newarray.typeOf .int = .int from rfl]
  have hl9 : (h35 ++ [(.inr (.int, 6) : xSh)]).length = q + 37 := by rw [List.length_append, hl]; rfl
  have ht_0 : (h35 ++ [(.inr (.int, 6) : xSh)])[q]? = some (.inl 12) := by rw [List.getElem?_append_left (by rw [hl]; exact Nat.lt_add_of_pos_right (by decide))]; exact hs_0
  rw [hl]
  obtain ⟨h36, hh36⟩ : ∃ z, z = h35 ++ [(.inr (.int, 6) : xSh)] := ⟨_, rfl⟩
  rw [← hh36] at hl9 ht_0 ⊢
  clear hl
  have hl := hl9
  clear hl9
  clear hs_0
  have hs_0 := ht_0
  clear ht_0
  obtain ⟨I75, hI75⟩ : ∃ z, z = upc I74 (q + 36) (fun _ => 0) := ⟨_, rfl⟩
  rw [show upc I74 (q + 36) (fun _ => 0) = I75 from hI75.symm]
  obtain ⟨J36, hJ36⟩ : ∃ z, z = upc J35 (q + 36) (fun _ => 0) := ⟨_, rfl⟩
  rw [show upc J35 (q + 36) (fun _ => 0) = J36 from hJ36.symm]
  obtain ⟨K71, hK71⟩ : ∃ z, z = upc K70 (q + 36) (fun _ => none) := ⟨_, rfl⟩
  rw [show upc K70 (q + 36) (fun _ => none) = K71 from hK71.symm]
  refine p_putRv k128_497 hs_0 f_12_187_12 n_128_12_58 ?_
  obtain ⟨K72, hK72⟩ : ∃ z, z = sK K71 q 58 (some (q + 36)) := ⟨_, rfl⟩
  rw [show upc K71 q (upc (K71 q) 58 (some (q + 36))) = K72 from hK72.symm]
  refine p_aload_n k128_500 rfl ?_
  refine p_bipush (v := nI 6) k128_501 (by decide) ?_
  refine p_newa (N := 6) k128_503 xa1_int (by decide) (by decide) (by decide) (by omega) ?_
  rw [show newarray.typeOf .int = .int from rfl]
  have hl9 : (h36 ++ [(.inr (.int, 6) : xSh)]).length = q + 38 := by rw [List.length_append, hl]; rfl
  have ht_0 : (h36 ++ [(.inr (.int, 6) : xSh)])[q]? = some (.inl 12) := by rw [List.getElem?_append_left (by rw [hl]; exact Nat.lt_add_of_pos_right (by decide))]; exact hs_0
  rw [hl]
  obtain ⟨h37, hh37⟩ : ∃ z, z = h36 ++ [(.inr (.int, 6) : xSh)] := ⟨_, rfl⟩
  rw [← hh37] at hl9 ht_0 ⊢
  clear hl
  have hl := hl9
  clear hl9
  clear hs_0
  have hs_0 := ht_0
  clear ht_0
  obtain ⟨I76, hI76⟩ : ∃ z, z = upc I75 (q + 37) (fun _ => 0) := ⟨_, rfl⟩
  rw [show upc I75 (q + 37) (fun _ => 0) = I76 from hI76.symm]
  obtain ⟨J37, hJ37⟩ : ∃ z, z = upc J36 (q + 37) (fun _ => 0) := ⟨_, rfl⟩
  rw [show upc J36 (q + 37) (fun _ => 0) = J37 from hJ37.symm]
  obtain ⟨K73, hK73⟩ : ∃ z, z = upc K72 (q + 37) (fun _ => none) := ⟨_, rfl⟩
  rw [show upc K72 (q + 37) (fun _ => none) = K73 from hK73.symm]
  refine p_putRv k128_505 hs_0 f_12_190_12 n_128_12_59 ?_
  obtain ⟨K74, hK74⟩ : ∃ z, z = sK K73 q 59 (some (q + 37)) := ⟨_, rfl⟩
  rw [show upc K73 q (upc (K73 q) 59 (some (q + 37))) = K74 from hK74.symm]
  refine p_aload_n k128_508 rfl ?_
  refine p_bipush (v := nI 6) k128_509 (by decide) ?_
  refine p_newa (N := 6) k128_511 xa1_int (by decide) (by decide) (by decide) (by omega) ?_
  rw [show newarray.typeOf .int = .int from rfl]
  have hl9 : (h37 ++ [(.inr (.int, 6) : xSh)]).length = q + 39 := by rw [List.length_append, hl]; rfl
  have ht_0 : (h37 ++ [(.inr (.int, 6) : xSh)])[q]? = some (.inl 12) := by rw [List.getElem?_append_left (by rw [hl]; exact Nat.lt_add_of_pos_right (by decide))]; exact hs_0
  rw [hl]
  obtain ⟨h38, hh38⟩ : ∃ z, z = h37 ++ [(.inr (.int, 6) : xSh)] := ⟨_, rfl⟩
  rw [← hh38] at hl9 ht_0 ⊢
  clear hl
  have hl := hl9
  clear hl9
  clear hs_0
  have hs_0 := ht_0
  clear ht_0
  obtain ⟨I77, hI77⟩ : ∃ z, z = upc I76 (q + 38) (fun _ => 0) := ⟨_, rfl⟩
  rw [show upc I76 (q + 38) (fun _ => 0) = I77 from hI77.symm]
  obtain ⟨J38, hJ38⟩ : ∃ z, z = upc J37 (q + 38) (fun _ => 0) := ⟨_, rfl⟩
  rw [show upc J37 (q + 38) (fun _ => 0) = J38 from hJ38.symm]
  obtain ⟨K75, hK75⟩ : ∃ z, z = upc K74 (q + 38) (fun _ => none) := ⟨_, rfl⟩
  rw [show upc K74 (q + 38) (fun _ => none) = K75 from hK75.symm]
  refine p_putRv k128_513 hs_0 f_12_193_12 n_128_12_60 ?_
  obtain ⟨K76, hK76⟩ : ∃ z, z = sK K75 q 60 (some (q + 38)) := ⟨_, rfl⟩
  rw [show upc K75 q (upc (K75 q) 60 (some (q + 38))) = K76 from hK76.symm]
  refine p_aload_n k128_516 rfl ?_
  refine p_bipush (v := nI 6) k128_517 (by decide) ?_
  refine p_newa (N := 6) k128_519 xa1_int (by decide) (by decide) (by decide) (by omega) ?_
  rw [show newarray.typeOf .int = .int from rfl]
  have hl9 : (h38 ++ [(.inr (.int, 6) : xSh)]).length = q + 40 := by rw [List.length_append, hl]; rfl
  have ht_0 : (h38 ++ [(.inr (.int, 6) : xSh)])[q]? = some (.inl 12) := by rw [List.getElem?_append_left (by rw [hl]; exact Nat.lt_add_of_pos_right (by decide))]; exact hs_0
  rw [hl]
  obtain ⟨h39, hh39⟩ : ∃ z, z = h38 ++ [(.inr (.int, 6) : xSh)] := ⟨_, rfl⟩
  rw [← hh39] at hl9 ht_0 ⊢
  clear hl
  have hl := hl9
  clear hl9
  clear hs_0
  have hs_0 := ht_0
  clear ht_0
  obtain ⟨I78, hI78⟩ : ∃ z, z = upc I77 (q + 39) (fun _ => 0) := ⟨_, rfl⟩
  rw [show upc I77 (q + 39) (fun _ => 0) = I78 from hI78.symm]
  obtain ⟨J39, hJ39⟩ : ∃ z, z = upc J38 (q + 39) (fun _ => 0) := ⟨_, rfl⟩
  rw [show upc J38 (q + 39) (fun _ => 0) = J39 from hJ39.symm]
  obtain ⟨K77, hK77⟩ : ∃ z, z = upc K76 (q + 39) (fun _ => none) := ⟨_, rfl⟩
  rw [show upc K76 (q + 39) (fun _ => none) = K77 from hK77.symm]
  refine p_putRv k128_521 hs_0 f_12_196_12 n_128_12_61 ?_
  obtain ⟨K78, hK78⟩ : ∃ z, z = sK K77 q 61 (some (q + 39)) := ⟨_, rfl⟩
  rw [show upc K77 q (upc (K77 q) 61 (some (q + 39))) = K78 from hK78.symm]
  refine p_aload_n k128_524 rfl ?_
  refine p_bipush (v := nI 6) k128_525 (by decide) ?_
  refine p_newa (N := 6) k128_527 xa1_int (by decide) (by decide) (by decide) (by omega) ?_
  rw [show newarray.typeOf .int = .int from rfl]
  have hl9 : (h39 ++ [(.inr (.int, 6) : xSh)]).length = q + 41 := by rw [List.length_append, hl]; rfl
  have ht_0 : (h39 ++ [(.inr (.int, 6) : xSh)])[q]? = some (.inl 12) := by rw [List.getElem?_append_left (by rw [hl]; exact Nat.lt_add_of_pos_right (by decide))]; exact hs_0
  rw [hl]
  obtain ⟨h40, hh40⟩ : ∃ z, z = h39 ++ [(.inr (.int, 6) : xSh)] := ⟨_, rfl⟩
  rw [← hh40] at hl9 ht_0 ⊢
  clear hl
  have hl := hl9
  clear hl9
  clear hs_0
  have hs_0 := ht_0
  clear ht_0
  obtain ⟨I79, hI79⟩ : ∃ z, z = upc I78 (q + 40) (fun _ => 0) := ⟨_, rfl⟩
  rw [show upc I78 (q + 40) (fun _ => 0) = I79 from hI79.symm]
  obtain ⟨J40, hJ40⟩ : ∃ z, z = upc J39 (q + 40) (fun _ => 0) := ⟨_, rfl⟩
  rw [show upc J39 (q + 40) (fun _ => 0) = J40 from hJ40.symm]
  obtain ⟨K79, hK79⟩ : ∃ z, z = upc K78 (q + 40) (fun _ => none) := ⟨_, rfl⟩
  rw [show upc K78 (q + 40) (fun _ => none) = K79 from hK79.symm]
  refine p_putRv k128_529 hs_0 f_12_199_12 n_128_12_62 ?_
  obtain ⟨K80, hK80⟩ : ∃ z, z = sK K79 q 62 (some (q + 40)) := ⟨_, rfl⟩
  rw [show upc K79 q (upc (K79 q) 62 (some (q + 40))) = K80 from hK80.symm]
  refine p_aload_n k128_532 rfl ?_
  refine p_bipush (v := nI 6) k128_533 (by decide) ?_
  refine p_newa (N := 6) k128_535 xa1_int (by decide) (by decide) (by decide) (by omega) ?_
  rw [show newarray.typeOf .int = .int from rfl]
  have hl9 : (h40 ++ [(.inr (.int, 6) : xSh)]).length = q + 42 := by rw [List.length_append, hl]; rfl
  have ht_0 : (h40 ++ [(.inr (.int, 6) : xSh)])[q]? = some (.inl 12) := by rw [List.getElem?_append_left (by rw [hl]; exact Nat.lt_add_of_pos_right (by decide))]; exact hs_0
  rw [hl]
  obtain ⟨h41, hh41⟩ : ∃ z, z = h40 ++ [(.inr (.int, 6) : xSh)] := ⟨_, rfl⟩
  rw [← hh41] at hl9 ht_0 ⊢
  clear hl
  have hl := hl9
  clear hl9
  clear hs_0
  have hs_0 := ht_0
  clear ht_0
  obtain ⟨I80, hI80⟩ : ∃ z, z = upc I79 (q + 41) (fun _ => 0) := ⟨_, rfl⟩
  rw [show upc I79 (q + 41) (fun _ => 0) = I80 from hI80.symm]
  obtain ⟨J41, hJ41⟩ : ∃ z, z = upc J40 (q + 41) (fun _ => 0) := ⟨_, rfl⟩
  rw [show upc J40 (q + 41) (fun _ => 0) = J41 from hJ41.symm]
  obtain ⟨K81, hK81⟩ : ∃ z, z = upc K80 (q + 41) (fun _ => none) := ⟨_, rfl⟩
  rw [show upc K80 (q + 41) (fun _ => none) = K81 from hK81.symm]
  refine p_putRv k128_537 hs_0 f_12_202_12 n_128_12_63 ?_
  obtain ⟨K82, hK82⟩ : ∃ z, z = sK K81 q 63 (some (q + 41)) := ⟨_, rfl⟩
  rw [show upc K81 q (upc (K81 q) 63 (some (q + 41))) = K82 from hK82.symm]
  refine p_aload_n k128_540 rfl ?_
  refine p_bipush (v := nI 6) k128_541 (by decide) ?_
  refine p_newa (N := 6) k128_543 xa1_int (by decide) (by decide) (by decide) (by omega) ?_
  rw [show newarray.typeOf .int = .int from rfl]
  have hl9 : (h41 ++ [(.inr (.int, 6) : xSh)]).length = q + 43 := by rw [List.length_append, hl]; rfl
  have ht_0 : (h41 ++ [(.inr (.int, 6) : xSh)])[q]? = some (.inl 12) := by rw [List.getElem?_append_left (by rw [hl]; exact Nat.lt_add_of_pos_right (by decide))]; exact hs_0
  rw [hl]
  obtain ⟨h42, hh42⟩ : ∃ z, z = h41 ++ [(.inr (.int, 6) : xSh)] := ⟨_, rfl⟩
  rw [← hh42] at hl9 ht_0 ⊢
  clear hl
  have hl := hl9
  clear hl9
  clear hs_0
  have hs_0 := ht_0
  clear ht_0
  obtain ⟨I81, hI81⟩ : ∃ z, z = upc I80 (q + 42) (fun _ => 0) := ⟨_, rfl⟩
  rw [show upc I80 (q + 42) (fun _ => 0) = I81 from hI81.symm]
  obtain ⟨J42, hJ42⟩ : ∃ z, z = upc J41 (q + 42) (fun _ => 0) := ⟨_, rfl⟩
  rw [show upc J41 (q + 42) (fun _ => 0) = J42 from hJ42.symm]
  obtain ⟨K83, hK83⟩ : ∃ z, z = upc K82 (q + 42) (fun _ => none) := ⟨_, rfl⟩
  rw [show upc K82 (q + 42) (fun _ => none) = K83 from hK83.symm]
  refine p_putRv k128_545 hs_0 f_12_205_12 n_128_12_64 ?_
  obtain ⟨K84, hK84⟩ : ∃ z, z = sK K83 q 64 (some (q + 42)) := ⟨_, rfl⟩
  rw [show upc K83 q (upc (K83 q) 64 (some (q + 42))) = K84 from hK84.symm]
  refine p_aload_n k128_548 rfl ?_
  refine p_bipush (v := nI 6) k128_549 (by decide) ?_
  refine p_newa (N := 6) k128_551 xa1_int (by decide) (by decide) (by decide) (by omega) ?_
  rw [show newarray.typeOf .int = .int from rfl]
  have hl9 : (h42 ++ [(.inr (.int, 6) : xSh)]).length = q + 44 := by rw [List.length_append, hl]; rfl
  have ht_0 : (h42 ++ [(.inr (.int, 6) : xSh)])[q]? = some (.inl 12) := by rw [List.getElem?_append_left (by rw [hl]; exact Nat.lt_add_of_pos_right (by decide))]; exact hs_0
  rw [hl]
  obtain ⟨h43, hh43⟩ : ∃ z, z = h42 ++ [(.inr (.int, 6) : xSh)] := ⟨_, rfl⟩
  rw [← hh43] at hl9 ht_0 ⊢
  clear hl
  have hl := hl9
  clear hl9
  clear hs_0
  have hs_0 := ht_0
  clear ht_0
  obtain ⟨I82, hI82⟩ : ∃ z, z = upc I81 (q + 43) (fun _ => 0) := ⟨_, rfl⟩
  rw [show upc I81 (q + 43) (fun _ => 0) = I82 from hI82.symm]
  obtain ⟨J43, hJ43⟩ : ∃ z, z = upc J42 (q + 43) (fun _ => 0) := ⟨_, rfl⟩
  rw [show upc J42 (q + 43) (fun _ => 0) = J43 from hJ43.symm]
  obtain ⟨K85, hK85⟩ : ∃ z, z = upc K84 (q + 43) (fun _ => none) := ⟨_, rfl⟩
  rw [show upc K84 (q + 43) (fun _ => none) = K85 from hK85.symm]
  refine p_putRv k128_553 hs_0 f_12_208_12 n_128_12_65 ?_
  obtain ⟨K86, hK86⟩ : ∃ z, z = sK K85 q 65 (some (q + 43)) := ⟨_, rfl⟩
  rw [show upc K85 q (upc (K85 q) 65 (some (q + 43))) = K86 from hK86.symm]
  refine p_aload_n k128_556 rfl ?_
  refine p_bipush (v := nI 24) k128_557 (by decide) ?_
  refine p_newa (N := 24) k128_559 xa1_int (by decide) (by decide) (by decide) (by omega) ?_
  rw [show newarray.typeOf .int = .int from rfl]
  have hl9 : (h43 ++ [(.inr (.int, 24) : xSh)]).length = q + 45 := by rw [List.length_append, hl]; rfl
  have ht_0 : (h43 ++ [(.inr (.int, 24) : xSh)])[q]? = some (.inl 12) := by rw [List.getElem?_append_left (by rw [hl]; exact Nat.lt_add_of_pos_right (by decide))]; exact hs_0
  rw [hl]
  obtain ⟨h44, hh44⟩ : ∃ z, z = h43 ++ [(.inr (.int, 24) : xSh)] := ⟨_, rfl⟩
  rw [← hh44] at hl9 ht_0 ⊢
  clear hl
  have hl := hl9
  clear hl9
  clear hs_0
  have hs_0 := ht_0
  clear ht_0
  obtain ⟨I83, hI83⟩ : ∃ z, z = upc I82 (q + 44) (fun _ => 0) := ⟨_, rfl⟩
  rw [show upc I82 (q + 44) (fun _ => 0) = I83 from hI83.symm]
  obtain ⟨J44, hJ44⟩ : ∃ z, z = upc J43 (q + 44) (fun _ => 0) := ⟨_, rfl⟩
  rw [show upc J43 (q + 44) (fun _ => 0) = J44 from hJ44.symm]
  obtain ⟨K87, hK87⟩ : ∃ z, z = upc K86 (q + 44) (fun _ => none) := ⟨_, rfl⟩
  rw [show upc K86 (q + 44) (fun _ => none) = K87 from hK87.symm]
  refine p_putRv k128_561 hs_0 f_12_211_12 n_128_12_66 ?_
  obtain ⟨K88, hK88⟩ : ∃ z, z = sK K87 q 66 (some (q + 44)) := ⟨_, rfl⟩
  rw [show upc K87 q (upc (K87 q) 66 (some (q + 44))) = K88 from hK88.symm]
  refine p_aload_n k128_564 rfl ?_
  refine p_iconst (v := nI 5) k128_565 (by decide) ?_
  refine p_newa (N := 5) k128_566 xa1_int (by decide) (by decide) (by decide) (by omega) ?_
  rw [show newarray.typeOf .int = .int from rfl]
  have hl9 : (h44 ++ [(.inr (.int, 5) : xSh)]).length = q + 46 := by rw [List.length_append, hl]; rfl
  have ht_0 : (h44 ++ [(.inr (.int, 5) : xSh)])[q]? = some (.inl 12) := by rw [List.getElem?_append_left (by rw [hl]; exact Nat.lt_add_of_pos_right (by decide))]; exact hs_0
  rw [hl]
  obtain ⟨h45, hh45⟩ : ∃ z, z = h44 ++ [(.inr (.int, 5) : xSh)] := ⟨_, rfl⟩
  rw [← hh45] at hl9 ht_0 ⊢
  clear hl
  have hl := hl9
  clear hl9
  clear hs_0
  have hs_0 := ht_0
  clear ht_0
  obtain ⟨I84, hI84⟩ : ∃ z, z = upc I83 (q + 45) (fun _ => 0) := ⟨_, rfl⟩
  rw [show upc I83 (q + 45) (fun _ => 0) = I84 from hI84.symm]
  obtain ⟨J45, hJ45⟩ : ∃ z, z = upc J44 (q + 45) (fun _ => 0) := ⟨_, rfl⟩
  rw [show upc J44 (q + 45) (fun _ => 0) = J45 from hJ45.symm]
  obtain ⟨K89, hK89⟩ : ∃ z, z = upc K88 (q + 45) (fun _ => none) := ⟨_, rfl⟩
  rw [show upc K88 (q + 45) (fun _ => none) = K89 from hK89.symm]
  refine p_putRv k128_568 hs_0 f_12_214_12 n_128_12_67 ?_
  obtain ⟨K90, hK90⟩ : ∃ z, z = sK K89 q 67 (some (q + 45)) := ⟨_, rfl⟩
  rw [show upc K89 q (upc (K89 q) 67 (some (q + 45))) = K90 from hK90.symm]
  refine p_aload_n k128_571 rfl ?_
  refine p_bipush (v := nI 6) k128_572 (by decide) ?_
  refine p_newa (N := 6) k128_574 xa1_int (by decide) (by decide) (by decide) (by omega) ?_
  rw [show newarray.typeOf .int = .int from rfl]
  have hl9 : (h45 ++ [(.inr (.int, 6) : xSh)]).length = q + 47 := by rw [List.length_append, hl]; rfl
  have ht_0 : (h45 ++ [(.inr (.int, 6) : xSh)])[q]? = some (.inl 12) := by rw [List.getElem?_append_left (by rw [hl]; exact Nat.lt_add_of_pos_right (by decide))]; exact hs_0
  rw [hl]
  obtain ⟨h46, hh46⟩ : ∃ z, z = h45 ++ [(.inr (.int, 6) : xSh)] := ⟨_, rfl⟩
  rw [← hh46] at hl9 ht_0 ⊢
  clear hl
  have hl := hl9
  clear hl9
  clear hs_0
  have hs_0 := ht_0
  clear ht_0
  obtain ⟨I85, hI85⟩ : ∃ z, z = upc I84 (q + 46) (fun _ => 0) := ⟨_, rfl⟩
  rw [show upc I84 (q + 46) (fun _ => 0) = I85 from hI85.symm]
  obtain ⟨J46, hJ46⟩ : ∃ z, z = upc J45 (q + 46) (fun _ => 0) := ⟨_, rfl⟩
  rw [show upc J45 (q + 46) (fun _ => 0) = J46 from hJ46.symm]
  obtain ⟨K91, hK91⟩ : ∃ z, z = upc K90 (q + 46) (fun _ => none) := ⟨_, rfl⟩
  rw [show upc K90 (q + 46) (fun _ => none) = K91 from hK91.symm]
  refine p_putRv k128_576 hs_0 f_12_217_12 n_128_12_68 ?_
  obtain ⟨K92, hK92⟩ : ∃ z, z = sK K91 q 68 (some (q + 46)) := ⟨_, rfl⟩
  rw [show upc K91 q (upc (K91 q) 68 (some (q + 46))) = K92 from hK92.symm]
  refine p_aload_n k128_579 rfl ?_
  refine p_bipush (v := nI 6) k128_580 (by decide) ?_
  refine p_newa (N := 6) k128_582 xa1_int (by decide) (by decide) (by decide) (by omega) ?_
  rw [show newarray.typeOf .int = .int from rfl]
  have hl9 : (h46 ++ [(.inr (.int, 6) : xSh)]).length = q + 48 := by rw [List.length_append, hl]; rfl
  have ht_0 : (h46 ++ [(.inr (.int, 6) : xSh)])[q]? = some (.inl 12) := by rw [List.getElem?_append_left (by rw [hl]; exact Nat.lt_add_of_pos_right (by decide))]; exact hs_0
  rw [hl]
  obtain ⟨h47, hh47⟩ : ∃ z, z = h46 ++ [(.inr (.int, 6) : xSh)] := ⟨_, rfl⟩
  rw [← hh47] at hl9 ht_0 ⊢
  clear hl
  have hl := hl9
  clear hl9
  clear hs_0
  have hs_0 := ht_0
  clear ht_0
  obtain ⟨I86, hI86⟩ : ∃ z, z = upc I85 (q + 47) (fun _ => 0) := ⟨_, rfl⟩
  rw [show upc I85 (q + 47) (fun _ => 0) = I86 from hI86.symm]
  obtain ⟨J47, hJ47⟩ : ∃ z, z = upc J46 (q + 47) (fun _ => 0) := ⟨_, rfl⟩
  rw [show upc J46 (q + 47) (fun _ => 0) = J47 from hJ47.symm]
  obtain ⟨K93, hK93⟩ : ∃ z, z = upc K92 (q + 47) (fun _ => none) := ⟨_, rfl⟩
  rw [show upc K92 (q + 47) (fun _ => none) = K93 from hK93.symm]
  refine p_putRv k128_584 hs_0 f_12_220_12 n_128_12_69 ?_
  obtain ⟨K94, hK94⟩ : ∃ z, z = sK K93 q 69 (some (q + 47)) := ⟨_, rfl⟩
  rw [show upc K93 q (upc (K93 q) 69 (some (q + 47))) = K94 from hK94.symm]
  refine p_aload_n k128_587 rfl ?_
  refine p_bipush (v := nI 8) k128_588 (by decide) ?_
  refine p_newa (N := 8) k128_590 xa1_int (by decide) (by decide) (by decide) (by omega) ?_
  rw [show newarray.typeOf .int = .int from rfl]
  have hl9 : (h47 ++ [(.inr (.int, 8) : xSh)]).length = q + 49 := by rw [List.length_append, hl]; rfl
  have ht_0 : (h47 ++ [(.inr (.int, 8) : xSh)])[q]? = some (.inl 12) := by rw [List.getElem?_append_left (by rw [hl]; exact Nat.lt_add_of_pos_right (by decide))]; exact hs_0
  rw [hl]
  obtain ⟨h48, hh48⟩ : ∃ z, z = h47 ++ [(.inr (.int, 8) : xSh)] := ⟨_, rfl⟩
  rw [← hh48] at hl9 ht_0 ⊢
  clear hl
  have hl := hl9
  clear hl9
  clear hs_0
  have hs_0 := ht_0
  clear ht_0
  obtain ⟨I87, hI87⟩ : ∃ z, z = upc I86 (q + 48) (fun _ => 0) := ⟨_, rfl⟩
  rw [show upc I86 (q + 48) (fun _ => 0) = I87 from hI87.symm]
  obtain ⟨J48, hJ48⟩ : ∃ z, z = upc J47 (q + 48) (fun _ => 0) := ⟨_, rfl⟩
  rw [show upc J47 (q + 48) (fun _ => 0) = J48 from hJ48.symm]
  obtain ⟨K95, hK95⟩ : ∃ z, z = upc K94 (q + 48) (fun _ => none) := ⟨_, rfl⟩
  rw [show upc K94 (q + 48) (fun _ => none) = K95 from hK95.symm]
  refine p_putRv k128_592 hs_0 f_12_223_12 n_128_12_70 ?_
  obtain ⟨K96, hK96⟩ : ∃ z, z = sK K95 q 70 (some (q + 48)) := ⟨_, rfl⟩
  rw [show upc K95 q (upc (K95 q) 70 (some (q + 48))) = K96 from hK96.symm]
  refine p_aload_n k128_595 rfl ?_
  refine p_bipush (v := nI 8) k128_596 (by decide) ?_
  refine p_newa (N := 8) k128_598 xa1_int (by decide) (by decide) (by decide) (by omega) ?_
  rw [show newarray.typeOf .int = .int from rfl]
  have hl9 : (h48 ++ [(.inr (.int, 8) : xSh)]).length = q + 50 := by rw [List.length_append, hl]; rfl
  have ht_0 : (h48 ++ [(.inr (.int, 8) : xSh)])[q]? = some (.inl 12) := by rw [List.getElem?_append_left (by rw [hl]; exact Nat.lt_add_of_pos_right (by decide))]; exact hs_0
  rw [hl]
  obtain ⟨h49, hh49⟩ : ∃ z, z = h48 ++ [(.inr (.int, 8) : xSh)] := ⟨_, rfl⟩
  rw [← hh49] at hl9 ht_0 ⊢
  clear hl
  have hl := hl9
  clear hl9
  clear hs_0
  have hs_0 := ht_0
  clear ht_0
  obtain ⟨I88, hI88⟩ : ∃ z, z = upc I87 (q + 49) (fun _ => 0) := ⟨_, rfl⟩
  rw [show upc I87 (q + 49) (fun _ => 0) = I88 from hI88.symm]
  obtain ⟨J49, hJ49⟩ : ∃ z, z = upc J48 (q + 49) (fun _ => 0) := ⟨_, rfl⟩
  rw [show upc J48 (q + 49) (fun _ => 0) = J49 from hJ49.symm]
  obtain ⟨K97, hK97⟩ : ∃ z, z = upc K96 (q + 49) (fun _ => none) := ⟨_, rfl⟩
  rw [show upc K96 (q + 49) (fun _ => none) = K97 from hK97.symm]
  refine p_putRv k128_600 hs_0 f_12_226_12 n_128_12_71 ?_
  obtain ⟨K98, hK98⟩ : ∃ z, z = sK K97 q 71 (some (q + 49)) := ⟨_, rfl⟩
  rw [show upc K97 q (upc (K97 q) 71 (some (q + 49))) = K98 from hK98.symm]
  refine p_aload_n k128_603 rfl ?_
  refine p_iconst (v := nI 0) k128_604 (by decide) ?_
  refine p_putIv k128_605 hs_0 g_12_229_12 n_128_12_72 ?_
  obtain ⟨I89, hI89⟩ : ∃ z, z = s1 I88 q 72 (nI (0)) := ⟨_, rfl⟩
  rw [show upc I88 q (upc (I88 q) 72 (nI (0))) = I89 from hI89.symm]
  refine p_aload_n k128_608 rfl ?_
  refine p_bipush (v := nI 20) k128_609 (by decide) ?_
  refine p_newa (N := 20) k128_611 xa1_int (by decide) (by decide) (by decide) (by omega) ?_
  rw [show newarray.typeOf .int = .int from rfl]
  have hl9 : (h49 ++ [(.inr (.int, 20) : xSh)]).length = q + 51 := by rw [List.length_append, hl]; rfl
  have ht_0 : (h49 ++ [(.inr (.int, 20) : xSh)])[q]? = some (.inl 12) := by rw [List.getElem?_append_left (by rw [hl]; exact Nat.lt_add_of_pos_right (by decide))]; exact hs_0
  rw [hl]
  obtain ⟨h50, hh50⟩ : ∃ z, z = h49 ++ [(.inr (.int, 20) : xSh)] := ⟨_, rfl⟩
  rw [← hh50] at hl9 ht_0 ⊢
  clear hl
  have hl := hl9
  clear hl9
  clear hs_0
  have hs_0 := ht_0
  clear ht_0
  obtain ⟨I90, hI90⟩ : ∃ z, z = upc I89 (q + 50) (fun _ => 0) := ⟨_, rfl⟩
  rw [show upc I89 (q + 50) (fun _ => 0) = I90 from hI90.symm]
  obtain ⟨J50, hJ50⟩ : ∃ z, z = upc J49 (q + 50) (fun _ => 0) := ⟨_, rfl⟩
  rw [show upc J49 (q + 50) (fun _ => 0) = J50 from hJ50.symm]
  obtain ⟨K99, hK99⟩ : ∃ z, z = upc K98 (q + 50) (fun _ => none) := ⟨_, rfl⟩
  rw [show upc K98 (q + 50) (fun _ => none) = K99 from hK99.symm]
  refine p_putRv k128_613 hs_0 f_12_232_12 n_128_12_73 ?_
  obtain ⟨K100, hK100⟩ : ∃ z, z = sK K99 q 73 (some (q + 50)) := ⟨_, rfl⟩
  rw [show upc K99 q (upc (K99 q) 73 (some (q + 50))) = K100 from hK100.symm]
  refine p_aload_n k128_616 rfl ?_
  refine p_bipush (v := nI 6) k128_617 (by decide) ?_
  refine p_newa (N := 6) k128_619 xa1_int (by decide) (by decide) (by decide) (by omega) ?_
  rw [show newarray.typeOf .int = .int from rfl]
  have hl9 : (h50 ++ [(.inr (.int, 6) : xSh)]).length = q + 52 := by rw [List.length_append, hl]; rfl
  have ht_0 : (h50 ++ [(.inr (.int, 6) : xSh)])[q]? = some (.inl 12) := by rw [List.getElem?_append_left (by rw [hl]; exact Nat.lt_add_of_pos_right (by decide))]; exact hs_0
  have ht_51 : (h50 ++ [(.inr (.int, 6) : xSh)])[q + 51]? = some (.inr (.int, 6) : xSh) := by rw [List.getElem?_append_right (by omega), hl, show q + 51 - (q + 51) = 0 by omega]; rfl
  rw [hl]
  obtain ⟨h51, hh51⟩ : ∃ z, z = h50 ++ [(.inr (.int, 6) : xSh)] := ⟨_, rfl⟩
  rw [← hh51] at hl9 ht_0 ht_51 ⊢
  clear hl
  have hl := hl9
  clear hl9
  clear hs_0
  have hs_0 := ht_0
  clear ht_0
  have hs_51 := ht_51
  clear ht_51
  obtain ⟨I91, hI91⟩ : ∃ z, z = upc I90 (q + 51) (fun _ => 0) := ⟨_, rfl⟩
  rw [show upc I90 (q + 51) (fun _ => 0) = I91 from hI91.symm]
  obtain ⟨J51, hJ51⟩ : ∃ z, z = upc J50 (q + 51) (fun _ => 0) := ⟨_, rfl⟩
  rw [show upc J50 (q + 51) (fun _ => 0) = J51 from hJ51.symm]
  obtain ⟨K101, hK101⟩ : ∃ z, z = upc K100 (q + 51) (fun _ => none) := ⟨_, rfl⟩
  rw [show upc K100 (q + 51) (fun _ => none) = K101 from hK101.symm]
  refine p_dup k128_621 rfl ?_
  refine p_iconst (v := nI 0) k128_622 (by decide) ?_
  refine p_iconst (v := (-1)) k128_623 (by decide) ?_
  refine p_iastN k128_624 hs_51 (by omega) (by decide) ?_
  obtain ⟨I92, hI92⟩ : ∃ z, z = s1 I91 (q + 51) 0 ((-1)) := ⟨_, rfl⟩
  rw [show upc I91 (q + 51) (upc (I91 (q + 51)) 0 ((-1))) = I92 from hI92.symm]
  refine p_dup k128_625 rfl ?_
  refine p_iconst (v := nI 1) k128_626 (by decide) ?_
  refine p_iconst (v := (-1)) k128_627 (by decide) ?_
  refine p_iastN k128_628 hs_51 (by omega) (by decide) ?_
  obtain ⟨I93, hI93⟩ : ∃ z, z = s1 I92 (q + 51) 1 ((-1)) := ⟨_, rfl⟩
  rw [show upc I92 (q + 51) (upc (I92 (q + 51)) 1 ((-1))) = I93 from hI93.symm]
  refine p_dup k128_629 rfl ?_
  refine p_iconst (v := nI 2) k128_630 (by decide) ?_
  refine p_iconst (v := (-1)) k128_631 (by decide) ?_
  refine p_iastN k128_632 hs_51 (by omega) (by decide) ?_
  obtain ⟨I94, hI94⟩ : ∃ z, z = s1 I93 (q + 51) 2 ((-1)) := ⟨_, rfl⟩
  rw [show upc I93 (q + 51) (upc (I93 (q + 51)) 2 ((-1))) = I94 from hI94.symm]
  refine p_dup k128_633 rfl ?_
  refine p_iconst (v := nI 3) k128_634 (by decide) ?_
  refine p_iconst (v := (-1)) k128_635 (by decide) ?_
  refine p_iastN k128_636 hs_51 (by omega) (by decide) ?_
  obtain ⟨I95, hI95⟩ : ∃ z, z = s1 I94 (q + 51) 3 ((-1)) := ⟨_, rfl⟩
  rw [show upc I94 (q + 51) (upc (I94 (q + 51)) 3 ((-1))) = I95 from hI95.symm]
  refine p_dup k128_637 rfl ?_
  refine p_iconst (v := nI 4) k128_638 (by decide) ?_
  refine p_iconst (v := (-1)) k128_639 (by decide) ?_
  refine p_iastN k128_640 hs_51 (by omega) (by decide) ?_
  obtain ⟨I96, hI96⟩ : ∃ z, z = s1 I95 (q + 51) 4 ((-1)) := ⟨_, rfl⟩
  rw [show upc I95 (q + 51) (upc (I95 (q + 51)) 4 ((-1))) = I96 from hI96.symm]
  refine p_dup k128_641 rfl ?_
  refine p_iconst (v := nI 5) k128_642 (by decide) ?_
  refine p_iconst (v := (-1)) k128_643 (by decide) ?_
  refine p_iastN k128_644 hs_51 (by omega) (by decide) ?_
  obtain ⟨I97, hI97⟩ : ∃ z, z = s1 I96 (q + 51) 5 ((-1)) := ⟨_, rfl⟩
  rw [show upc I96 (q + 51) (upc (I96 (q + 51)) 5 ((-1))) = I97 from hI97.symm]
  refine p_putRv k128_645 hs_0 f_12_235_12 n_128_12_74 ?_
  clear hs_51
  obtain ⟨K102, hK102⟩ : ∃ z, z = sK K101 q 74 (some (q + 51)) := ⟨_, rfl⟩
  rw [show upc K101 q (upc (K101 q) 74 (some (q + 51))) = K102 from hK102.symm]
  refine p_aload_n k128_648 rfl ?_
  refine p_bipush (v := nI 6) k128_649 (by decide) ?_
  refine p_newa (N := 6) k128_651 xa1_int (by decide) (by decide) (by decide) (by omega) ?_
  rw [show newarray.typeOf .int = .int from rfl]
  have hl9 : (h51 ++ [(.inr (.int, 6) : xSh)]).length = q + 53 := by rw [List.length_append, hl]; rfl
  have ht_0 : (h51 ++ [(.inr (.int, 6) : xSh)])[q]? = some (.inl 12) := by rw [List.getElem?_append_left (by rw [hl]; exact Nat.lt_add_of_pos_right (by decide))]; exact hs_0
  rw [hl]
  obtain ⟨h52, hh52⟩ : ∃ z, z = h51 ++ [(.inr (.int, 6) : xSh)] := ⟨_, rfl⟩
  rw [← hh52] at hl9 ht_0 ⊢
  clear hl
  have hl := hl9
  clear hl9
  clear hs_0
  have hs_0 := ht_0
  clear ht_0
  obtain ⟨I98, hI98⟩ : ∃ z, z = upc I97 (q + 52) (fun _ => 0) := ⟨_, rfl⟩
  rw [show upc I97 (q + 52) (fun _ => 0) = I98 from hI98.symm]
  obtain ⟨J52, hJ52⟩ : ∃ z, z = upc J51 (q + 52) (fun _ => 0) := ⟨_, rfl⟩
  rw [show upc J51 (q + 52) (fun _ => 0) = J52 from hJ52.symm]
  obtain ⟨K103, hK103⟩ : ∃ z, z = upc K102 (q + 52) (fun _ => none) := ⟨_, rfl⟩
  rw [show upc K102 (q + 52) (fun _ => none) = K103 from hK103.symm]
  refine p_putRv k128_653 hs_0 f_12_238_12 n_128_12_75 ?_
  obtain ⟨K104, hK104⟩ : ∃ z, z = sK K103 q 75 (some (q + 52)) := ⟨_, rfl⟩
  rw [show upc K103 q (upc (K103 q) 75 (some (q + 52))) = K104 from hK104.symm]
  refine p_aload_n k128_656 rfl ?_
  refine p_sipush (v := nI 360) k128_657 (by decide) ?_
  refine p_newa (N := 360) k128_660 xa1_long (by decide) (by decide) (by decide) (by omega) ?_
  rw [show newarray.typeOf .long = .long from rfl]
  have hl9 : (h52 ++ [(.inr (.long, 360) : xSh)]).length = q + 54 := by rw [List.length_append, hl]; rfl
  have ht_0 : (h52 ++ [(.inr (.long, 360) : xSh)])[q]? = some (.inl 12) := by rw [List.getElem?_append_left (by rw [hl]; exact Nat.lt_add_of_pos_right (by decide))]; exact hs_0
  rw [hl]
  obtain ⟨h53, hh53⟩ : ∃ z, z = h52 ++ [(.inr (.long, 360) : xSh)] := ⟨_, rfl⟩
  rw [← hh53] at hl9 ht_0 ⊢
  clear hl
  have hl := hl9
  clear hl9
  clear hs_0
  have hs_0 := ht_0
  clear ht_0
  obtain ⟨I99, hI99⟩ : ∃ z, z = upc I98 (q + 53) (fun _ => 0) := ⟨_, rfl⟩
  rw [show upc I98 (q + 53) (fun _ => 0) = I99 from hI99.symm]
  obtain ⟨J53, hJ53⟩ : ∃ z, z = upc J52 (q + 53) (fun _ => 0) := ⟨_, rfl⟩
  rw [show upc J52 (q + 53) (fun _ => 0) = J53 from hJ53.symm]
  obtain ⟨K105, hK105⟩ : ∃ z, z = upc K104 (q + 53) (fun _ => none) := ⟨_, rfl⟩
  rw [show upc K104 (q + 53) (fun _ => none) = K105 from hK105.symm]
  refine p_putRv k128_662 hs_0 f_12_241_12 n_128_12_76 ?_
  obtain ⟨K106, hK106⟩ : ∃ z, z = sK K105 q 76 (some (q + 53)) := ⟨_, rfl⟩
  rw [show upc K105 q (upc (K105 q) 76 (some (q + 53))) = K106 from hK106.symm]
  refine p_aload_n k128_665 rfl ?_
  refine p_bipush (v := nI 60) k128_666 (by decide) ?_
  refine p_newa (N := 60) k128_668 xa1_long (by decide) (by decide) (by decide) (by omega) ?_
  rw [show newarray.typeOf .long = .long from rfl]
  have hl9 : (h53 ++ [(.inr (.long, 60) : xSh)]).length = q + 55 := by rw [List.length_append, hl]; rfl
  have ht_0 : (h53 ++ [(.inr (.long, 60) : xSh)])[q]? = some (.inl 12) := by rw [List.getElem?_append_left (by rw [hl]; exact Nat.lt_add_of_pos_right (by decide))]; exact hs_0
  rw [hl]
  obtain ⟨h54, hh54⟩ : ∃ z, z = h53 ++ [(.inr (.long, 60) : xSh)] := ⟨_, rfl⟩
  rw [← hh54] at hl9 ht_0 ⊢
  clear hl
  have hl := hl9
  clear hl9
  clear hs_0
  have hs_0 := ht_0
  clear ht_0
  obtain ⟨I100, hI100⟩ : ∃ z, z = upc I99 (q + 54) (fun _ => 0) := ⟨_, rfl⟩
  rw [show upc I99 (q + 54) (fun _ => 0) = I100 from hI100.symm]
  obtain ⟨J54, hJ54⟩ : ∃ z, z = upc J53 (q + 54) (fun _ => 0) := ⟨_, rfl⟩
  rw [show upc J53 (q + 54) (fun _ => 0) = J54 from hJ54.symm]
  obtain ⟨K107, hK107⟩ : ∃ z, z = upc K106 (q + 54) (fun _ => none) := ⟨_, rfl⟩
  rw [show upc K106 (q + 54) (fun _ => none) = K107 from hK107.symm]
  refine p_putRv k128_670 hs_0 f_12_245_12 n_128_12_77 ?_
  obtain ⟨K108, hK108⟩ : ∃ z, z = sK K107 q 77 (some (q + 54)) := ⟨_, rfl⟩
  rw [show upc K107 q (upc (K107 q) 77 (some (q + 54))) = K108 from hK108.symm]
  refine p_return k128_673 rt_128 ?_
  have eI : I100 = mdlI I q := by
    rw [hI100, hI99, hI98, hI97, hI96, hI95, hI94, hI93, hI92, hI91, hI90, hI89, hI88, hI87, hI86, hI85, hI84, hI83, hI82, hI81, hI80, hI79, hI78, hI77, hI76, hI75, hI74, hI73, hI72, hI71, hI70, hI69, hI68, hI67, hI66, hI65, hI64, hI63, hI62, hI61, hI60, hI59, hI58, hI57, hI56, hI55, hI54, hI53, hI52, hI51, hI50, hI49, hI48, hI47, hI46, hI45, hI44, hI43, hI42, hI41, hI40, hI39, hI38, hI37, hI36, hI35, hI34, hI33, hI32, hI31, hI30, hI29, hI28, hI27, hI26, hI25, hI24, hI23, hI22, hI21, hI20, hI19, hI18, hI17, hI16, hI15, hI14, hI13, hI12, hI11, hI10, hI9, hI8, hI7, hI6, hI5, hI4, hI3, hI2, hI1]
    rfl
  have eJ : J54 = mdlJ J q := by
    rw [hJ54, hJ53, hJ52, hJ51, hJ50, hJ49, hJ48, hJ47, hJ46, hJ45, hJ44, hJ43, hJ42, hJ41, hJ40, hJ39, hJ38, hJ37, hJ36, hJ35, hJ34, hJ33, hJ32, hJ31, hJ30, hJ29, hJ28, hJ27, hJ26, hJ25, hJ24, hJ23, hJ22, hJ21, hJ20, hJ19, hJ18, hJ17, hJ16, hJ15, hJ14, hJ13, hJ12, hJ11, hJ10, hJ9, hJ8, hJ7, hJ6, hJ5, hJ4, hJ3, hJ2, hJ1]
    rfl
  have eK : K108 = mdlK K q := by
    rw [hK108, hK107, hK106, hK105, hK104, hK103, hK102, hK101, hK100, hK99, hK98, hK97, hK96, hK95, hK94, hK93, hK92, hK91, hK90, hK89, hK88, hK87, hK86, hK85, hK84, hK83, hK82, hK81, hK80, hK79, hK78, hK77, hK76, hK75, hK74, hK73, hK72, hK71, hK70, hK69, hK68, hK67, hK66, hK65, hK64, hK63, hK62, hK61, hK60, hK59, hK58, hK57, hK56, hK55, hK54, hK53, hK52, hK51, hK50, hK49, hK48, hK47, hK46, hK45, hK44, hK43, hK42, hK41, hK40, hK39, hK38, hK37, hK36, hK35, hK34, hK33, hK32, hK31, hK30, hK29, hK28, hK27, hK26, hK25, hK24, hK23, hK22, hK21, hK20, hK19, hK18, hK17, hK16, hK15, hK14, hK13, hK12, hK11, hK10, hK9, hK8, hK7, hK6, hK5, hK4, hK3, hK2, hK1]
    rfl
  have eH : h54 = mdlH h := by
    rw [hh54, hh53, hh52, hh51, hh50, hh49, hh48, hh47, hh46, hh45, hh44, hh43, hh42, hh41, hh40, hh39, hh38, hh37, hh36, hh35, hh34, hh33, hh32, hh31, hh30, hh29, hh28, hh27, hh26, hh25, hh24, hh23, hh22, hh21, hh20, hh19, hh18, hh17, hh16, hh15, hh14, hh13, hh12, hh11, hh10, hh9, hh8, hh7, hh6, hh5, hh4, hh3, hh2, hh1]
    rfl
  show (_, _, _, _) = (_, _, _, _)
  rw [eI, eJ, eK, eH]

