/-! the class: feed -/
theorem fd_b {p : Nat} (hp : p ≤ 127) : (nI p).toInt8.toInt32 = nI p := by
  have h : ∀ p : Fin 128, (nI p.1).toInt8.toInt32 = nI p.1 := by decide +kernel
  exact h ⟨p, by omega⟩
set_option maxRecDepth 100000 in
set_option maxHeartbeats 4000000 in
theorem C_feed {d : Nat} {I : Nat → Nat → Int32} {J : Nat → Nat → Int64} {K : Nat → Nat → Option Nat} {h : List xSh} (S : St K h) {R0 : Nat → Nat → Int32} {fd : Nat} (ht : I 27 = R0 110) (htb : I 0 4 = R0 98 16) (hfd : R0 98 16 = nI fd) (hf100 : fd ≤ 100) (v : Int32) : EvP (d + 1) 64 0 [(0, .ref (0)), (1, .int (v))] [] (I, J, K, h) (QI (fun x t => x = (feedM R0 fd v).1 ∧ ∃ I2, t = (I2, J, K, h) ∧ I2 27 = (feedM R0 fd v).2 110 ∧ I2 0 4 = (feedM R0 fd v).2 98 16 ∧ (∀ c, c ≠ 27 → c ≠ 0 → I2 c = I c) ∧ ∀ k, k ≠ 4 → I2 0 k = I 0 k)) := by
  refine p_iload_n k64_0 rfl ?_
  refine p_iconst (v := nI 0) k64_1 (by decide) ?_
  refine p_bipush (v := nI 127) k64_2 (by decide) ?_
  refine p_cS3i k64_4 c_11_101 rfl rfl rfl (Nat.le_of_ble_eq_true rfl) (C_within S (v) (nI (0)) (nI (127))) (fun x1 m1 hq => ?_)
  obtain ⟨rfl, rfl⟩ := hq
  refine p_if_neB (tgt := 13) k64_7 (by decide) (fun cq7 => ?_) (fun cq7 => ?_)
  · skip
    obtain ⟨p, hp, rfl⟩ := inB_of0 (by decide) cq7
    refine p_aload_n k64_13 rfl ?_
    refine p_getIv k64_14 (s_0 S) f_11_29_11 (htb.trans hfd) ?_
    refine p_bipush (v := nI 100) k64_17 (by decide) ?_
    refine p_icmp_ltN (tgt := 25) k64_19 (by decide) (by omega) (by omega) (fun cq19 => ?_) (fun cq19 => ?_)
    · skip
      refine p_aload_n k64_25 rfl ?_
      refine p_getRv k64_26 (s_0 S) f_11_25_11 (r_0_3 S) ?_
      refine p_aload_n k64_29 rfl ?_
      refine p_getIv k64_30 (s_0 S) f_11_29_11 (htb.trans hfd) ?_
      refine p_iload_n k64_33 rfl ?_
      refine p_i2b k64_34 ?_
      rw [fd_b hp]
      refine p_bastN k64_35 (s_27 S) (by omega) (by decide) (fd_b hp) ?_
      refine p_aload_n k64_36 rfl ?_
      refine p_dup k64_37 rfl ?_
      refine p_getIv k64_38 (s_0 S) f_11_29_11 (htb.trans hfd) ?_
      refine p_iconst (v := nI 1) k64_41 (by decide) ?_
      refine p_iaddN k64_42 ?_
      refine p_putIv k64_43 (s_0 S) g_11_29_11 n_64_11_4 ?_
      refine p_aload_n k64_46 rfl ?_
      refine p_getIv k64_47 (s_0 S) f_11_29_11 (show _ = nI (fd + 1) from rfl) ?_
      refine p_ireturn k64_50 rt_64 ?_
      rw [show feedM R0 fd (nI p) = (nI (fd + 1), s1 (s1 R0 110 fd (nI p)) 98 16 (nI (fd + 1))) from by unfold feedM; rw [if_neg (by rw [cq7]; decide), if_neg (by omega)]]
      exact ⟨rfl, _, rfl, (by show upc (I 27) fd (nI p) = upc (R0 110) fd (nI p); rw [ht]), rfl, fun c h1 h2 => (upc_ne _ _ h2).trans (upc_ne _ _ h1), fun k hk => upc_ne _ _ hk⟩
    · skip
      refine p_bipush (v := (-4)) k64_22 (by decide) ?_
      refine p_ireturn k64_24 rt_64 ?_
      rw [show feedM R0 fd (nI p) = (-4, R0) from by unfold feedM; rw [if_neg (by rw [cq7]; decide), if_pos (by omega)]]
      exact ⟨rfl, I, rfl, ht, htb, fun _ _ _ => rfl, fun _ _ => rfl⟩
  · skip
    refine p_bipush (v := (-2)) k64_10 (by decide) ?_
    refine p_ireturn k64_12 rt_64 ?_
    rw [show feedM R0 fd v = (-2, R0) from by unfold feedM; rw [if_pos cq7]]
    exact ⟨rfl, I, rfl, ht, htb, fun _ _ _ => rfl, fun _ _ => rfl⟩

