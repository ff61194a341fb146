/-! the class: own, skill, head, row, change, put, see, book -/
/-- the cells that both keep -/
def CE (I R : Nat → Nat → Int32) : Prop := (I 1 0 = R 98 0) ∧ (I 1 4 = R 98 1) ∧ (I 1 9 = R 98 2) ∧ (I 1 11 = R 98 43) ∧ (I 1 14 = R 98 47) ∧ (I 1 17 = R 98 15) ∧ (I 2 = R 99) ∧ (I 3 = R 100) ∧ (I 4 = R 101) ∧ (I 6 = R 105) ∧ (I 7 = R 107) ∧ (I 8 = R 108) ∧ (I 9 = R 109) ∧ (I 10 = R 128) ∧ (I 11 = R 129) ∧ (I 12 = R 131) ∧ (I 13 = R 132)
theorem CE.heads {I R : Nat → Nat → Int32} (M : CE I R) : I 1 0 = R 98 0 := M.1
theorem CE.hats {I R : Nat → Nat → Int32} (M : CE I R) : I 1 4 = R 98 1 := M.2.1
theorem CE.day {I R : Nat → Nat → Int32} (M : CE I R) : I 1 9 = R 98 2 := M.2.2.1
theorem CE.seen {I R : Nat → Nat → Int32} (M : CE I R) : I 1 11 = R 98 43 := M.2.2.2.1
theorem CE.booked {I R : Nat → Nat → Int32} (M : CE I R) : I 1 14 = R 98 47 := M.2.2.2.2.1
theorem CE.town {I R : Nat → Nat → Int32} (M : CE I R) : I 1 17 = R 98 15 := M.2.2.2.2.2.1
theorem CE.a2 {I R : Nat → Nat → Int32} (M : CE I R) : I 2 = R 99 := M.2.2.2.2.2.2.1
theorem CE.a3 {I R : Nat → Nat → Int32} (M : CE I R) : I 3 = R 100 := M.2.2.2.2.2.2.2.1
theorem CE.a4 {I R : Nat → Nat → Int32} (M : CE I R) : I 4 = R 101 := M.2.2.2.2.2.2.2.2.1
theorem CE.a6 {I R : Nat → Nat → Int32} (M : CE I R) : I 6 = R 105 := M.2.2.2.2.2.2.2.2.2.1
theorem CE.a7 {I R : Nat → Nat → Int32} (M : CE I R) : I 7 = R 107 := M.2.2.2.2.2.2.2.2.2.2.1
theorem CE.a8 {I R : Nat → Nat → Int32} (M : CE I R) : I 8 = R 108 := M.2.2.2.2.2.2.2.2.2.2.2.1
theorem CE.a9 {I R : Nat → Nat → Int32} (M : CE I R) : I 9 = R 109 := M.2.2.2.2.2.2.2.2.2.2.2.2.1
theorem CE.a10 {I R : Nat → Nat → Int32} (M : CE I R) : I 10 = R 128 := M.2.2.2.2.2.2.2.2.2.2.2.2.2.1
theorem CE.a11 {I R : Nat → Nat → Int32} (M : CE I R) : I 11 = R 129 := M.2.2.2.2.2.2.2.2.2.2.2.2.2.2.1
theorem CE.a12 {I R : Nat → Nat → Int32} (M : CE I R) : I 12 = R 131 := M.2.2.2.2.2.2.2.2.2.2.2.2.2.2.2.1
theorem CE.a13 {I R : Nat → Nat → Int32} (M : CE I R) : I 13 = R 132 := M.2.2.2.2.2.2.2.2.2.2.2.2.2.2.2.2
theorem CR.ce {I R : Nat → Nat → Int32} {K : Nat → Nat → Option Nat} {h : List xSh} {na tw : Nat} (C : CR I K h R na tw) : CE I R := ⟨C.heads, C.hats, C.day, C.seen, C.booked, C.town, C.a2, C.a3, C.a4, C.a6, C.a7, C.a8, C.a9, C.a10, C.a11, C.a12, C.a13⟩
theorem CE.sc0 {I R : Nat → Nat → Int32} (E : CE I R) (v : Int32) : CE (s1 I 1 0 v) (s1 R 98 0 v) := ⟨rfl, E.hats, E.day, E.seen, E.booked, E.town, E.a2, E.a3, E.a4, E.a6, E.a7, E.a8, E.a9, E.a10, E.a11, E.a12, E.a13⟩
theorem CE.sc4 {I R : Nat → Nat → Int32} (E : CE I R) (v : Int32) : CE (s1 I 1 4 v) (s1 R 98 1 v) := ⟨E.heads, rfl, E.day, E.seen, E.booked, E.town, E.a2, E.a3, E.a4, E.a6, E.a7, E.a8, E.a9, E.a10, E.a11, E.a12, E.a13⟩
theorem CE.sc9 {I R : Nat → Nat → Int32} (E : CE I R) (v : Int32) : CE (s1 I 1 9 v) (s1 R 98 2 v) := ⟨E.heads, E.hats, rfl, E.seen, E.booked, E.town, E.a2, E.a3, E.a4, E.a6, E.a7, E.a8, E.a9, E.a10, E.a11, E.a12, E.a13⟩
theorem CE.sc11 {I R : Nat → Nat → Int32} (E : CE I R) (v : Int32) : CE (s1 I 1 11 v) (s1 R 98 43 v) := ⟨E.heads, E.hats, E.day, rfl, E.booked, E.town, E.a2, E.a3, E.a4, E.a6, E.a7, E.a8, E.a9, E.a10, E.a11, E.a12, E.a13⟩
theorem CE.sc14 {I R : Nat → Nat → Int32} (E : CE I R) (v : Int32) : CE (s1 I 1 14 v) (s1 R 98 47 v) := ⟨E.heads, E.hats, E.day, E.seen, rfl, E.town, E.a2, E.a3, E.a4, E.a6, E.a7, E.a8, E.a9, E.a10, E.a11, E.a12, E.a13⟩
theorem CE.sc17 {I R : Nat → Nat → Int32} (E : CE I R) (v : Int32) : CE (s1 I 1 17 v) (s1 R 98 15 v) := ⟨E.heads, E.hats, E.day, E.seen, E.booked, rfl, E.a2, E.a3, E.a4, E.a6, E.a7, E.a8, E.a9, E.a10, E.a11, E.a12, E.a13⟩
theorem CE.ar2 {I R : Nat → Nat → Int32} (E : CE I R) (i : Nat) (v : Int32) : CE (s1 I 2 i v) (s1 R 99 i v) := ⟨E.heads, E.hats, E.day, E.seen, E.booked, E.town, (by show upc (I 2) i v = upc (R 99) i v; rw [E.a2]), E.a3, E.a4, E.a6, E.a7, E.a8, E.a9, E.a10, E.a11, E.a12, E.a13⟩
theorem CE.ar3 {I R : Nat → Nat → Int32} (E : CE I R) (i : Nat) (v : Int32) : CE (s1 I 3 i v) (s1 R 100 i v) := ⟨E.heads, E.hats, E.day, E.seen, E.booked, E.town, E.a2, (by show upc (I 3) i v = upc (R 100) i v; rw [E.a3]), E.a4, E.a6, E.a7, E.a8, E.a9, E.a10, E.a11, E.a12, E.a13⟩
theorem CE.ar4 {I R : Nat → Nat → Int32} (E : CE I R) (i : Nat) (v : Int32) : CE (s1 I 4 i v) (s1 R 101 i v) := ⟨E.heads, E.hats, E.day, E.seen, E.booked, E.town, E.a2, E.a3, (by show upc (I 4) i v = upc (R 101) i v; rw [E.a4]), E.a6, E.a7, E.a8, E.a9, E.a10, E.a11, E.a12, E.a13⟩
theorem CE.ar6 {I R : Nat → Nat → Int32} (E : CE I R) (i : Nat) (v : Int32) : CE (s1 I 6 i v) (s1 R 105 i v) := ⟨E.heads, E.hats, E.day, E.seen, E.booked, E.town, E.a2, E.a3, E.a4, (by show upc (I 6) i v = upc (R 105) i v; rw [E.a6]), E.a7, E.a8, E.a9, E.a10, E.a11, E.a12, E.a13⟩
theorem CE.ar7 {I R : Nat → Nat → Int32} (E : CE I R) (i : Nat) (v : Int32) : CE (s1 I 7 i v) (s1 R 107 i v) := ⟨E.heads, E.hats, E.day, E.seen, E.booked, E.town, E.a2, E.a3, E.a4, E.a6, (by show upc (I 7) i v = upc (R 107) i v; rw [E.a7]), E.a8, E.a9, E.a10, E.a11, E.a12, E.a13⟩
theorem CE.ar8 {I R : Nat → Nat → Int32} (E : CE I R) (i : Nat) (v : Int32) : CE (s1 I 8 i v) (s1 R 108 i v) := ⟨E.heads, E.hats, E.day, E.seen, E.booked, E.town, E.a2, E.a3, E.a4, E.a6, E.a7, (by show upc (I 8) i v = upc (R 108) i v; rw [E.a8]), E.a9, E.a10, E.a11, E.a12, E.a13⟩
theorem CE.ar9 {I R : Nat → Nat → Int32} (E : CE I R) (i : Nat) (v : Int32) : CE (s1 I 9 i v) (s1 R 109 i v) := ⟨E.heads, E.hats, E.day, E.seen, E.booked, E.town, E.a2, E.a3, E.a4, E.a6, E.a7, E.a8, (by show upc (I 9) i v = upc (R 109) i v; rw [E.a9]), E.a10, E.a11, E.a12, E.a13⟩
theorem CE.ar10 {I R : Nat → Nat → Int32} (E : CE I R) (i : Nat) (v : Int32) : CE (s1 I 10 i v) (s1 R 128 i v) := ⟨E.heads, E.hats, E.day, E.seen, E.booked, E.town, E.a2, E.a3, E.a4, E.a6, E.a7, E.a8, E.a9, (by show upc (I 10) i v = upc (R 128) i v; rw [E.a10]), E.a11, E.a12, E.a13⟩
theorem CE.ar11 {I R : Nat → Nat → Int32} (E : CE I R) (i : Nat) (v : Int32) : CE (s1 I 11 i v) (s1 R 129 i v) := ⟨E.heads, E.hats, E.day, E.seen, E.booked, E.town, E.a2, E.a3, E.a4, E.a6, E.a7, E.a8, E.a9, E.a10, (by show upc (I 11) i v = upc (R 129) i v; rw [E.a11]), E.a12, E.a13⟩
theorem CE.ar12 {I R : Nat → Nat → Int32} (E : CE I R) (i : Nat) (v : Int32) : CE (s1 I 12 i v) (s1 R 131 i v) := ⟨E.heads, E.hats, E.day, E.seen, E.booked, E.town, E.a2, E.a3, E.a4, E.a6, E.a7, E.a8, E.a9, E.a10, E.a11, (by show upc (I 12) i v = upc (R 131) i v; rw [E.a12]), E.a13⟩
theorem CE.ar13 {I R : Nat → Nat → Int32} (E : CE I R) (i : Nat) (v : Int32) : CE (s1 I 13 i v) (s1 R 132 i v) := ⟨E.heads, E.hats, E.day, E.seen, E.booked, E.town, E.a2, E.a3, E.a4, E.a6, E.a7, E.a8, E.a9, E.a10, E.a11, E.a12, (by show upc (I 13) i v = upc (R 132) i v; rw [E.a13])⟩
/-- what a call on the scene leaves as it was -/
def FRC (I I2 : Nat → Nat → Int32) : Prop := (∀ c, c = 0 ∨ 13 < c → I2 c = I c) ∧ ∀ k, k ≠ 0 → k ≠ 4 → k ≠ 9 → k ≠ 11 → k ≠ 14 → k ≠ 17 → I2 1 k = I 1 k
theorem FRC.refl (I : Nat → Nat → Int32) : FRC I I := ⟨fun _ _ => rfl, fun _ _ _ _ _ _ _ => rfl⟩
theorem FRC.ar {I I2 : Nat → Nat → Int32} (H : FRC I I2) {c : Nat} (hc : 1 < c ∧ c < 14) (i : Nat) (v : Int32) : FRC I (s1 I2 c i v) := ⟨fun x hx => (upc_ne _ _ (by omega)).trans (H.1 x hx), fun k h1 h2 h3 h4 h5 h6 => (congrFun (upc_ne I2 _ (show 1 ≠ c by omega)) k).trans (H.2 k h1 h2 h3 h4 h5 h6)⟩
theorem FRC.sc {I I2 : Nat → Nat → Int32} (H : FRC I I2) {k : Nat} (hk : k = 0 ∨ k = 4 ∨ k = 9 ∨ k = 11 ∨ k = 14 ∨ k = 17) (v : Int32) : FRC I (s1 I2 1 k v) := ⟨fun x hx => (upc_ne _ _ (by omega)).trans (H.1 x hx), fun x h1 h2 h3 h4 h5 h6 => by
  unfold s1
  rw [upc_eq, upc_ne _ _ (by omega)]
  exact H.2 x h1 h2 h3 h4 h5 h6⟩
set_option maxRecDepth 100000 in
set_option maxHeartbeats 4000000 in
theorem C_own {d : Nat} {I : Nat → Nat → Int32} {J : Nat → Nat → Int64} {K : Nat → Nat → Option Nat} {h : List xSh} (S : St K h) {R0 : Nat → Nat → Int32} {nh na dd cb ce tw : Nat} (C : CR I K h R0 na tw) (M : MI R0 nh na dd cb ce) (Q : AR R0 nh na dd) (v w : Int32) : EvP (d + 1) 62 0 [(0, .ref (0)), (1, .int (v)), (2, .int (w))] [] (I, J, K, h) (QI (fun x t => x = (ownM R0 nh na v w).1 ∧ ∃ I2, t = (I2, J, K, h) ∧ CE I2 (ownM R0 nh na v w).2 ∧ FRC I I2)) := by
  have hnh6 := M.nh6
  have hna6 := M.na6
  refine p_aload_n k62_0 rfl ?_
  refine p_getRv k62_1 (s_0 S) f_11_14_11 (r_0_0 S) ?_
  refine p_iload_n k62_4 rfl ?_
  refine p_cV1i k62_5 (s_1 S) c_11_173_3 rfl (Nat.le_of_ble_eq_true rfl) (C_isHead S (n := nh) (C.heads.trans M.nh) hnh6 (v)) (fun x1 m1 hq => ?_)
  obtain ⟨rfl, rfl⟩ := hq
  refine p_if_eqB (tgt := 27) k62_8 (by decide) (fun cq8 => ?_) (fun cq8 => ?_)
  · skip
    refine p_iconst (v := (-1)) k62_27 (by decide) ?_
    refine p_ireturn k62_28 rt_62 ?_
    rw [show ownM R0 nh na v w = (-1, R0) from by unfold ownM; first | rw [if_pos cq8] | rw [if_neg (by rw [cq8]; decide), if_neg (fun z => z.elim cq13 (fun z => by rw [cq24] at z; cases z))]]
    exact ⟨rfl, _, rfl, C.ce, FRC.refl I⟩
  · skip
    refine p_iload_n k62_11 rfl ?_
    refine p_iconst (v := (-1)) k62_12 (by decide) ?_
    refine p_icmp_eq (tgt := 29) k62_13 (by decide) (fun cq13 => ?_) (fun cq13 => ?_)
    · skip
      obtain ⟨i, hi, rfl⟩ := ixB_of (n := nh) (by omega) cq8
      have hci := nI_clamp (n := i) (by omega)
      refine p_aload_n k62_29 rfl ?_
      refine p_getRv k62_30 (s_0 S) f_11_14_11 (r_0_0 S) ?_
      refine p_getRv k62_33 (s_1 S) f_11_95_3 (r_1_2 S) ?_
      refine p_iload_n k62_36 rfl ?_
      refine p_ialdN k62_37 (s_3 S) (by omega) (by decide) (congrFun C.a3 i) ?_
      refine p_istore_n (ls' := [(0, _), (1, _), (2, _), (3, _)]) k62_38 rfl ?_
      refine p_aload_n k62_39 rfl ?_
      refine p_getRv k62_40 (s_0 S) f_11_14_11 (r_0_0 S) ?_
      refine p_getRv k62_43 (s_1 S) f_11_95_3 (r_1_2 S) ?_
      refine p_iload_n k62_46 rfl ?_
      refine p_iload_n k62_47 rfl ?_
      refine p_iastN k62_48 (s_3 S) (by omega) (by decide) ?_
      refine p_iload_n k62_49 rfl ?_
      refine p_cS1i k62_50 c_11_170 rfl (Nat.le_of_ble_eq_true rfl) (C_orNotAny S (_)) (fun x1 m1 hq => ?_)
      obtain ⟨rfl, rfl⟩ := hq
      refine p_ireturn k62_53 rt_62 ?_
      rw [show ownM R0 nh na (nI i) w = (orN (R0 100 i), s1 R0 100 i w) from by unfold ownM; rw [if_neg (by rw [cq8]; decide), hci, if_pos (by first | exact Or.inl cq13 | exact Or.inr cq24)]]
      exact ⟨orA_N (Q.ownO M.na6 hi), _, rfl, C.ce.ar3 i w, (FRC.refl I).ar (by decide) i w⟩
    · skip
      refine p_aload_n k62_16 rfl ?_
      refine p_getRv k62_17 (s_0 S) f_11_14_11 (r_0_0 S) ?_
      refine p_iload_n k62_20 rfl ?_
      refine p_cV1i k62_21 (s_1 S) c_11_151_3 rfl (Nat.le_of_ble_eq_true rfl) (C_isHat S (n := na) (C.hats.trans M.na) hna6 (w)) (fun x1 m1 hq => ?_)
      obtain ⟨rfl, rfl⟩ := hq
      refine p_if_neB (tgt := 29) k62_24 (by decide) (fun cq24 => ?_) (fun cq24 => ?_)
      · skip
        obtain ⟨i, hi, rfl⟩ := ixB_of (n := nh) (by omega) cq8
        have hci := nI_clamp (n := i) (by omega)
        refine p_aload_n k62_29 rfl ?_
        refine p_getRv k62_30 (s_0 S) f_11_14_11 (r_0_0 S) ?_
        refine p_getRv k62_33 (s_1 S) f_11_95_3 (r_1_2 S) ?_
        refine p_iload_n k62_36 rfl ?_
        refine p_ialdN k62_37 (s_3 S) (by omega) (by decide) (congrFun C.a3 i) ?_
        refine p_istore_n (ls' := [(0, _), (1, _), (2, _), (3, _)]) k62_38 rfl ?_
        refine p_aload_n k62_39 rfl ?_
        refine p_getRv k62_40 (s_0 S) f_11_14_11 (r_0_0 S) ?_
        refine p_getRv k62_43 (s_1 S) f_11_95_3 (r_1_2 S) ?_
        refine p_iload_n k62_46 rfl ?_
        refine p_iload_n k62_47 rfl ?_
        refine p_iastN k62_48 (s_3 S) (by omega) (by decide) ?_
        refine p_iload_n k62_49 rfl ?_
        refine p_cS1i k62_50 c_11_170 rfl (Nat.le_of_ble_eq_true rfl) (C_orNotAny S (_)) (fun x1 m1 hq => ?_)
        obtain ⟨rfl, rfl⟩ := hq
        refine p_ireturn k62_53 rt_62 ?_
        rw [show ownM R0 nh na (nI i) w = (orN (R0 100 i), s1 R0 100 i w) from by unfold ownM; rw [if_neg (by rw [cq8]; decide), hci, if_pos (by first | exact Or.inl cq13 | exact Or.inr cq24)]]
        exact ⟨orA_N (Q.ownO M.na6 hi), _, rfl, C.ce.ar3 i w, (FRC.refl I).ar (by decide) i w⟩
      · skip
        refine p_iconst (v := (-1)) k62_27 (by decide) ?_
        refine p_ireturn k62_28 rt_62 ?_
        rw [show ownM R0 nh na v w = (-1, R0) from by unfold ownM; first | rw [if_pos cq8] | rw [if_neg (by rw [cq8]; decide), if_neg (fun z => z.elim cq13 (fun z => by rw [cq24] at z; cases z))]]
        exact ⟨rfl, _, rfl, C.ce, FRC.refl I⟩

set_option maxRecDepth 100000 in
set_option maxHeartbeats 4000000 in
theorem C_skill {d : Nat} {I : Nat → Nat → Int32} {J : Nat → Nat → Int64} {K : Nat → Nat → Option Nat} {h : List xSh} (S : St K h) {R0 : Nat → Nat → Int32} {nh na dd cb ce tw : Nat} (C : CR I K h R0 na tw) (M : MI R0 nh na dd cb ce) (Q : AR R0 nh na dd) (v w : Int32) : EvP (d + 1) 63 0 [(0, .ref (0)), (1, .int (v)), (2, .int (w))] [] (I, J, K, h) (QI (fun x t => x = (skillM R0 na v w).1 ∧ ∃ I2, t = (I2, J, K, h) ∧ CE I2 (skillM R0 na v w).2 ∧ FRC I I2)) := by
  have hnh6 := M.nh6
  have hna6 := M.na6
  refine p_aload_n k63_0 rfl ?_
  refine p_getRv k63_1 (s_0 S) f_11_14_11 (r_0_0 S) ?_
  refine p_iload_n k63_4 rfl ?_
  refine p_cV1i k63_5 (s_1 S) c_11_151_3 rfl (Nat.le_of_ble_eq_true rfl) (C_isHat S (n := na) (C.hats.trans M.na) hna6 (v)) (fun x1 m1 hq => ?_)
  obtain ⟨rfl, rfl⟩ := hq
  refine p_if_neB (tgt := 13) k63_8 (by decide) (fun cq8 => ?_) (fun cq8 => ?_)
  · skip
    refine p_iload_n k63_13 rfl ?_
    refine p_iconst (v := nI 0) k63_14 (by decide) ?_
    refine p_bipush (v := nI 50) k63_15 (by decide) ?_
    refine p_cS3i k63_17 c_11_101 rfl rfl rfl (Nat.le_of_ble_eq_true rfl) (C_within S (w) (nI (0)) (nI (50))) (fun x1 m1 hq => ?_)
    obtain ⟨rfl, rfl⟩ := hq
    refine p_if_neB (tgt := 26) k63_20 (by decide) (fun cq20 => ?_) (fun cq20 => ?_)
    · skip
      obtain ⟨i, hi, rfl⟩ := ixB_of (n := na) (by omega) cq8
      have hci := nI_clamp (n := i) (by omega)
      refine p_aload_n k63_26 rfl ?_
      refine p_getRv k63_27 (s_0 S) f_11_14_11 (r_0_0 S) ?_
      refine p_getRv k63_30 (s_1 S) f_11_119_3 (r_1_6 S) ?_
      refine p_iload_n k63_33 rfl ?_
      refine p_ialdN k63_34 (s_6 S) (by omega) (by decide) (congrFun C.a6 i) ?_
      refine p_istore_n (ls' := [(0, _), (1, _), (2, _), (3, _)]) k63_35 rfl ?_
      refine p_aload_n k63_36 rfl ?_
      refine p_getRv k63_37 (s_0 S) f_11_14_11 (r_0_0 S) ?_
      refine p_getRv k63_40 (s_1 S) f_11_119_3 (r_1_6 S) ?_
      refine p_iload_n k63_43 rfl ?_
      refine p_iload_n k63_44 rfl ?_
      refine p_iastN k63_45 (s_6 S) (by omega) (by decide) ?_
      refine p_iload_n k63_46 rfl ?_
      refine p_ireturn k63_47 rt_63 ?_
      rw [show skillM R0 na (nI i) w = (R0 105 i, s1 R0 105 i w) from by unfold skillM; rw [if_neg (by rw [cq8]; decide), if_neg (by rw [cq20]; decide), hci]]
      exact ⟨rfl, _, rfl, C.ce.ar6 i w, (FRC.refl I).ar (by decide) i w⟩
    · skip
      refine p_bipush (v := (-2)) k63_23 (by decide) ?_
      refine p_ireturn k63_25 rt_63 ?_
      rw [show skillM R0 na v w = (-2, R0) from by unfold skillM; rw [if_neg (by rw [cq8]; decide), if_pos cq20]]
      exact ⟨rfl, _, rfl, C.ce, FRC.refl I⟩
  · skip
    refine p_iconst (v := (-1)) k63_11 (by decide) ?_
    refine p_ireturn k63_12 rt_63 ?_
    rw [show skillM R0 na v w = (-1, R0) from by unfold skillM; rw [if_pos cq8]]
    exact ⟨rfl, _, rfl, C.ce, FRC.refl I⟩

set_option maxRecDepth 100000 in
set_option maxHeartbeats 4000000 in
theorem C_head {d : Nat} {I : Nat → Nat → Int32} {J : Nat → Nat → Int64} {K : Nat → Nat → Option Nat} {h : List xSh} (S : St K h) {R0 : Nat → Nat → Int32} {nh na dd cb ce tw : Nat} (C : CR I K h R0 na tw) (M : MI R0 nh na dd cb ce) (Q : AR R0 nh na dd) (v : Int32) : EvP (d + 2) 55 0 [(0, .ref (0)), (1, .int (v))] [] (I, J, K, h) (QI (fun x t => x = (headM R0 nh v).1 ∧ ∃ I2, t = (I2, J, K, h) ∧ CE I2 (headM R0 nh v).2 ∧ FRC I I2)) := by
  have hnh6 := M.nh6
  have hna6 := M.na6
  refine p_iload_n k55_0 rfl ?_
  refine p_cS1i k55_1 c_11_85 rfl (Nat.le_of_ble_eq_true rfl) (C_isDigit S (v)) (fun x1 m1 hq => ?_)
  obtain ⟨rfl, rfl⟩ := hq
  refine p_if_neB (tgt := 10) k55_4 (by decide) (fun cq4 => ?_) (fun cq4 => ?_)
  · skip
    refine p_aload_n k55_10 rfl ?_
    refine p_getRv k55_11 (s_0 S) f_11_14_11 (r_0_0 S) ?_
    refine p_getIv k55_14 (s_1 S) f_11_89_3 (C.heads.trans M.nh) ?_
    refine p_bipush (v := nI 6) k55_17 (by decide) ?_
    refine p_icmp_ltN (tgt := 25) k55_19 (by decide) (by omega) (by omega) (fun cq19 => ?_) (fun cq19 => ?_)
    · skip
      refine p_aload_n k55_25 rfl ?_
      refine p_getRv k55_26 (s_0 S) f_11_14_11 (r_0_0 S) ?_
      refine p_getIv k55_29 (s_1 S) f_11_89_3 (C.heads.trans M.nh) ?_
      refine p_istore_n (ls' := [(0, _), (1, _), (2, _)]) k55_32 rfl ?_
      refine p_aload_n k55_33 rfl ?_
      refine p_getRv k55_34 (s_0 S) f_11_14_11 (r_0_0 S) ?_
      refine p_getRv k55_37 (s_1 S) f_11_92_3 (r_1_1 S) ?_
      refine p_iload_n k55_40 rfl ?_
      refine p_iload_n k55_41 rfl ?_
      refine p_iastN k55_42 (s_2 S) (by omega) (by decide) ?_
      refine p_aload_n k55_43 rfl ?_
      refine p_getRv k55_44 (s_0 S) f_11_14_11 (r_0_0 S) ?_
      refine p_getRv k55_47 (s_1 S) f_11_95_3 (r_1_2 S) ?_
      refine p_iload_n k55_50 rfl ?_
      refine p_iconst (v := (-1)) k55_51 (by decide) ?_
      refine p_iastN k55_52 (s_3 S) (by omega) (by decide) ?_
      refine p_aload_n k55_53 rfl ?_
      refine p_getRv k55_54 (s_0 S) f_11_14_11 (r_0_0 S) ?_
      refine p_getRv k55_57 (s_1 S) f_11_98_3 (r_1_3 S) ?_
      refine p_iload_n k55_60 rfl ?_
      refine p_iconst (v := (-1)) k55_61 (by decide) ?_
      refine p_iastN k55_62 (s_4 S) (by omega) (by decide) ?_
      refine p_aload_n k55_63 rfl ?_
      refine p_getRv k55_64 (s_0 S) f_11_14_11 (r_0_0 S) ?_
      refine p_dup k55_67 rfl ?_
      refine p_getIv k55_68 (s_1 S) f_11_89_3 (C.heads.trans M.nh) ?_
      refine p_iconst (v := nI 1) k55_71 (by decide) ?_
      refine p_iaddN k55_72 ?_
      refine p_putIv k55_73 (s_1 S) g_11_89_3 n_55_3_0 ?_
      refine p_iload_n k55_76 rfl ?_
      refine p_ireturn k55_77 rt_55 ?_
      rw [show headM R0 nh v = (nI nh, s1 (s1 (s1 (s1 R0 99 nh v) 100 nh (-1)) 101 nh (-1)) 98 0 (nI (nh + 1))) from by unfold headM; rw [if_neg (by rw [cq4]; decide), if_neg (by omega)]]
      exact ⟨rfl, _, rfl, (((C.ce.ar2 nh v).ar3 nh (-1)).ar4 nh (-1)).sc0 (nI (nh + 1)), ((((FRC.refl I).ar (by decide) nh v).ar (by decide) nh (-1)).ar (by decide) nh (-1)).sc (Or.inl rfl) _⟩
    · skip
      refine p_bipush (v := (-4)) k55_22 (by decide) ?_
      refine p_ireturn k55_24 rt_55 ?_
      rw [show headM R0 nh v = (-4, R0) from by unfold headM; rw [if_neg (by rw [cq4]; decide), if_pos (by omega)]]
      exact ⟨rfl, _, rfl, C.ce, FRC.refl I⟩
  · skip
    refine p_bipush (v := (-2)) k55_7 (by decide) ?_
    refine p_ireturn k55_9 rt_55 ?_
    rw [show headM R0 nh v = (-2, R0) from by unfold headM; rw [if_pos cq4]]
    exact ⟨rfl, _, rfl, C.ce, FRC.refl I⟩

set_option maxRecDepth 100000 in
set_option maxHeartbeats 4000000 in
theorem C_change {d : Nat} {I : Nat → Nat → Int32} {J : Nat → Nat → Int64} {K : Nat → Nat → Option Nat} {h : List xSh} (S : St K h) {R0 : Nat → Nat → Int32} {nh na dd cb ce tw : Nat} (C : CR I K h R0 na tw) (M : MI R0 nh na dd cb ce) (Q : AR R0 nh na dd) (v w : Int32) : EvP (d + 1) 69 0 [(0, .ref (0)), (1, .int (v)), (2, .int (w))] [] (I, J, K, h) (QI (fun x t => x = (changeM R0 nh v w).1 ∧ ∃ I2, t = (I2, J, K, h) ∧ CE I2 (changeM R0 nh v w).2 ∧ FRC I I2)) := by
  have hnh6 := M.nh6
  have hna6 := M.na6
  refine p_aload_n k69_0 rfl ?_
  refine p_getRv k69_1 (s_0 S) f_11_14_11 (r_0_0 S) ?_
  refine p_iload_n k69_4 rfl ?_
  refine p_cV1i k69_5 (s_1 S) c_11_173_3 rfl (Nat.le_of_ble_eq_true rfl) (C_isHead S (n := nh) (C.heads.trans M.nh) hnh6 (v)) (fun x1 m1 hq => ?_)
  obtain ⟨rfl, rfl⟩ := hq
  refine p_if_eqB (tgt := 22) k69_8 (by decide) (fun cq8 => ?_) (fun cq8 => ?_)
  · skip
    refine p_iconst (v := (-1)) k69_22 (by decide) ?_
    refine p_ireturn k69_23 rt_69 ?_
    rw [show changeM R0 nh v w = (-1, R0) from by unfold changeM; rw [if_pos (by first | exact Or.inl cq8 | exact Or.inr cq19)]]
    exact ⟨rfl, _, rfl, C.ce, FRC.refl I⟩
  · skip
    refine p_aload_n k69_11 rfl ?_
    refine p_getRv k69_12 (s_0 S) f_11_14_11 (r_0_0 S) ?_
    refine p_iload_n k69_15 rfl ?_
    refine p_cV1i k69_16 (s_1 S) c_11_173_3 rfl (Nat.le_of_ble_eq_true rfl) (C_isHead S (n := nh) (C.heads.trans M.nh) hnh6 (w)) (fun x1 m1 hq => ?_)
    obtain ⟨rfl, rfl⟩ := hq
    refine p_if_neB (tgt := 24) k69_19 (by decide) (fun cq19 => ?_) (fun cq19 => ?_)
    · skip
      obtain ⟨i, hi, rfl⟩ := ixB_of (n := nh) (by omega) cq8
      have hci := nI_clamp (n := i) (by omega)
      obtain ⟨j, hj, rfl⟩ := ixB_of (n := nh) (by omega) cq19
      have hcj := nI_clamp (n := j) (by omega)
      refine p_iload_n k69_24 rfl ?_
      refine p_iload_n k69_25 rfl ?_
      refine p_icmp_ne (tgt := 32) k69_26 (by decide) (fun cq26 => ?_) (fun cq26 => ?_)
      · skip
        refine p_aload_n k69_32 rfl ?_
        refine p_getRv k69_33 (s_0 S) f_11_14_11 (r_0_0 S) ?_
        refine p_getRv k69_36 (s_1 S) f_11_98_3 (r_1_3 S) ?_
        refine p_iload_n k69_39 rfl ?_
        refine p_ialdN k69_40 (s_4 S) (by omega) (by decide) (congrFun C.a4 i) ?_
        refine p_istore_n (ls' := [(0, _), (1, _), (2, _), (3, _)]) k69_41 rfl ?_
        refine p_aload_n k69_42 rfl ?_
        refine p_getRv k69_43 (s_0 S) f_11_14_11 (r_0_0 S) ?_
        refine p_getRv k69_46 (s_1 S) f_11_98_3 (r_1_3 S) ?_
        refine p_iload_n k69_49 rfl ?_
        refine p_aload_n k69_50 rfl ?_
        refine p_getRv k69_51 (s_0 S) f_11_14_11 (r_0_0 S) ?_
        refine p_getRv k69_54 (s_1 S) f_11_98_3 (r_1_3 S) ?_
        refine p_iload_n k69_57 rfl ?_
        refine p_ialdN k69_58 (s_4 S) (by omega) (by decide) (congrFun C.a4 j) ?_
        refine p_iastN k69_59 (s_4 S) (by omega) (by decide) ?_
        refine p_aload_n k69_60 rfl ?_
        refine p_getRv k69_61 (s_0 S) f_11_14_11 (r_0_0 S) ?_
        refine p_getRv k69_64 (s_1 S) f_11_98_3 (r_1_3 S) ?_
        refine p_iload_n k69_67 rfl ?_
        refine p_iload_n k69_68 rfl ?_
        refine p_iastN k69_69 (s_4 S) (by omega) (by decide) ?_
        refine p_iconst (v := nI 1) k69_70 (by decide) ?_
        refine p_ireturn k69_71 rt_69 ?_
        rw [show changeM R0 nh (nI i) (nI j) = (nI 1, s1 (s1 R0 101 i (R0 101 j)) 101 j (R0 101 i)) from by unfold changeM; rw [if_neg (fun z => z.elim (fun z => by rw [cq8] at z; cases z) (fun z => by rw [cq19] at z; cases z)), if_neg cq26, hci, hcj]; rfl]
        exact ⟨rfl, _, rfl, (C.ce.ar4 i _).ar4 j _, ((FRC.refl I).ar (by decide) i _).ar (by decide) j _⟩
      · skip
        refine p_bipush (v := (-2)) k69_29 (by decide) ?_
        refine p_ireturn k69_31 rt_69 ?_
        rw [show changeM R0 nh (nI i) (nI j) = (-2, R0) from by unfold changeM; rw [if_neg (fun z => z.elim (fun z => by rw [cq8] at z; cases z) (fun z => by rw [cq19] at z; cases z)), if_pos cq26]]
        exact ⟨rfl, _, rfl, C.ce, FRC.refl I⟩
    · skip
      refine p_iconst (v := (-1)) k69_22 (by decide) ?_
      refine p_ireturn k69_23 rt_69 ?_
      rw [show changeM R0 nh v w = (-1, R0) from by unfold changeM; rw [if_pos (by first | exact Or.inl cq8 | exact Or.inr cq19)]]
      exact ⟨rfl, _, rfl, C.ce, FRC.refl I⟩

set_option maxRecDepth 100000 in
set_option maxHeartbeats 4000000 in
theorem C_see {d : Nat} {I : Nat → Nat → Int32} {J : Nat → Nat → Int64} {K : Nat → Nat → Option Nat} {h : List xSh} (S : St K h) {R0 : Nat → Nat → Int32} {nh na dd cb ce tw : Nat} (C : CR I K h R0 na tw) (M : MI R0 nh na dd cb ce) (Q : AR R0 nh na dd) {sn : Nat} (hsn : R0 98 43 = nI sn) (hsn6 : sn ≤ 6) (v w : Int32) : EvP (d + 1) 83 0 [(0, .ref (0)), (1, .int (v)), (2, .int (w))] [] (I, J, K, h) (QI (fun x t => x = (seeM R0 na sn v w).1 ∧ ∃ I2, t = (I2, J, K, h) ∧ CE I2 (seeM R0 na sn v w).2 ∧ FRC I I2)) := by
  have hnh6 := M.nh6
  have hna6 := M.na6
  refine p_iload_n k83_0 rfl ?_
  refine p_iconst (v := (-1)) k83_1 (by decide) ?_
  refine p_icmp_ne (tgt := 15) k83_2 (by decide) (fun cq2 => ?_) (fun cq2 => ?_)
  · skip
    refine p_aload_n k83_15 rfl ?_
    refine p_getRv k83_16 (s_0 S) f_11_14_11 (r_0_0 S) ?_
    refine p_iload_n k83_19 rfl ?_
    refine p_cV1i k83_20 (s_1 S) c_11_151_3 rfl (Nat.le_of_ble_eq_true rfl) (C_isHat S (n := na) (C.hats.trans M.na) hna6 (v)) (fun x1 m1 hq => ?_)
    obtain ⟨rfl, rfl⟩ := hq
    refine p_if_neB (tgt := 28) k83_23 (by decide) (fun cq23 => ?_) (fun cq23 => ?_)
    · skip
      refine p_iload_n k83_28 rfl ?_
      refine p_iconst (v := nI 0) k83_29 (by decide) ?_
      refine p_sipush (v := nI 999) k83_30 (by decide) ?_
      refine p_cS3i k83_33 c_11_101 rfl rfl rfl (Nat.le_of_ble_eq_true rfl) (C_within S (w) (nI (0)) (nI (999))) (fun x1 m1 hq => ?_)
      obtain ⟨rfl, rfl⟩ := hq
      refine p_if_neB (tgt := 42) k83_36 (by decide) (fun cq36 => ?_) (fun cq36 => ?_)
      · skip
        refine p_aload_n k83_42 rfl ?_
        refine p_getRv k83_43 (s_0 S) f_11_14_11 (r_0_0 S) ?_
        refine p_getIv k83_46 (s_1 S) f_11_251_3 (C.seen.trans hsn) ?_
        refine p_bipush (v := nI 6) k83_49 (by decide) ?_
        refine p_icmp_ltN (tgt := 57) k83_51 (by decide) (by omega) (by omega) (fun cq51 => ?_) (fun cq51 => ?_)
        · skip
          refine p_aload_n k83_57 rfl ?_
          refine p_getRv k83_58 (s_0 S) f_11_14_11 (r_0_0 S) ?_
          refine p_getRv k83_61 (s_1 S) f_11_254_3 (r_1_12 S) ?_
          refine p_aload_n k83_64 rfl ?_
          refine p_getRv k83_65 (s_0 S) f_11_14_11 (r_0_0 S) ?_
          refine p_getIv k83_68 (s_1 S) f_11_251_3 (C.seen.trans hsn) ?_
          refine p_iload_n k83_71 rfl ?_
          refine p_iastN k83_72 (s_10 S) (by omega) (by decide) ?_
          refine p_aload_n k83_73 rfl ?_
          refine p_getRv k83_74 (s_0 S) f_11_14_11 (r_0_0 S) ?_
          refine p_getRv k83_77 (s_1 S) f_11_257_3 (r_1_13 S) ?_
          refine p_aload_n k83_80 rfl ?_
          refine p_getRv k83_81 (s_0 S) f_11_14_11 (r_0_0 S) ?_
          refine p_getIv k83_84 (s_1 S) f_11_251_3 (C.seen.trans hsn) ?_
          refine p_iload_n k83_87 rfl ?_
          refine p_iastN k83_88 (s_11 S) (by omega) (by decide) ?_
          refine p_aload_n k83_89 rfl ?_
          refine p_getRv k83_90 (s_0 S) f_11_14_11 (r_0_0 S) ?_
          refine p_dup k83_93 rfl ?_
          refine p_getIv k83_94 (s_1 S) f_11_251_3 (C.seen.trans hsn) ?_
          refine p_iconst (v := nI 1) k83_97 (by decide) ?_
          refine p_iaddN k83_98 ?_
          refine p_putIv k83_99 (s_1 S) g_11_251_3 n_83_3_11 ?_
          refine p_aload_n k83_102 rfl ?_
          refine p_getRv k83_103 (s_0 S) f_11_14_11 (r_0_0 S) ?_
          refine p_getIv k83_106 (s_1 S) f_11_251_3 (show _ = nI (sn + 1) from rfl) ?_
          refine p_ireturn k83_109 rt_83 ?_
          rw [show seeM R0 na sn v w = (nI (sn + 1), s1 (s1 (s1 R0 128 sn v) 129 sn w) 98 43 (nI (sn + 1))) from by unfold seeM; rw [if_neg cq2, if_neg (by rw [cq23]; decide), if_neg (by rw [cq36]; decide), if_neg (by omega)]]
          exact ⟨rfl, _, rfl, ((C.ce.ar10 sn v).ar11 sn w).sc11 (nI (sn + 1)), (((FRC.refl I).ar (by decide) sn v).ar (by decide) sn w).sc (by decide) _⟩
        · skip
          refine p_bipush (v := (-4)) k83_54 (by decide) ?_
          refine p_ireturn k83_56 rt_83 ?_
          rw [show seeM R0 na sn v w = (-4, R0) from by unfold seeM; rw [if_neg cq2, if_neg (by rw [cq23]; decide), if_neg (by rw [cq36]; decide), if_pos (by omega)]]
          exact ⟨rfl, _, rfl, C.ce, FRC.refl I⟩
      · skip
        refine p_bipush (v := (-2)) k83_39 (by decide) ?_
        refine p_ireturn k83_41 rt_83 ?_
        rw [show seeM R0 na sn v w = (-2, R0) from by unfold seeM; rw [if_neg cq2, if_neg (by rw [cq23]; decide), if_pos cq36]]
        exact ⟨rfl, _, rfl, C.ce, FRC.refl I⟩
    · skip
      refine p_iconst (v := (-1)) k83_26 (by decide) ?_
      refine p_ireturn k83_27 rt_83 ?_
      rw [show seeM R0 na sn v w = (-1, R0) from by unfold seeM; rw [if_neg cq2, if_pos cq23]]
      exact ⟨rfl, _, rfl, C.ce, FRC.refl I⟩
  · skip
    refine p_aload_n k83_5 rfl ?_
    refine p_getRv k83_6 (s_0 S) f_11_14_11 (r_0_0 S) ?_
    refine p_iconst (v := nI 0) k83_9 (by decide) ?_
    refine p_putIv k83_10 (s_1 S) g_11_251_3 n_83_3_11 ?_
    refine p_iconst (v := nI 0) k83_13 (by decide) ?_
    refine p_ireturn k83_14 rt_83 ?_
    rw [show seeM R0 na sn v w = (nI 0, s1 R0 98 43 (nI 0)) from by unfold seeM; rw [if_pos cq2]]
    exact ⟨rfl, _, rfl, C.ce.sc11 (nI 0), (FRC.refl I).sc (by decide) _⟩

set_option maxRecDepth 100000 in
set_option maxHeartbeats 4000000 in
theorem C_book {d : Nat} {I : Nat → Nat → Int32} {J : Nat → Nat → Int64} {K : Nat → Nat → Option Nat} {h : List xSh} (S : St K h) {R0 : Nat → Nat → Int32} {nh na dd cb ce tw : Nat} (C : CR I K h R0 na tw) (M : MI R0 nh na dd cb ce) (Q : AR R0 nh na dd) {bn : Nat} (hbn : R0 98 47 = nI bn) (hbn8 : bn ≤ 8) (v w : Int32) : EvP (d + 1) 88 0 [(0, .ref (0)), (1, .int (v)), (2, .int (w))] [] (I, J, K, h) (QI (fun x t => x = (bookM R0 nh na bn v w).1 ∧ ∃ I2, t = (I2, J, K, h) ∧ CE I2 (bookM R0 nh na bn v w).2 ∧ FRC I I2)) := by
  have hnh6 := M.nh6
  have hna6 := M.na6
  refine p_iload_n k88_0 rfl ?_
  refine p_iconst (v := (-1)) k88_1 (by decide) ?_
  refine p_icmp_ne (tgt := 15) k88_2 (by decide) (fun cq2 => ?_) (fun cq2 => ?_)
  · skip
    refine p_aload_n k88_15 rfl ?_
    refine p_getRv k88_16 (s_0 S) f_11_14_11 (r_0_0 S) ?_
    refine p_iload_n k88_19 rfl ?_
    refine p_cV1i k88_20 (s_1 S) c_11_151_3 rfl (Nat.le_of_ble_eq_true rfl) (C_isHat S (n := na) (C.hats.trans M.na) hna6 (v)) (fun x1 m1 hq => ?_)
    obtain ⟨rfl, rfl⟩ := hq
    refine p_if_eqB (tgt := 37) k88_23 (by decide) (fun cq23 => ?_) (fun cq23 => ?_)
    · skip
      refine p_iconst (v := (-1)) k88_37 (by decide) ?_
      refine p_ireturn k88_38 rt_88 ?_
      rw [show bookM R0 nh na bn v w = (-1, R0) from by unfold bookM; rw [if_neg cq2, if_pos (by first | exact Or.inl cq23 | exact Or.inr cq34)]]
      exact ⟨rfl, _, rfl, C.ce, FRC.refl I⟩
    · skip
      refine p_aload_n k88_26 rfl ?_
      refine p_getRv k88_27 (s_0 S) f_11_14_11 (r_0_0 S) ?_
      refine p_iload_n k88_30 rfl ?_
      refine p_cV1i k88_31 (s_1 S) c_11_173_3 rfl (Nat.le_of_ble_eq_true rfl) (C_isHead S (n := nh) (C.heads.trans M.nh) hnh6 (w)) (fun x1 m1 hq => ?_)
      obtain ⟨rfl, rfl⟩ := hq
      refine p_if_neB (tgt := 39) k88_34 (by decide) (fun cq34 => ?_) (fun cq34 => ?_)
      · skip
        refine p_aload_n k88_39 rfl ?_
        refine p_getRv k88_40 (s_0 S) f_11_14_11 (r_0_0 S) ?_
        refine p_getIv k88_43 (s_1 S) f_11_281_3 (C.booked.trans hbn) ?_
        refine p_bipush (v := nI 8) k88_46 (by decide) ?_
        refine p_icmp_ltN (tgt := 54) k88_48 (by decide) (by omega) (by omega) (fun cq48 => ?_) (fun cq48 => ?_)
        · skip
          refine p_aload_n k88_54 rfl ?_
          refine p_getRv k88_55 (s_0 S) f_11_14_11 (r_0_0 S) ?_
          refine p_getRv k88_58 (s_1 S) f_11_284_3 (r_1_15 S) ?_
          refine p_aload_n k88_61 rfl ?_
          refine p_getRv k88_62 (s_0 S) f_11_14_11 (r_0_0 S) ?_
          refine p_getIv k88_65 (s_1 S) f_11_281_3 (C.booked.trans hbn) ?_
          refine p_iload_n k88_68 rfl ?_
          refine p_iastN k88_69 (s_12 S) (by omega) (by decide) ?_
          refine p_aload_n k88_70 rfl ?_
          refine p_getRv k88_71 (s_0 S) f_11_14_11 (r_0_0 S) ?_
          refine p_getRv k88_74 (s_1 S) f_11_287_3 (r_1_16 S) ?_
          refine p_aload_n k88_77 rfl ?_
          refine p_getRv k88_78 (s_0 S) f_11_14_11 (r_0_0 S) ?_
          refine p_getIv k88_81 (s_1 S) f_11_281_3 (C.booked.trans hbn) ?_
          refine p_iload_n k88_84 rfl ?_
          refine p_iastN k88_85 (s_13 S) (by omega) (by decide) ?_
          refine p_aload_n k88_86 rfl ?_
          refine p_getRv k88_87 (s_0 S) f_11_14_11 (r_0_0 S) ?_
          refine p_dup k88_90 rfl ?_
          refine p_getIv k88_91 (s_1 S) f_11_281_3 (C.booked.trans hbn) ?_
          refine p_iconst (v := nI 1) k88_94 (by decide) ?_
          refine p_iaddN k88_95 ?_
          refine p_putIv k88_96 (s_1 S) g_11_281_3 n_88_3_14 ?_
          refine p_aload_n k88_99 rfl ?_
          refine p_getRv k88_100 (s_0 S) f_11_14_11 (r_0_0 S) ?_
          refine p_getIv k88_103 (s_1 S) f_11_281_3 (show _ = nI (bn + 1) from rfl) ?_
          refine p_ireturn k88_106 rt_88 ?_
          rw [show bookM R0 nh na bn v w = (nI (bn + 1), s1 (s1 (s1 R0 131 bn v) 132 bn w) 98 47 (nI (bn + 1))) from by unfold bookM; rw [if_neg cq2, if_neg (fun z => z.elim (fun z => by rw [cq23] at z; cases z) (fun z => by rw [cq34] at z; cases z)), if_neg (by omega)]]
          exact ⟨rfl, _, rfl, ((C.ce.ar12 bn v).ar13 bn w).sc14 (nI (bn + 1)), (((FRC.refl I).ar (by decide) bn v).ar (by decide) bn w).sc (by decide) _⟩
        · skip
          refine p_bipush (v := (-4)) k88_51 (by decide) ?_
          refine p_ireturn k88_53 rt_88 ?_
          rw [show bookM R0 nh na bn v w = (-4, R0) from by unfold bookM; rw [if_neg cq2, if_neg (fun z => z.elim (fun z => by rw [cq23] at z; cases z) (fun z => by rw [cq34] at z; cases z)), if_pos (by omega)]]
          exact ⟨rfl, _, rfl, C.ce, FRC.refl I⟩
      · skip
        refine p_iconst (v := (-1)) k88_37 (by decide) ?_
        refine p_ireturn k88_38 rt_88 ?_
        rw [show bookM R0 nh na bn v w = (-1, R0) from by unfold bookM; rw [if_neg cq2, if_pos (by first | exact Or.inl cq23 | exact Or.inr cq34)]]
        exact ⟨rfl, _, rfl, C.ce, FRC.refl I⟩
  · skip
    refine p_aload_n k88_5 rfl ?_
    refine p_getRv k88_6 (s_0 S) f_11_14_11 (r_0_0 S) ?_
    refine p_iconst (v := nI 0) k88_9 (by decide) ?_
    refine p_putIv k88_10 (s_1 S) g_11_281_3 n_88_3_14 ?_
    refine p_iconst (v := nI 0) k88_13 (by decide) ?_
    refine p_ireturn k88_14 rt_88 ?_
    rw [show bookM R0 nh na bn v w = (nI 0, s1 R0 98 47 (nI 0)) from by unfold bookM; rw [if_pos cq2]]
    exact ⟨rfl, _, rfl, C.ce.sc14 (nI 0), (FRC.refl I).sc (by decide) _⟩

