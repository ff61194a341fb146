/-! the reference: acts, taken -/
/-- a body is noted -/
def nt1 (I : Nat → Nat → Int32) (r b : Nat) : Nat → Nat → Int32 := upc (upc I 148 (if r < 20 then upc (I 148) r (nI b) else I 148)) 98 (upc (I 98) 72 (nI (r + 1)))
def nts (I : Nat → Nat → Int32) (r : Nat) : List Nat → (Nat → Nat → Int32)
  | [] => I
  | b :: L => nts (nt1 I r b) (r + 1) L
theorem nts_app (L1 L2 : List Nat) : ∀ (I : Nat → Nat → Int32) (r : Nat), nts (nts I r L1) (r + L1.length) L2 = nts I r (L1 ++ L2) := by
  induction L1 with
  | nil => intro I r; rfl
  | cons b L1 ih =>
    intro I r
    show nts (nts (nt1 I r b) (r + 1) L1) (r + (L1.length + 1)) L2 = nts (nt1 I r b) (r + 1) (L1 ++ L2)
    rw [← ih (nt1 I r b) (r + 1), show r + 1 + L1.length = r + (L1.length + 1) by omega]
theorem nts_at (L : List Nat) : ∀ (I : Nat → Nat → Int32) (r c : Nat), c ≠ 98 → c ≠ 148 → nts I r L c = I c := by
  induction L with
  | nil => intro I r c _ _; rfl
  | cons b L ih =>
    intro I r c h1 h2
    show nts (nt1 I r b) (r + 1) L c = I c
    rw [ih _ _ _ h1 h2]
    unfold nt1
    rw [upc_ne _ _ h1, upc_ne _ _ h2]
theorem nts_98 (L : List Nat) : ∀ (I : Nat → Nat → Int32) (r k : Nat), k ≠ 72 → nts I r L 98 k = I 98 k := by
  induction L with
  | nil => intro I r k _; rfl
  | cons b L ih =>
    intro I r k h1
    show nts (nt1 I r b) (r + 1) L 98 k = I 98 k
    rw [ih _ _ _ h1]
    exact upc_ne _ _ h1
theorem nts_72 (L : List Nat) : ∀ (I : Nat → Nat → Int32) (r : Nat), I 98 72 = nI r → nts I r L 98 72 = nI (r + L.length) := by
  induction L with
  | nil => intro I r h; exact h
  | cons b L ih =>
    intro I r h
    show nts (nt1 I r b) (r + 1) L 98 72 = nI (r + (L.length + 1))
    rw [ih (nt1 I r b) (r + 1) rfl, show r + 1 + L.length = r + (L.length + 1) by omega]
def ssA (k i : Nat) (v x : Int32) : Int32 × List Nat := match k with
  | 2 => (x * nI 3 + nI i, [30, 10])
  | 4 => (-(x + nI i), [50, 10])
  | 5 => (x * nI 3 + nI i, [30, 10])
  | 6 => ((x + nI i) ^^^ v, [71, 10])
  | _ => (x + nI i, [10])
def hdA (k i : Nat) (v x : Int32) : Int32 × List Nat := ((ssA k i v x).1 - v, 11 :: (ssA k i v x).2)
def tdA (k i : Nat) (v x : Int32) : Int32 × List Nat := ((hdA k i v x).1 ^^^ nI 6, 20 :: (hdA k i v x).2)
def daA (k i : Nat) (v x : Int32) : Int32 × List Nat := match k with
  | 1 => tdA 1 i v x
  | 4 => ((tdA 4 i v (x + nI 1)).1, 51 :: (tdA 4 i v (x + nI 1)).2)
  | 6 => ((hdA 6 i v x).1 + (nI 2 + nI i), 70 :: ((hdA 6 i v x).2 ++ [10]))
  | _ => hdA k i v x
def htA (k i : Nat) (v x : Int32) : Int32 × List Nat := ((daA k i v x).1 * nI 2, 12 :: (daA k i v x).2)
def taA (k i : Nat) (v x : Int32) : Int32 × List Nat := match k with
  | 3 => ((htA 3 i v x).1 + (daA 3 i v (nI 1)).1, 40 :: ((htA 3 i v x).2 ++ (daA 3 i v (nI 1)).2))
  | 5 => ((htA 5 i v (x - nI i)).1, 60 :: (htA 5 i v (x - nI i)).2)
  | 6 => ((htA 6 i v x).1 + (daA 6 i v (nI 1)).1, 40 :: ((htA 6 i v x).2 ++ (daA 6 i v (nI 1)).2))
  | _ => htA k i v x
set_option maxRecDepth 100000 in
set_option maxHeartbeats 4000000 in
theorem M_body {d : Nat} {I : Nat → Nat → Int32} {J : Nat → Nat → Int64} {K : Nat → Nat → Option Nat} {h : List xSh} (S : St K h) {r b : Nat} (hr : I 98 72 = nI r) (hr9 : r < 100) : EvP d 215 0 [(0, .ref (98)), (1, .int (nI (b)))] [] (I, J, K, h) (QV (fun t => t = (nt1 I r b, J, K, h))) := by
  refine p_aload_n k215_0 rfl ?_
  refine p_getIv k215_1 (s_98 S) f_12_229_12 hr ?_
  refine p_bipush (v := nI 20) k215_4 (by decide) ?_
  refine p_icmp_geN (tgt := 19) k215_6 (by decide) (by omega) (by omega) (fun c6 => ?_) (fun c6 => ?_)
  · skip
    refine p_aload_n k215_19 rfl ?_
    refine p_dup k215_20 rfl ?_
    refine p_getIv k215_21 (s_98 S) f_12_229_12 hr ?_
    refine p_iconst (v := nI 1) k215_24 (by decide) ?_
    refine p_iaddN k215_25 ?_
    refine p_putIv k215_26 (s_98 S) g_12_229_12 n_215_12_72 ?_
    refine p_return k215_29 rt_215 ?_
    show _ = _
    unfold nt1
    first | (rw [if_pos (by omega)]; rfl) | (rw [if_neg (by omega)]; first | (rw [upc_self]; done) | (rw [upc_self]))
  · skip
    refine p_aload_n k215_9 rfl ?_
    refine p_getRv k215_10 (s_98 S) f_12_232_12 (r_98_73 S) ?_
    refine p_aload_n k215_13 rfl ?_
    refine p_getIv k215_14 (s_98 S) f_12_229_12 hr ?_
    refine p_iload_n k215_17 rfl ?_
    refine p_iastN k215_18 (s_148 S) (by omega) (by decide) ?_
    refine p_aload_n k215_19 rfl ?_
    refine p_dup k215_20 rfl ?_
    refine p_getIv k215_21 (s_98 S) f_12_229_12 hr ?_
    refine p_iconst (v := nI 1) k215_24 (by decide) ?_
    refine p_iaddN k215_25 ?_
    refine p_putIv k215_26 (s_98 S) g_12_229_12 n_215_12_72 ?_
    refine p_return k215_29 rt_215 ?_
    show _ = _
    unfold nt1
    first | (rw [if_pos (by omega)]; rfl) | (rw [if_neg (by omega)]; first | (rw [upc_self]; done) | (rw [upc_self]))

theorem nts_cons (I : Nat → Nat → Int32) (r b : Nat) (L : List Nat) : nts I r (b :: L) = nts (nt1 I r b) (r + 1) L := rfl
theorem nt1_at (I : Nat → Nat → Int32) (r b c : Nat) (h1 : c ≠ 98) (h2 : c ≠ 148) : nt1 I r b c = I c := by
  unfold nt1
  rw [upc_ne _ _ h1, upc_ne _ _ h2]
theorem nt1_72 (I : Nat → Nat → Int32) (r b : Nat) : nt1 I r b 98 72 = nI (r + 1) := rfl
set_option maxRecDepth 100000 in
set_option maxHeartbeats 4000000 in
theorem M_hatSits {d : Nat} {I : Nat → Nat → Int32} {J : Nat → Nat → Int64} {K : Nat → Nat → Option Nat} {h : List xSh} (S : St K h) {r i : Nat} (hr : I 98 72 = nI r) (hr9 : r < 99) (x : Int32) : EvP (d + 1) 216 0 [(0, .ref (98)), (1, .int (nI (i))), (2, .int (x))] [] (I, J, K, h) (QI (fun z t => z = x + nI i ∧ t = (nt1 I r 10, J, K, h))) := by
  refine p_aload_n k216_0 rfl ?_
  refine p_bipush (v := nI 10) k216_1 (by decide) ?_
  refine p_cV1v k216_3 (s_98 S) c_12_413_12 rfl (Nat.le_of_ble_eq_true rfl) (M_body S (I := I) (r := r) (b := 10) hr (by omega)) (fun m1 hq => ?_)
  obtain rfl := hq
  refine p_iload_n k216_6 rfl ?_
  refine p_iload_n k216_7 rfl ?_
  refine p_iadd k216_8 ?_
  refine p_ireturn k216_9 rt_216 ?_
  exact ⟨rfl, rfl⟩

set_option maxRecDepth 100000 in
set_option maxHeartbeats 4000000 in
theorem M_sitsAct {d : Nat} {I : Nat → Nat → Int32} {J : Nat → Nat → Int64} {K : Nat → Nat → Option Nat} {h : List xSh} (S : St K h) {r i k : Nat} (hi : i < 6) (hr : I 98 72 = nI r) (hr9 : r < 50) (hk : I 102 i = nI k) (hk7 : k < 7) (x : Int32) : EvP (d + 2) 217 0 [(0, .ref (98)), (1, .int (nI (i))), (2, .int (x))] [] (I, J, K, h) (QI (fun z t => z = (ssA k i (I 103 i) x).1 ∧ t = (nts I r (ssA k i (I 103 i) x).2, J, K, h))) := by
  refine p_aload_n k217_0 rfl ?_
  refine p_getRv k217_1 (s_98 S) f_12_29_12 (r_98_6 S) ?_
  refine p_iload_n k217_4 rfl ?_
  refine p_ialdN k217_5 (s_102 S) (by omega) (by decide) hk ?_
  rcases (show k = 0 ∨ k = 1 ∨ k = 2 ∨ k = 3 ∨ k = 4 ∨ k = 5 ∨ k = 6 by omega) with rfl | rfl | rfl | rfl | rfl | rfl | rfl
  · skip
    refine p_tswO (tgt := 89) k217_6 (by decide) (by decide) (by decide) ?_
    refine p_aload_n k217_89 rfl ?_
    refine p_iload_n k217_90 rfl ?_
    refine p_iload_n k217_91 rfl ?_
    refine p_cV2i k217_92 (s_98 S) c_12_416_12 rfl rfl (Nat.le_of_ble_eq_true rfl) (M_hatSits S (I := I) (r := r) (i := i) hr (by omega) _) (fun x1 m1 hq => ?_)
    obtain ⟨rfl, rfl⟩ := hq
    refine p_ireturn k217_95 rt_217 ?_
    exact ⟨rfl, rfl⟩
  · skip
    refine p_tswO (tgt := 89) k217_6 (by decide) (by decide) (by decide) ?_
    refine p_aload_n k217_89 rfl ?_
    refine p_iload_n k217_90 rfl ?_
    refine p_iload_n k217_91 rfl ?_
    refine p_cV2i k217_92 (s_98 S) c_12_416_12 rfl rfl (Nat.le_of_ble_eq_true rfl) (M_hatSits S (I := I) (r := r) (i := i) hr (by omega) _) (fun x1 m1 hq => ?_)
    obtain ⟨rfl, rfl⟩ := hq
    refine p_ireturn k217_95 rt_217 ?_
    exact ⟨rfl, rfl⟩
  · skip
    refine p_tswI (tgt := 40) k217_6 (by decide) (by decide) (by decide) rfl (by decide) ?_
    refine p_aload_n k217_40 rfl ?_
    refine p_bipush (v := nI 30) k217_41 (by decide) ?_
    refine p_cV1v k217_43 (s_98 S) c_12_413_12 rfl (Nat.le_of_ble_eq_true rfl) (M_body S (I := I) (r := r) (b := 30) hr (by omega)) (fun m1 hq => ?_)
    obtain rfl := hq
    refine p_aload_n k217_46 rfl ?_
    refine p_iload_n k217_47 rfl ?_
    refine p_iload_n k217_48 rfl ?_
    refine p_iconst (v := nI 3) k217_49 (by decide) ?_
    refine p_imul k217_50 ?_
    refine p_cV2i k217_51 (s_98 S) c_12_416_12 rfl rfl (Nat.le_of_ble_eq_true rfl) (M_hatSits S (I := nt1 I r 30) (r := r + 1) (i := i) rfl (by omega) _) (fun x1 m1 hq => ?_)
    obtain ⟨rfl, rfl⟩ := hq
    refine p_ireturn k217_54 rt_217 ?_
    exact ⟨rfl, rfl⟩
  · skip
    refine p_tswI (tgt := 89) k217_6 (by decide) (by decide) (by decide) rfl (by decide) ?_
    refine p_aload_n k217_89 rfl ?_
    refine p_iload_n k217_90 rfl ?_
    refine p_iload_n k217_91 rfl ?_
    refine p_cV2i k217_92 (s_98 S) c_12_416_12 rfl rfl (Nat.le_of_ble_eq_true rfl) (M_hatSits S (I := I) (r := r) (i := i) hr (by omega) _) (fun x1 m1 hq => ?_)
    obtain ⟨rfl, rfl⟩ := hq
    refine p_ireturn k217_95 rt_217 ?_
    exact ⟨rfl, rfl⟩
  · skip
    refine p_tswI (tgt := 55) k217_6 (by decide) (by decide) (by decide) rfl (by decide) ?_
    refine p_aload_n k217_55 rfl ?_
    refine p_bipush (v := nI 50) k217_56 (by decide) ?_
    refine p_cV1v k217_58 (s_98 S) c_12_413_12 rfl (Nat.le_of_ble_eq_true rfl) (M_body S (I := I) (r := r) (b := 50) hr (by omega)) (fun m1 hq => ?_)
    obtain rfl := hq
    refine p_aload_n k217_61 rfl ?_
    refine p_iload_n k217_62 rfl ?_
    refine p_iload_n k217_63 rfl ?_
    refine p_cV2i k217_64 (s_98 S) c_12_416_12 rfl rfl (Nat.le_of_ble_eq_true rfl) (M_hatSits S (I := nt1 I r 50) (r := r + 1) (i := i) rfl (by omega) _) (fun x1 m1 hq => ?_)
    obtain ⟨rfl, rfl⟩ := hq
    refine p_ineg k217_67 ?_
    refine p_ireturn k217_68 rt_217 ?_
    exact ⟨rfl, rfl⟩
  · skip
    refine p_tswI (tgt := 40) k217_6 (by decide) (by decide) (by decide) rfl (by decide) ?_
    refine p_aload_n k217_40 rfl ?_
    refine p_bipush (v := nI 30) k217_41 (by decide) ?_
    refine p_cV1v k217_43 (s_98 S) c_12_413_12 rfl (Nat.le_of_ble_eq_true rfl) (M_body S (I := I) (r := r) (b := 30) hr (by omega)) (fun m1 hq => ?_)
    obtain rfl := hq
    refine p_aload_n k217_46 rfl ?_
    refine p_iload_n k217_47 rfl ?_
    refine p_iload_n k217_48 rfl ?_
    refine p_iconst (v := nI 3) k217_49 (by decide) ?_
    refine p_imul k217_50 ?_
    refine p_cV2i k217_51 (s_98 S) c_12_416_12 rfl rfl (Nat.le_of_ble_eq_true rfl) (M_hatSits S (I := nt1 I r 30) (r := r + 1) (i := i) rfl (by omega) _) (fun x1 m1 hq => ?_)
    obtain ⟨rfl, rfl⟩ := hq
    refine p_ireturn k217_54 rt_217 ?_
    exact ⟨rfl, rfl⟩
  · skip
    refine p_tswI (tgt := 69) k217_6 (by decide) (by decide) (by decide) rfl (by decide) ?_
    refine p_aload_n k217_69 rfl ?_
    refine p_bipush (v := nI 71) k217_70 (by decide) ?_
    refine p_cV1v k217_72 (s_98 S) c_12_413_12 rfl (Nat.le_of_ble_eq_true rfl) (M_body S (I := I) (r := r) (b := 71) hr (by omega)) (fun m1 hq => ?_)
    obtain rfl := hq
    refine p_aload_n k217_75 rfl ?_
    refine p_iload_n k217_76 rfl ?_
    refine p_iload_n k217_77 rfl ?_
    refine p_cV2i k217_78 (s_98 S) c_12_416_12 rfl rfl (Nat.le_of_ble_eq_true rfl) (M_hatSits S (I := nt1 I r 71) (r := r + 1) (i := i) rfl (by omega) _) (fun x1 m1 hq => ?_)
    obtain ⟨rfl, rfl⟩ := hq
    refine p_aload_n k217_81 rfl ?_
    refine p_getRv k217_82 (s_98 S) f_12_32_12 (r_98_7 S) ?_
    refine p_iload_n k217_85 rfl ?_
    refine p_ialdN k217_86 (s_103 S) (by omega) (by decide) (show _ = I 103 i from rfl) ?_
    refine p_ixor k217_87 ?_
    refine p_ireturn k217_88 rt_217 ?_
    exact ⟨rfl, rfl⟩

set_option maxRecDepth 100000 in
set_option maxHeartbeats 4000000 in
theorem M_hatDoes {d : Nat} {I : Nat → Nat → Int32} {J : Nat → Nat → Int64} {K : Nat → Nat → Option Nat} {h : List xSh} (S : St K h) {r i k : Nat} (hi : i < 6) (hr : I 98 72 = nI r) (hr9 : r < 48) (hk : I 102 i = nI k) (hk7 : k < 7) (x : Int32) : EvP (d + 3) 218 0 [(0, .ref (98)), (1, .int (nI (i))), (2, .int (x))] [] (I, J, K, h) (QI (fun z t => z = (hdA k i (I 103 i) x).1 ∧ t = (nts I r (hdA k i (I 103 i) x).2, J, K, h))) := by
  refine p_aload_n k218_0 rfl ?_
  refine p_bipush (v := nI 11) k218_1 (by decide) ?_
  refine p_cV1v k218_3 (s_98 S) c_12_413_12 rfl (Nat.le_of_ble_eq_true rfl) (M_body S (I := I) (r := r) (b := 11) hr (by omega)) (fun m1 hq => ?_)
  obtain rfl := hq
  refine p_aload_n k218_6 rfl ?_
  refine p_iload_n k218_7 rfl ?_
  refine p_iload_n k218_8 rfl ?_
  refine p_cV2i k218_9 (s_98 S) c_12_419_12 rfl rfl (Nat.le_of_ble_eq_true rfl) (M_sitsAct S (I := nt1 I r 11) (r := r + 1) (i := i) (k := k) hi rfl (by omega) hk (by omega) _) (fun x1 m1 hq => ?_)
  obtain ⟨rfl, rfl⟩ := hq
  refine p_aload_n k218_12 rfl ?_
  refine p_getRv k218_13 (s_98 S) f_12_32_12 (r_98_7 S) ?_
  refine p_iload_n k218_16 rfl ?_
  refine p_ialdN k218_17 (s_103 S) (by omega) (by decide) (show _ = I 103 i from (congrFun (nts_at _ _ _ 103 (by decide) (by decide)) i).trans rfl) ?_
  refine p_isub k218_18 ?_
  refine p_ireturn k218_19 rt_218 ?_
  exact ⟨rfl, rfl⟩

set_option maxRecDepth 100000 in
set_option maxHeartbeats 4000000 in
theorem M_tightDoes {d : Nat} {I : Nat → Nat → Int32} {J : Nat → Nat → Int64} {K : Nat → Nat → Option Nat} {h : List xSh} (S : St K h) {r i k : Nat} (hi : i < 6) (hr : I 98 72 = nI r) (hr9 : r < 46) (hk : I 102 i = nI k) (hk7 : k < 7) (x : Int32) : EvP (d + 4) 219 0 [(0, .ref (98)), (1, .int (nI (i))), (2, .int (x))] [] (I, J, K, h) (QI (fun z t => z = (tdA k i (I 103 i) x).1 ∧ t = (nts I r (tdA k i (I 103 i) x).2, J, K, h))) := by
  refine p_aload_n k219_0 rfl ?_
  refine p_bipush (v := nI 20) k219_1 (by decide) ?_
  refine p_cV1v k219_3 (s_98 S) c_12_413_12 rfl (Nat.le_of_ble_eq_true rfl) (M_body S (I := I) (r := r) (b := 20) hr (by omega)) (fun m1 hq => ?_)
  obtain rfl := hq
  refine p_aload_n k219_6 rfl ?_
  refine p_iload_n k219_7 rfl ?_
  refine p_iload_n k219_8 rfl ?_
  refine p_cV2i k219_9 (s_98 S) c_12_422_12 rfl rfl (Nat.le_of_ble_eq_true rfl) (M_hatDoes S (I := nt1 I r 20) (r := r + 1) (i := i) (k := k) hi rfl (by omega) hk (by omega) _) (fun x1 m1 hq => ?_)
  obtain ⟨rfl, rfl⟩ := hq
  refine p_bipush (v := nI 6) k219_12 (by decide) ?_
  refine p_ixor k219_14 ?_
  refine p_ireturn k219_15 rt_219 ?_
  exact ⟨rfl, rfl⟩

set_option maxRecDepth 100000 in
set_option maxHeartbeats 4000000 in
theorem M_doesAct {d : Nat} {I : Nat → Nat → Int32} {J : Nat → Nat → Int64} {K : Nat → Nat → Option Nat} {h : List xSh} (S : St K h) {r i k : Nat} (hi : i < 6) (hr : I 98 72 = nI r) (hr9 : r < 40) (hk : I 102 i = nI k) (hk7 : k < 7) (x : Int32) : EvP (d + 5) 220 0 [(0, .ref (98)), (1, .int (nI (i))), (2, .int (x))] [] (I, J, K, h) (QI (fun z t => z = (daA k i (I 103 i) x).1 ∧ t = (nts I r (daA k i (I 103 i) x).2, J, K, h))) := by
  refine p_aload_n k220_0 rfl ?_
  refine p_getRv k220_1 (s_98 S) f_12_29_12 (r_98_6 S) ?_
  refine p_iload_n k220_4 rfl ?_
  refine p_ialdN k220_5 (s_102 S) (by omega) (by decide) hk ?_
  rcases (show k = 0 ∨ k = 1 ∨ k = 2 ∨ k = 3 ∨ k = 4 ∨ k = 5 ∨ k = 6 by omega) with rfl | rfl | rfl | rfl | rfl | rfl | rfl
  · skip
    refine p_lookup (off := 78) (tgt := 84) k220_6 (by decide) (by rw [nI_t (by decide)]; decide) (by decide) ?_
    refine p_aload_n k220_84 rfl ?_
    refine p_iload_n k220_85 rfl ?_
    refine p_iload_n k220_86 rfl ?_
    refine p_cV2i k220_87 (s_98 S) c_12_422_12 rfl rfl (Nat.le_of_ble_eq_true rfl) (M_hatDoes S (I := I) (r := r) (i := i) (k := 0) hi hr (by omega) hk (by omega) _) (fun x1 m1 hq => ?_)
    obtain ⟨rfl, rfl⟩ := hq
    refine p_ireturn k220_90 rt_220 ?_
    exact ⟨rfl, rfl⟩
  · skip
    refine p_lookup (off := 34) (tgt := 40) k220_6 (by decide) (by rw [nI_t (by decide)]; decide) (by decide) ?_
    refine p_aload_n k220_40 rfl ?_
    refine p_iload_n k220_41 rfl ?_
    refine p_iload_n k220_42 rfl ?_
    refine p_cV2i k220_43 (s_98 S) c_12_425_12 rfl rfl (Nat.le_of_ble_eq_true rfl) (M_tightDoes S (I := I) (r := r) (i := i) (k := 1) hi hr (by omega) hk (by omega) _) (fun x1 m1 hq => ?_)
    obtain ⟨rfl, rfl⟩ := hq
    refine p_ireturn k220_46 rt_220 ?_
    exact ⟨rfl, rfl⟩
  · skip
    refine p_lookup (off := 78) (tgt := 84) k220_6 (by decide) (by rw [nI_t (by decide)]; decide) (by decide) ?_
    refine p_aload_n k220_84 rfl ?_
    refine p_iload_n k220_85 rfl ?_
    refine p_iload_n k220_86 rfl ?_
    refine p_cV2i k220_87 (s_98 S) c_12_422_12 rfl rfl (Nat.le_of_ble_eq_true rfl) (M_hatDoes S (I := I) (r := r) (i := i) (k := 2) hi hr (by omega) hk (by omega) _) (fun x1 m1 hq => ?_)
    obtain ⟨rfl, rfl⟩ := hq
    refine p_ireturn k220_90 rt_220 ?_
    exact ⟨rfl, rfl⟩
  · skip
    refine p_lookup (off := 78) (tgt := 84) k220_6 (by decide) (by rw [nI_t (by decide)]; decide) (by decide) ?_
    refine p_aload_n k220_84 rfl ?_
    refine p_iload_n k220_85 rfl ?_
    refine p_iload_n k220_86 rfl ?_
    refine p_cV2i k220_87 (s_98 S) c_12_422_12 rfl rfl (Nat.le_of_ble_eq_true rfl) (M_hatDoes S (I := I) (r := r) (i := i) (k := 3) hi hr (by omega) hk (by omega) _) (fun x1 m1 hq => ?_)
    obtain ⟨rfl, rfl⟩ := hq
    refine p_ireturn k220_90 rt_220 ?_
    exact ⟨rfl, rfl⟩
  · skip
    refine p_lookup (off := 41) (tgt := 47) k220_6 (by decide) (by rw [nI_t (by decide)]; decide) (by decide) ?_
    refine p_aload_n k220_47 rfl ?_
    refine p_bipush (v := nI 51) k220_48 (by decide) ?_
    refine p_cV1v k220_50 (s_98 S) c_12_413_12 rfl (Nat.le_of_ble_eq_true rfl) (M_body S (I := I) (r := r) (b := 51) hr (by omega)) (fun m1 hq => ?_)
    obtain rfl := hq
    refine p_aload_n k220_53 rfl ?_
    refine p_iload_n k220_54 rfl ?_
    refine p_iload_n k220_55 rfl ?_
    refine p_iconst (v := nI 1) k220_56 (by decide) ?_
    refine p_iadd k220_57 ?_
    refine p_cV2i k220_58 (s_98 S) c_12_425_12 rfl rfl (Nat.le_of_ble_eq_true rfl) (M_tightDoes S (I := nt1 I r 51) (r := r + 1) (i := i) (k := 4) hi rfl (by omega) hk (by omega) _) (fun x1 m1 hq => ?_)
    obtain ⟨rfl, rfl⟩ := hq
    refine p_ireturn k220_61 rt_220 ?_
    exact ⟨rfl, rfl⟩
  · skip
    refine p_lookup (off := 78) (tgt := 84) k220_6 (by decide) (by rw [nI_t (by decide)]; decide) (by decide) ?_
    refine p_aload_n k220_84 rfl ?_
    refine p_iload_n k220_85 rfl ?_
    refine p_iload_n k220_86 rfl ?_
    refine p_cV2i k220_87 (s_98 S) c_12_422_12 rfl rfl (Nat.le_of_ble_eq_true rfl) (M_hatDoes S (I := I) (r := r) (i := i) (k := 5) hi hr (by omega) hk (by omega) _) (fun x1 m1 hq => ?_)
    obtain ⟨rfl, rfl⟩ := hq
    refine p_ireturn k220_90 rt_220 ?_
    exact ⟨rfl, rfl⟩
  · skip
    refine p_lookup (off := 56) (tgt := 62) k220_6 (by decide) (by rw [nI_t (by decide)]; decide) (by decide) ?_
    refine p_aload_n k220_62 rfl ?_
    refine p_bipush (v := nI 70) k220_63 (by decide) ?_
    refine p_cV1v k220_65 (s_98 S) c_12_413_12 rfl (Nat.le_of_ble_eq_true rfl) (M_body S (I := I) (r := r) (b := 70) hr (by omega)) (fun m1 hq => ?_)
    obtain rfl := hq
    refine p_aload_n k220_68 rfl ?_
    refine p_iload_n k220_69 rfl ?_
    refine p_iload_n k220_70 rfl ?_
    refine p_cV2i k220_71 (s_98 S) c_12_422_12 rfl rfl (Nat.le_of_ble_eq_true rfl) (M_hatDoes S (I := nt1 I r 70) (r := r + 1) (i := i) (k := 6) hi rfl (by omega) hk (by omega) _) (fun x1 m1 hq => ?_)
    obtain ⟨rfl, rfl⟩ := hq
    refine p_istore_n (ls' := [(0, _), (1, _), (2, _), (3, _)]) k220_74 rfl ?_
    refine p_iload_n k220_75 rfl ?_
    refine p_aload_n k220_76 rfl ?_
    refine p_iload_n k220_77 rfl ?_
    refine p_iconst (v := nI 2) k220_78 (by decide) ?_
    refine p_cV2i k220_79 (s_98 S) c_12_416_12 rfl rfl (Nat.le_of_ble_eq_true rfl) (M_hatSits S (I := nts (nt1 I r 70) (r + 1) (hdA 6 i (I 103 i) x).2) (r := r + 1 + 3) (i := i) (nts_72 _ _ _ rfl) (by omega) _) (fun x1 m1 hq => ?_)
    obtain ⟨rfl, rfl⟩ := hq
    refine p_iadd k220_82 ?_
    refine p_ireturn k220_83 rt_220 ?_
    exact ⟨rfl, rfl⟩

set_option maxRecDepth 100000 in
set_option maxHeartbeats 4000000 in
theorem M_hatTells {d : Nat} {I : Nat → Nat → Int32} {J : Nat → Nat → Int64} {K : Nat → Nat → Option Nat} {h : List xSh} (S : St K h) {r i k : Nat} (hi : i < 6) (hr : I 98 72 = nI r) (hr9 : r < 38) (hk : I 102 i = nI k) (hk7 : k < 7) (x : Int32) : EvP (d + 6) 221 0 [(0, .ref (98)), (1, .int (nI (i))), (2, .int (x))] [] (I, J, K, h) (QI (fun z t => z = (htA k i (I 103 i) x).1 ∧ t = (nts I r (htA k i (I 103 i) x).2, J, K, h))) := by
  refine p_aload_n k221_0 rfl ?_
  refine p_bipush (v := nI 12) k221_1 (by decide) ?_
  refine p_cV1v k221_3 (s_98 S) c_12_413_12 rfl (Nat.le_of_ble_eq_true rfl) (M_body S (I := I) (r := r) (b := 12) hr (by omega)) (fun m1 hq => ?_)
  obtain rfl := hq
  refine p_aload_n k221_6 rfl ?_
  refine p_iload_n k221_7 rfl ?_
  refine p_iload_n k221_8 rfl ?_
  refine p_cV2i k221_9 (s_98 S) c_12_428_12 rfl rfl (Nat.le_of_ble_eq_true rfl) (M_doesAct S (I := nt1 I r 12) (r := r + 1) (i := i) (k := k) hi rfl (by omega) hk (by omega) _) (fun x1 m1 hq => ?_)
  obtain ⟨rfl, rfl⟩ := hq
  refine p_iconst (v := nI 2) k221_12 (by decide) ?_
  refine p_imul k221_13 ?_
  refine p_ireturn k221_14 rt_221 ?_
  exact ⟨rfl, rfl⟩

set_option maxRecDepth 100000 in
set_option maxHeartbeats 4000000 in
theorem M_tellsAct {d : Nat} {I : Nat → Nat → Int32} {J : Nat → Nat → Int64} {K : Nat → Nat → Option Nat} {h : List xSh} (S : St K h) {r i k : Nat} (hi : i < 6) (hr : I 98 72 = nI r) (hr9 : r < 20) (hk : I 102 i = nI k) (hk7 : k < 7) (x : Int32) : EvP (d + 7) 222 0 [(0, .ref (98)), (1, .int (nI (i))), (2, .int (x))] [] (I, J, K, h) (QI (fun z t => z = (taA k i (I 103 i) x).1 ∧ t = (nts I r (taA k i (I 103 i) x).2, J, K, h))) := by
  refine p_aload_n k222_0 rfl ?_
  refine p_getRv k222_1 (s_98 S) f_12_29_12 (r_98_6 S) ?_
  refine p_iload_n k222_4 rfl ?_
  refine p_ialdN k222_5 (s_102 S) (by omega) (by decide) hk ?_
  rcases (show k = 0 ∨ k = 1 ∨ k = 2 ∨ k = 3 ∨ k = 4 ∨ k = 5 ∨ k = 6 by omega) with rfl | rfl | rfl | rfl | rfl | rfl | rfl
  · skip
    refine p_tswO (tgt := 73) k222_6 (by decide) (by decide) (by decide) ?_
    refine p_aload_n k222_73 rfl ?_
    refine p_iload_n k222_74 rfl ?_
    refine p_iload_n k222_75 rfl ?_
    refine p_cV2i k222_76 (s_98 S) c_12_431_12 rfl rfl (Nat.le_of_ble_eq_true rfl) (M_hatTells S (I := I) (r := r) (i := i) (k := 0) hi hr (by omega) hk (by omega) _) (fun x1 m1 hq => ?_)
    obtain ⟨rfl, rfl⟩ := hq
    refine p_ireturn k222_79 rt_222 ?_
    exact ⟨rfl, rfl⟩
  · skip
    refine p_tswO (tgt := 73) k222_6 (by decide) (by decide) (by decide) ?_
    refine p_aload_n k222_73 rfl ?_
    refine p_iload_n k222_74 rfl ?_
    refine p_iload_n k222_75 rfl ?_
    refine p_cV2i k222_76 (s_98 S) c_12_431_12 rfl rfl (Nat.le_of_ble_eq_true rfl) (M_hatTells S (I := I) (r := r) (i := i) (k := 1) hi hr (by omega) hk (by omega) _) (fun x1 m1 hq => ?_)
    obtain ⟨rfl, rfl⟩ := hq
    refine p_ireturn k222_79 rt_222 ?_
    exact ⟨rfl, rfl⟩
  · skip
    refine p_tswO (tgt := 73) k222_6 (by decide) (by decide) (by decide) ?_
    refine p_aload_n k222_73 rfl ?_
    refine p_iload_n k222_74 rfl ?_
    refine p_iload_n k222_75 rfl ?_
    refine p_cV2i k222_76 (s_98 S) c_12_431_12 rfl rfl (Nat.le_of_ble_eq_true rfl) (M_hatTells S (I := I) (r := r) (i := i) (k := 2) hi hr (by omega) hk (by omega) _) (fun x1 m1 hq => ?_)
    obtain ⟨rfl, rfl⟩ := hq
    refine p_ireturn k222_79 rt_222 ?_
    exact ⟨rfl, rfl⟩
  · skip
    refine p_tswI (tgt := 36) k222_6 (by decide) (by decide) (by decide) rfl (by decide) ?_
    refine p_aload_n k222_36 rfl ?_
    refine p_bipush (v := nI 40) k222_37 (by decide) ?_
    refine p_cV1v k222_39 (s_98 S) c_12_413_12 rfl (Nat.le_of_ble_eq_true rfl) (M_body S (I := I) (r := r) (b := 40) hr (by omega)) (fun m1 hq => ?_)
    obtain rfl := hq
    refine p_aload_n k222_42 rfl ?_
    refine p_iload_n k222_43 rfl ?_
    refine p_iload_n k222_44 rfl ?_
    refine p_cV2i k222_45 (s_98 S) c_12_431_12 rfl rfl (Nat.le_of_ble_eq_true rfl) (M_hatTells S (I := nt1 I r 40) (r := r + 1) (i := i) (k := 3) hi rfl (by omega) hk (by omega) _) (fun x1 m1 hq => ?_)
    obtain ⟨rfl, rfl⟩ := hq
    refine p_istore_n (ls' := [(0, _), (1, _), (2, _), (3, _)]) k222_48 rfl ?_
    refine p_iload_n k222_49 rfl ?_
    refine p_aload_n k222_50 rfl ?_
    refine p_iload_n k222_51 rfl ?_
    refine p_iconst (v := nI 1) k222_52 (by decide) ?_
    refine p_cV2i k222_53 (s_98 S) c_12_428_12 rfl rfl (Nat.le_of_ble_eq_true rfl) (M_doesAct S (I := nts (nt1 I r 40) (r + 1) (htA 3 i (I 103 i) x).2) (r := r + 1 + (htA 3 i (I 103 i) x).2.length) (i := i) (k := 3) hi (nts_72 _ _ _ rfl) (by show r + 1 + 3 < 40; omega) (by rw [nts_at _ _ _ _ (by decide) (by decide)]; exact hk) (by omega) _) (fun x1 m1 hq => ?_)
    obtain ⟨rfl, rfl⟩ := hq
    refine p_iadd k222_56 ?_
    refine p_ireturn k222_57 rt_222 ?_
    refine ⟨?_, ?_⟩
    · rw [nts_at _ _ _ 103 (by decide) (by decide)]; try rw [nt1_at _ _ _ 103 (by decide) (by decide)]
      rfl
    · rw [nts_at _ _ _ 103 (by decide) (by decide), nts_app]; try rw [nt1_at _ _ _ 103 (by decide) (by decide)]
      rw [show (taA 3 i (I 103 i) x).2 = 40 :: ((htA 3 i (I 103 i) x).2 ++ (daA 3 i (I 103 i) (nI 1)).2) from rfl, nts_cons]
  · skip
    refine p_tswI (tgt := 73) k222_6 (by decide) (by decide) (by decide) rfl (by decide) ?_
    refine p_aload_n k222_73 rfl ?_
    refine p_iload_n k222_74 rfl ?_
    refine p_iload_n k222_75 rfl ?_
    refine p_cV2i k222_76 (s_98 S) c_12_431_12 rfl rfl (Nat.le_of_ble_eq_true rfl) (M_hatTells S (I := I) (r := r) (i := i) (k := 4) hi hr (by omega) hk (by omega) _) (fun x1 m1 hq => ?_)
    obtain ⟨rfl, rfl⟩ := hq
    refine p_ireturn k222_79 rt_222 ?_
    exact ⟨rfl, rfl⟩
  · skip
    refine p_tswI (tgt := 58) k222_6 (by decide) (by decide) (by decide) rfl (by decide) ?_
    refine p_aload_n k222_58 rfl ?_
    refine p_bipush (v := nI 60) k222_59 (by decide) ?_
    refine p_cV1v k222_61 (s_98 S) c_12_413_12 rfl (Nat.le_of_ble_eq_true rfl) (M_body S (I := I) (r := r) (b := 60) hr (by omega)) (fun m1 hq => ?_)
    obtain rfl := hq
    refine p_aload_n k222_64 rfl ?_
    refine p_iload_n k222_65 rfl ?_
    refine p_iload_n k222_66 rfl ?_
    refine p_iload_n k222_67 rfl ?_
    refine p_isub k222_68 ?_
    refine p_cV2i k222_69 (s_98 S) c_12_431_12 rfl rfl (Nat.le_of_ble_eq_true rfl) (M_hatTells S (I := nt1 I r 60) (r := r + 1) (i := i) (k := 5) hi rfl (by omega) hk (by omega) _) (fun x1 m1 hq => ?_)
    obtain ⟨rfl, rfl⟩ := hq
    refine p_ireturn k222_72 rt_222 ?_
    exact ⟨rfl, rfl⟩
  · skip
    refine p_tswI (tgt := 36) k222_6 (by decide) (by decide) (by decide) rfl (by decide) ?_
    refine p_aload_n k222_36 rfl ?_
    refine p_bipush (v := nI 40) k222_37 (by decide) ?_
    refine p_cV1v k222_39 (s_98 S) c_12_413_12 rfl (Nat.le_of_ble_eq_true rfl) (M_body S (I := I) (r := r) (b := 40) hr (by omega)) (fun m1 hq => ?_)
    obtain rfl := hq
    refine p_aload_n k222_42 rfl ?_
    refine p_iload_n k222_43 rfl ?_
    refine p_iload_n k222_44 rfl ?_
    refine p_cV2i k222_45 (s_98 S) c_12_431_12 rfl rfl (Nat.le_of_ble_eq_true rfl) (M_hatTells S (I := nt1 I r 40) (r := r + 1) (i := i) (k := 6) hi rfl (by omega) hk (by omega) _) (fun x1 m1 hq => ?_)
    obtain ⟨rfl, rfl⟩ := hq
    refine p_istore_n (ls' := [(0, _), (1, _), (2, _), (3, _)]) k222_48 rfl ?_
    refine p_iload_n k222_49 rfl ?_
    refine p_aload_n k222_50 rfl ?_
    refine p_iload_n k222_51 rfl ?_
    refine p_iconst (v := nI 1) k222_52 (by decide) ?_
    refine p_cV2i k222_53 (s_98 S) c_12_428_12 rfl rfl (Nat.le_of_ble_eq_true rfl) (M_doesAct S (I := nts (nt1 I r 40) (r + 1) (htA 6 i (I 103 i) x).2) (r := r + 1 + (htA 6 i (I 103 i) x).2.length) (i := i) (k := 6) hi (nts_72 _ _ _ rfl) (by show r + 1 + 6 < 40; omega) (by rw [nts_at _ _ _ _ (by decide) (by decide)]; exact hk) (by omega) _) (fun x1 m1 hq => ?_)
    obtain ⟨rfl, rfl⟩ := hq
    refine p_iadd k222_56 ?_
    refine p_ireturn k222_57 rt_222 ?_
    refine ⟨?_, ?_⟩
    · rw [nts_at _ _ _ 103 (by decide) (by decide)]; try rw [nt1_at _ _ _ 103 (by decide) (by decide)]
      rfl
    · rw [nts_at _ _ _ 103 (by decide) (by decide), nts_app]; try rw [nt1_at _ _ _ 103 (by decide) (by decide)]
      rw [show (taA 6 i (I 103 i) x).2 = 40 :: ((htA 6 i (I 103 i) x).2 ++ (daA 6 i (I 103 i) (nI 1)).2) from rfl, nts_cons]

