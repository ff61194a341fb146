/-! the class: new hats -/
theorem St.new {K : Nat → Nat → Option Nat} {h : List xSh} (S : St K h) (f : Nat → Option Nat) (x : xSh) : St (upc K h.length f) (h ++ [x]) := by
  have hl : 152 < h.length := by
    have h1 := S.1 152 (by decide)
    by_cases e : 152 < h.length
    · exact e
    · rw [List.getElem?_eq_none (by omega)] at h1
      cases h1
  refine ⟨fun a ha => ?_, fun e he => ?_⟩
  · rw [List.getElem?_append_left (by omega)]; exact S.1 a ha
  · have hlt : ∀ e ∈ RT, e.1 < 153 := by decide +kernel
    have := hlt e he
    rw [upc_ne _ _ (by omega)]
    exact S.2 e he
theorem St.len {K : Nat → Nat → Option Nat} {h : List xSh} (S : St K h) : 153 ≤ h.length := by
  have h1 := S.1 152 (by decide)
  by_cases e : 152 < h.length
  · exact e
  · rw [List.getElem?_eq_none (by omega)] at h1
    cases h1
theorem St.hi {K : Nat → Nat → Option Nat} {h : List xSh} (S : St K h) {q : Nat} (hq : 153 ≤ q ∨ q = 5 ∨ q = 18) (f : Nat → Option Nat) : St (upc K q f) h := by
  refine ⟨S.1, fun e he => ?_⟩
  have hlt : ∀ e ∈ RT, e.1 < 153 ∧ e.1 ≠ 5 ∧ e.1 ≠ 18 := by decide +kernel
  have := hlt e he
  rw [upc_ne _ _ (by omega)]
  exact S.2 e he
/-- a hat's own numbers -/
def hatI (I : Nat → Nat → Int32) (q : Nat) (kd nm v sz tr : Int32) : Nat → Nat → Int32 := s1 (s1 (s1 (s1 (s1 I q 0 kd) q 1 nm) q 2 v) q 3 sz) q 4 tr
def hatK (K : Nat → Nat → Option Nat) (q : Nat) : Nat → Nat → Option Nat := upc K q (upc (K q) 5 (some 36))
theorem s1_s1 {I : Nat → Nat → Int32} {q k : Nat} {v : Int32} : upc I q (upc (I q) k v) = s1 I q k v := rfl
set_option maxRecDepth 100000 in
set_option maxHeartbeats 4000000 in
theorem C_ctorH2 {d : Nat} {I : Nat → Nat → Int32} {J : Nat → Nat → Int64} {K : Nat → Nat → Option Nat} {h : List xSh} (S : St K h) {q : Nat} (kd nm v sz tr : Int32) (hs : h[q]? = some (.inl 2)) : EvP (d + 1) 6 0 [(0, .ref (q)), (1, .int (kd)), (2, .int (nm)), (3, .int (v)), (4, .int (sz)), (5, .int (tr)), (6, .ref (36))] [] (I, J, K, h) (QV (fun t => t = (hatI I q kd nm v sz tr, J, hatK K q, h))) := by
  refine p_aload_n k6_0 rfl ?_
  refine p_oinit k6_1 (by decide) (Nat.le_of_ble_eq_true rfl) ?_
  refine p_aload_n k6_4 rfl ?_
  refine p_iload_n k6_5 rfl ?_
  refine p_putIv k6_6 hs g_2_7_2 n_6_2_0 ?_
  refine p_aload_n k6_9 rfl ?_
  refine p_iload_n k6_10 rfl ?_
  refine p_putIv k6_11 hs g_2_13_2 n_6_2_1 ?_
  refine p_aload_n k6_14 rfl ?_
  refine p_iload_n k6_15 rfl ?_
  refine p_putIv k6_16 hs g_2_16_2 n_6_2_2 ?_
  refine p_aload_n k6_19 rfl ?_
  refine p_iload k6_20 rfl ?_
  refine p_putIv k6_22 hs g_2_19_2 n_6_2_3 ?_
  refine p_aload_n k6_25 rfl ?_
  refine p_iload k6_26 rfl ?_
  refine p_putIv k6_28 hs g_2_22_2 n_6_2_4 ?_
  refine p_aload_n k6_31 rfl ?_
  refine p_aload k6_32 rfl ?_
  refine p_putRv k6_34 hs f_2_25_2 n_6_2_5 ?_
  refine p_return k6_37 rt_6 ?_
  exact rfl

set_option maxRecDepth 100000 in
set_option maxHeartbeats 4000000 in
theorem C_ctorH6 {d : Nat} {I : Nat → Nat → Int32} {J : Nat → Nat → Int64} {K : Nat → Nat → Option Nat} {h : List xSh} (S : St K h) {q : Nat} (kd nm v sz tr : Int32) (hs : h[q]? = some (.inl 6)) : EvP (d + 1) 6 0 [(0, .ref (q)), (1, .int (kd)), (2, .int (nm)), (3, .int (v)), (4, .int (sz)), (5, .int (tr)), (6, .ref (36))] [] (I, J, K, h) (QV (fun t => t = (hatI I q kd nm v sz tr, J, hatK K q, h))) := by
  refine p_aload_n k6_0 rfl ?_
  refine p_oinit k6_1 (by decide) (Nat.le_of_ble_eq_true rfl) ?_
  refine p_aload_n k6_4 rfl ?_
  refine p_iload_n k6_5 rfl ?_
  refine p_putIv k6_6 hs g_2_7_6 n_6_6_0 ?_
  refine p_aload_n k6_9 rfl ?_
  refine p_iload_n k6_10 rfl ?_
  refine p_putIv k6_11 hs g_2_13_6 n_6_6_1 ?_
  refine p_aload_n k6_14 rfl ?_
  refine p_iload_n k6_15 rfl ?_
  refine p_putIv k6_16 hs g_2_16_6 n_6_6_2 ?_
  refine p_aload_n k6_19 rfl ?_
  refine p_iload k6_20 rfl ?_
  refine p_putIv k6_22 hs g_2_19_6 n_6_6_3 ?_
  refine p_aload_n k6_25 rfl ?_
  refine p_iload k6_26 rfl ?_
  refine p_putIv k6_28 hs g_2_22_6 n_6_6_4 ?_
  refine p_aload_n k6_31 rfl ?_
  refine p_aload k6_32 rfl ?_
  refine p_putRv k6_34 hs f_2_25_6 n_6_6_5 ?_
  refine p_return k6_37 rt_6 ?_
  exact rfl

set_option maxRecDepth 100000 in
set_option maxHeartbeats 4000000 in
theorem C_ctorH10 {d : Nat} {I : Nat → Nat → Int32} {J : Nat → Nat → Int64} {K : Nat → Nat → Option Nat} {h : List xSh} (S : St K h) {q : Nat} (kd nm v sz tr : Int32) (hs : h[q]? = some (.inl 10)) : EvP (d + 1) 6 0 [(0, .ref (q)), (1, .int (kd)), (2, .int (nm)), (3, .int (v)), (4, .int (sz)), (5, .int (tr)), (6, .ref (36))] [] (I, J, K, h) (QV (fun t => t = (hatI I q kd nm v sz tr, J, hatK K q, h))) := by
  refine p_aload_n k6_0 rfl ?_
  refine p_oinit k6_1 (by decide) (Nat.le_of_ble_eq_true rfl) ?_
  refine p_aload_n k6_4 rfl ?_
  refine p_iload_n k6_5 rfl ?_
  refine p_putIv k6_6 hs g_2_7_10 n_6_10_0 ?_
  refine p_aload_n k6_9 rfl ?_
  refine p_iload_n k6_10 rfl ?_
  refine p_putIv k6_11 hs g_2_13_10 n_6_10_1 ?_
  refine p_aload_n k6_14 rfl ?_
  refine p_iload_n k6_15 rfl ?_
  refine p_putIv k6_16 hs g_2_16_10 n_6_10_2 ?_
  refine p_aload_n k6_19 rfl ?_
  refine p_iload k6_20 rfl ?_
  refine p_putIv k6_22 hs g_2_19_10 n_6_10_3 ?_
  refine p_aload_n k6_25 rfl ?_
  refine p_iload k6_26 rfl ?_
  refine p_putIv k6_28 hs g_2_22_10 n_6_10_4 ?_
  refine p_aload_n k6_31 rfl ?_
  refine p_aload k6_32 rfl ?_
  refine p_putRv k6_34 hs f_2_25_10 n_6_10_5 ?_
  refine p_return k6_37 rt_6 ?_
  exact rfl

set_option maxRecDepth 100000 in
set_option maxHeartbeats 4000000 in
theorem C_ctorH0 {d : Nat} {I : Nat → Nat → Int32} {J : Nat → Nat → Int64} {K : Nat → Nat → Option Nat} {h : List xSh} (S : St K h) {q : Nat} (kd nm v sz tr : Int32) (hs : h[q]? = some (.inl 0)) : EvP (d + 1) 6 0 [(0, .ref (q)), (1, .int (kd)), (2, .int (nm)), (3, .int (v)), (4, .int (sz)), (5, .int (tr)), (6, .ref (36))] [] (I, J, K, h) (QV (fun t => t = (hatI I q kd nm v sz tr, J, hatK K q, h))) := by
  refine p_aload_n k6_0 rfl ?_
  refine p_oinit k6_1 (by decide) (Nat.le_of_ble_eq_true rfl) ?_
  refine p_aload_n k6_4 rfl ?_
  refine p_iload_n k6_5 rfl ?_
  refine p_putIv k6_6 hs g_2_7_0 n_6_0_0 ?_
  refine p_aload_n k6_9 rfl ?_
  refine p_iload_n k6_10 rfl ?_
  refine p_putIv k6_11 hs g_2_13_0 n_6_0_1 ?_
  refine p_aload_n k6_14 rfl ?_
  refine p_iload_n k6_15 rfl ?_
  refine p_putIv k6_16 hs g_2_16_0 n_6_0_2 ?_
  refine p_aload_n k6_19 rfl ?_
  refine p_iload k6_20 rfl ?_
  refine p_putIv k6_22 hs g_2_19_0 n_6_0_3 ?_
  refine p_aload_n k6_25 rfl ?_
  refine p_iload k6_26 rfl ?_
  refine p_putIv k6_28 hs g_2_22_0 n_6_0_4 ?_
  refine p_aload_n k6_31 rfl ?_
  refine p_aload k6_32 rfl ?_
  refine p_putRv k6_34 hs f_2_25_0 n_6_0_5 ?_
  refine p_return k6_37 rt_6 ?_
  exact rfl

set_option maxRecDepth 100000 in
set_option maxHeartbeats 4000000 in
theorem C_ctorH4 {d : Nat} {I : Nat → Nat → Int32} {J : Nat → Nat → Int64} {K : Nat → Nat → Option Nat} {h : List xSh} (S : St K h) {q : Nat} (kd nm v sz tr : Int32) (hs : h[q]? = some (.inl 4)) : EvP (d + 1) 6 0 [(0, .ref (q)), (1, .int (kd)), (2, .int (nm)), (3, .int (v)), (4, .int (sz)), (5, .int (tr)), (6, .ref (36))] [] (I, J, K, h) (QV (fun t => t = (hatI I q kd nm v sz tr, J, hatK K q, h))) := by
  refine p_aload_n k6_0 rfl ?_
  refine p_oinit k6_1 (by decide) (Nat.le_of_ble_eq_true rfl) ?_
  refine p_aload_n k6_4 rfl ?_
  refine p_iload_n k6_5 rfl ?_
  refine p_putIv k6_6 hs g_2_7_4 n_6_4_0 ?_
  refine p_aload_n k6_9 rfl ?_
  refine p_iload_n k6_10 rfl ?_
  refine p_putIv k6_11 hs g_2_13_4 n_6_4_1 ?_
  refine p_aload_n k6_14 rfl ?_
  refine p_iload_n k6_15 rfl ?_
  refine p_putIv k6_16 hs g_2_16_4 n_6_4_2 ?_
  refine p_aload_n k6_19 rfl ?_
  refine p_iload k6_20 rfl ?_
  refine p_putIv k6_22 hs g_2_19_4 n_6_4_3 ?_
  refine p_aload_n k6_25 rfl ?_
  refine p_iload k6_26 rfl ?_
  refine p_putIv k6_28 hs g_2_22_4 n_6_4_4 ?_
  refine p_aload_n k6_31 rfl ?_
  refine p_aload k6_32 rfl ?_
  refine p_putRv k6_34 hs f_2_25_4 n_6_4_5 ?_
  refine p_return k6_37 rt_6 ?_
  exact rfl

set_option maxRecDepth 100000 in
set_option maxHeartbeats 4000000 in
theorem C_ctorH1 {d : Nat} {I : Nat → Nat → Int32} {J : Nat → Nat → Int64} {K : Nat → Nat → Option Nat} {h : List xSh} (S : St K h) {q : Nat} (kd nm v sz tr : Int32) (hs : h[q]? = some (.inl 1)) : EvP (d + 1) 6 0 [(0, .ref (q)), (1, .int (kd)), (2, .int (nm)), (3, .int (v)), (4, .int (sz)), (5, .int (tr)), (6, .ref (36))] [] (I, J, K, h) (QV (fun t => t = (hatI I q kd nm v sz tr, J, hatK K q, h))) := by
  refine p_aload_n k6_0 rfl ?_
  refine p_oinit k6_1 (by decide) (Nat.le_of_ble_eq_true rfl) ?_
  refine p_aload_n k6_4 rfl ?_
  refine p_iload_n k6_5 rfl ?_
  refine p_putIv k6_6 hs g_2_7_1 n_6_1_0 ?_
  refine p_aload_n k6_9 rfl ?_
  refine p_iload_n k6_10 rfl ?_
  refine p_putIv k6_11 hs g_2_13_1 n_6_1_1 ?_
  refine p_aload_n k6_14 rfl ?_
  refine p_iload_n k6_15 rfl ?_
  refine p_putIv k6_16 hs g_2_16_1 n_6_1_2 ?_
  refine p_aload_n k6_19 rfl ?_
  refine p_iload k6_20 rfl ?_
  refine p_putIv k6_22 hs g_2_19_1 n_6_1_3 ?_
  refine p_aload_n k6_25 rfl ?_
  refine p_iload k6_26 rfl ?_
  refine p_putIv k6_28 hs g_2_22_1 n_6_1_4 ?_
  refine p_aload_n k6_31 rfl ?_
  refine p_aload k6_32 rfl ?_
  refine p_putRv k6_34 hs f_2_25_1 n_6_1_5 ?_
  refine p_return k6_37 rt_6 ?_
  exact rfl

set_option maxRecDepth 100000 in
set_option maxHeartbeats 4000000 in
theorem C_ctorH7 {d : Nat} {I : Nat → Nat → Int32} {J : Nat → Nat → Int64} {K : Nat → Nat → Option Nat} {h : List xSh} (S : St K h) {q : Nat} (kd nm v sz tr : Int32) (hs : h[q]? = some (.inl 7)) : EvP (d + 1) 6 0 [(0, .ref (q)), (1, .int (kd)), (2, .int (nm)), (3, .int (v)), (4, .int (sz)), (5, .int (tr)), (6, .ref (36))] [] (I, J, K, h) (QV (fun t => t = (hatI I q kd nm v sz tr, J, hatK K q, h))) := by
  refine p_aload_n k6_0 rfl ?_
  refine p_oinit k6_1 (by decide) (Nat.le_of_ble_eq_true rfl) ?_
  refine p_aload_n k6_4 rfl ?_
  refine p_iload_n k6_5 rfl ?_
  refine p_putIv k6_6 hs g_2_7_7 n_6_7_0 ?_
  refine p_aload_n k6_9 rfl ?_
  refine p_iload_n k6_10 rfl ?_
  refine p_putIv k6_11 hs g_2_13_7 n_6_7_1 ?_
  refine p_aload_n k6_14 rfl ?_
  refine p_iload_n k6_15 rfl ?_
  refine p_putIv k6_16 hs g_2_16_7 n_6_7_2 ?_
  refine p_aload_n k6_19 rfl ?_
  refine p_iload k6_20 rfl ?_
  refine p_putIv k6_22 hs g_2_19_7 n_6_7_3 ?_
  refine p_aload_n k6_25 rfl ?_
  refine p_iload k6_26 rfl ?_
  refine p_putIv k6_28 hs g_2_22_7 n_6_7_4 ?_
  refine p_aload_n k6_31 rfl ?_
  refine p_aload k6_32 rfl ?_
  refine p_putRv k6_34 hs f_2_25_7 n_6_7_5 ?_
  refine p_return k6_37 rt_6 ?_
  exact rfl

set_option maxRecDepth 100000 in
set_option maxHeartbeats 4000000 in
theorem C_ctorT6 {d : Nat} {I : Nat → Nat → Int32} {J : Nat → Nat → Int64} {K : Nat → Nat → Option Nat} {h : List xSh} (S : St K h) {q : Nat} (kd nm v sz tr : Int32) (hs : h[q]? = some (.inl 6)) : EvP (d + 2) 25 0 [(0, .ref (q)), (1, .int (kd)), (2, .int (nm)), (3, .int (v)), (4, .int (sz)), (5, .int (tr)), (6, .ref (36))] [] (I, J, K, h) (QV (fun t => t = (hatI I q kd nm v sz tr, J, hatK K q, h))) := by
  refine p_aload_n k25_0 rfl ?_
  refine p_iload_n k25_1 rfl ?_
  refine p_iload_n k25_2 rfl ?_
  refine p_iload_n k25_3 rfl ?_
  refine p_iload k25_4 rfl ?_
  refine p_iload k25_6 rfl ?_
  refine p_aload k25_8 rfl ?_
  refine p_cI6v k25_10 c_6_1 rfl rfl rfl rfl rfl rfl (Nat.le_of_ble_eq_true rfl) (C_ctorH6 S kd nm v sz tr hs) (fun m1 hq => ?_)
  obtain rfl := hq
  refine p_return k25_13 rt_25 ?_
  exact rfl

set_option maxRecDepth 100000 in
set_option maxHeartbeats 4000000 in
theorem C_ctorT4 {d : Nat} {I : Nat → Nat → Int32} {J : Nat → Nat → Int64} {K : Nat → Nat → Option Nat} {h : List xSh} (S : St K h) {q : Nat} (kd nm v sz tr : Int32) (hs : h[q]? = some (.inl 4)) : EvP (d + 2) 25 0 [(0, .ref (q)), (1, .int (kd)), (2, .int (nm)), (3, .int (v)), (4, .int (sz)), (5, .int (tr)), (6, .ref (36))] [] (I, J, K, h) (QV (fun t => t = (hatI I q kd nm v sz tr, J, hatK K q, h))) := by
  refine p_aload_n k25_0 rfl ?_
  refine p_iload_n k25_1 rfl ?_
  refine p_iload_n k25_2 rfl ?_
  refine p_iload_n k25_3 rfl ?_
  refine p_iload k25_4 rfl ?_
  refine p_iload k25_6 rfl ?_
  refine p_aload k25_8 rfl ?_
  refine p_cI6v k25_10 c_6_1 rfl rfl rfl rfl rfl rfl (Nat.le_of_ble_eq_true rfl) (C_ctorH4 S kd nm v sz tr hs) (fun m1 hq => ?_)
  obtain rfl := hq
  refine p_return k25_13 rt_25 ?_
  exact rfl

set_option maxRecDepth 100000 in
set_option maxHeartbeats 4000000 in
theorem C_ctorS4 {d : Nat} {I : Nat → Nat → Int32} {J : Nat → Nat → Int64} {K : Nat → Nat → Option Nat} {h : List xSh} (S : St K h) {q : Nat} (kd nm v sz tr : Int32) (hs : h[q]? = some (.inl 4)) : EvP (d + 3) 17 0 [(0, .ref (q)), (1, .int (kd)), (2, .int (nm)), (3, .int (v)), (4, .int (sz)), (5, .int (tr)), (6, .ref (36))] [] (I, J, K, h) (QV (fun t => t = (hatI I q kd nm v sz tr, J, hatK K q, h))) := by
  refine p_aload_n k17_0 rfl ?_
  refine p_iload_n k17_1 rfl ?_
  refine p_iload_n k17_2 rfl ?_
  refine p_iload_n k17_3 rfl ?_
  refine p_iload k17_4 rfl ?_
  refine p_iload k17_6 rfl ?_
  refine p_aload k17_8 rfl ?_
  refine p_cI6v k17_10 c_4_1 rfl rfl rfl rfl rfl rfl (Nat.le_of_ble_eq_true rfl) (C_ctorT4 S kd nm v sz tr hs) (fun m1 hq => ?_)
  obtain rfl := hq
  refine p_return k17_13 rt_17 ?_
  exact rfl

set_option maxRecDepth 100000 in
set_option maxHeartbeats 4000000 in
theorem C_ctorC0 {d : Nat} {I : Nat → Nat → Int32} {J : Nat → Nat → Int64} {K : Nat → Nat → Option Nat} {h : List xSh} (S : St K h) {q : Nat} (kd nm v sz tr : Int32) (hs : h[q]? = some (.inl 0)) : EvP (d + 2) 0 0 [(0, .ref (q)), (1, .int (kd)), (2, .int (nm)), (3, .int (v)), (4, .int (sz)), (5, .int (tr)), (6, .ref (36))] [] (I, J, K, h) (QV (fun t => t = (hatI I q kd nm v sz tr, J, hatK K q, h))) := by
  refine p_aload_n k0_0 rfl ?_
  refine p_iload_n k0_1 rfl ?_
  refine p_iload_n k0_2 rfl ?_
  refine p_iload_n k0_3 rfl ?_
  refine p_iload k0_4 rfl ?_
  refine p_iload k0_6 rfl ?_
  refine p_aload k0_8 rfl ?_
  refine p_cI6v k0_10 c_0_1 rfl rfl rfl rfl rfl rfl (Nat.le_of_ble_eq_true rfl) (C_ctorH0 S kd nm v sz tr hs) (fun m1 hq => ?_)
  obtain rfl := hq
  refine p_return k0_13 rt_0 ?_
  exact rfl

set_option maxRecDepth 100000 in
set_option maxHeartbeats 4000000 in
theorem C_ctorC7 {d : Nat} {I : Nat → Nat → Int32} {J : Nat → Nat → Int64} {K : Nat → Nat → Option Nat} {h : List xSh} (S : St K h) {q : Nat} (kd nm v sz tr : Int32) (hs : h[q]? = some (.inl 7)) : EvP (d + 2) 0 0 [(0, .ref (q)), (1, .int (kd)), (2, .int (nm)), (3, .int (v)), (4, .int (sz)), (5, .int (tr)), (6, .ref (36))] [] (I, J, K, h) (QV (fun t => t = (hatI I q kd nm v sz tr, J, hatK K q, h))) := by
  refine p_aload_n k0_0 rfl ?_
  refine p_iload_n k0_1 rfl ?_
  refine p_iload_n k0_2 rfl ?_
  refine p_iload_n k0_3 rfl ?_
  refine p_iload k0_4 rfl ?_
  refine p_iload k0_6 rfl ?_
  refine p_aload k0_8 rfl ?_
  refine p_cI6v k0_10 c_0_1 rfl rfl rfl rfl rfl rfl (Nat.le_of_ble_eq_true rfl) (C_ctorH7 S kd nm v sz tr hs) (fun m1 hq => ?_)
  obtain rfl := hq
  refine p_return k0_13 rt_0 ?_
  exact rfl

set_option maxRecDepth 100000 in
set_option maxHeartbeats 4000000 in
theorem C_ctorO7 {d : Nat} {I : Nat → Nat → Int32} {J : Nat → Nat → Int64} {K : Nat → Nat → Option Nat} {h : List xSh} (S : St K h) {q : Nat} (kd nm v sz tr : Int32) (hs : h[q]? = some (.inl 7)) : EvP (d + 3) 28 0 [(0, .ref (q)), (1, .int (kd)), (2, .int (nm)), (3, .int (v)), (4, .int (sz)), (5, .int (tr)), (6, .ref (36))] [] (I, J, K, h) (QV (fun t => t = (hatI I q kd nm v sz tr, J, hatK K q, h))) := by
  refine p_aload_n k28_0 rfl ?_
  refine p_iload_n k28_1 rfl ?_
  refine p_iload_n k28_2 rfl ?_
  refine p_iload_n k28_3 rfl ?_
  refine p_iload k28_4 rfl ?_
  refine p_iload k28_6 rfl ?_
  refine p_aload k28_8 rfl ?_
  refine p_cI6v k28_10 c_7_1 rfl rfl rfl rfl rfl rfl (Nat.le_of_ble_eq_true rfl) (C_ctorC7 S kd nm v sz tr hs) (fun m1 hq => ?_)
  obtain rfl := hq
  refine p_return k28_13 rt_28 ?_
  exact rfl

set_option maxRecDepth 100000 in
set_option maxHeartbeats 4000000 in
theorem C_ctorW10 {d : Nat} {I : Nat → Nat → Int32} {J : Nat → Nat → Int64} {K : Nat → Nat → Option Nat} {h : List xSh} (S : St K h) {q : Nat} (kd nm v sz tr : Int32) (hs : h[q]? = some (.inl 10)) : EvP (d + 2) 51 0 [(0, .ref (q)), (1, .int (kd)), (2, .int (nm)), (3, .int (v)), (4, .int (sz)), (5, .int (tr)), (6, .ref (36))] [] (I, J, K, h) (QV (fun t => t = (hatI I q kd nm v sz tr, J, hatK K q, h))) := by
  refine p_aload_n k51_0 rfl ?_
  refine p_iload_n k51_1 rfl ?_
  refine p_iload_n k51_2 rfl ?_
  refine p_iload_n k51_3 rfl ?_
  refine p_iload k51_4 rfl ?_
  refine p_iload k51_6 rfl ?_
  refine p_aload k51_8 rfl ?_
  refine p_cI6v k51_10 c_10_1 rfl rfl rfl rfl rfl rfl (Nat.le_of_ble_eq_true rfl) (C_ctorH10 S kd nm v sz tr hs) (fun m1 hq => ?_)
  obtain rfl := hq
  refine p_return k51_13 rt_51 ?_
  exact rfl

set_option maxRecDepth 100000 in
set_option maxHeartbeats 4000000 in
theorem C_ctorW1 {d : Nat} {I : Nat → Nat → Int32} {J : Nat → Nat → Int64} {K : Nat → Nat → Option Nat} {h : List xSh} (S : St K h) {q : Nat} (kd nm v sz tr : Int32) (hs : h[q]? = some (.inl 1)) : EvP (d + 2) 51 0 [(0, .ref (q)), (1, .int (kd)), (2, .int (nm)), (3, .int (v)), (4, .int (sz)), (5, .int (tr)), (6, .ref (36))] [] (I, J, K, h) (QV (fun t => t = (hatI I q kd nm v sz tr, J, hatK K q, h))) := by
  refine p_aload_n k51_0 rfl ?_
  refine p_iload_n k51_1 rfl ?_
  refine p_iload_n k51_2 rfl ?_
  refine p_iload_n k51_3 rfl ?_
  refine p_iload k51_4 rfl ?_
  refine p_iload k51_6 rfl ?_
  refine p_aload k51_8 rfl ?_
  refine p_cI6v k51_10 c_10_1 rfl rfl rfl rfl rfl rfl (Nat.le_of_ble_eq_true rfl) (C_ctorH1 S kd nm v sz tr hs) (fun m1 hq => ?_)
  obtain rfl := hq
  refine p_return k51_13 rt_51 ?_
  exact rfl

set_option maxRecDepth 100000 in
set_option maxHeartbeats 4000000 in
theorem C_ctorF1 {d : Nat} {I : Nat → Nat → Int32} {J : Nat → Nat → Int64} {K : Nat → Nat → Option Nat} {h : List xSh} (S : St K h) {q : Nat} (kd nm v sz tr : Int32) (hs : h[q]? = some (.inl 1)) : EvP (d + 3) 3 0 [(0, .ref (q)), (1, .int (kd)), (2, .int (nm)), (3, .int (v)), (4, .int (sz)), (5, .int (tr)), (6, .ref (36))] [] (I, J, K, h) (QV (fun t => t = (hatI I q kd nm v sz tr, J, hatK K q, h))) := by
  refine p_aload_n k3_0 rfl ?_
  refine p_iload_n k3_1 rfl ?_
  refine p_iload_n k3_2 rfl ?_
  refine p_iload_n k3_3 rfl ?_
  refine p_iload k3_4 rfl ?_
  refine p_iload k3_6 rfl ?_
  refine p_aload k3_8 rfl ?_
  refine p_cI6v k3_10 c_1_1 rfl rfl rfl rfl rfl rfl (Nat.le_of_ble_eq_true rfl) (C_ctorW1 S kd nm v sz tr hs) (fun m1 hq => ?_)
  obtain rfl := hq
  refine p_return k3_13 rt_3 ?_
  exact rfl

theorem new_sh (h : List xSh) (x : xSh) : (h ++ [x])[h.length]? = some x := by
  rw [List.getElem?_append_right (Nat.le_refl _), Nat.sub_self]
  rfl
set_option maxRecDepth 100000 in
set_option maxHeartbeats 4000000 in
theorem C_newHat {d : Nat} {I : Nat → Nat → Int32} {J : Nat → Nat → Int64} {K : Nat → Nat → Option Nat} {h : List xSh} (S : St K h) (hz : h.length < 900000) {kd : Nat} (hkd : kd < 7) (nm v sz tr : Int32) : EvP (d + 4) 57 0 [(0, .ref (0)), (1, .int (nI (kd))), (2, .int (nm)), (3, .int (v)), (4, .int (sz)), (5, .int (tr))] [] (I, J, K, h) (QR (fun b t => b = h.length ∧ t = (hatI (upc I h.length (fun _ => 0)) h.length (nI kd) nm v sz tr, upc J h.length (fun _ => 0), hatK (upc K h.length (fun _ => none)) h.length, h ++ [.inl (([2, 6, 10, 0, 4, 1, 7] : List Nat).getD kd 2)]))) := by
  refine p_iload_n k57_0 rfl ?_
  rcases (show kd = 0 ∨ kd = 1 ∨ kd = 2 ∨ kd = 3 ∨ kd = 4 ∨ kd = 5 ∨ kd = 6 by omega) with rfl | rfl | rfl | rfl | rfl | rfl | rfl
  · skip
    refine p_tswO (tgt := 154) k57_1 (by omega) (by omega) (by decide) ?_
    refine p_new (ci := 2) k57_154 (by decide) hz ?_
    replace S := S.new (fun _ => none) (.inl 2)
    have hs_h_length := new_sh h (.inl 2)
    refine p_dup k57_157 rfl ?_
    refine p_iload_n k57_158 rfl ?_
    refine p_iload_n k57_159 rfl ?_
    refine p_iload_n k57_160 rfl ?_
    refine p_iload k57_161 rfl ?_
    refine p_iload k57_163 rfl ?_
    refine p_aload_n k57_165 rfl ?_
    refine p_getRv k57_166 (s_0 S) f_11_50_11 (r_0_8 S) ?_
    refine p_cI6v k57_169 c_11_150 rfl rfl rfl rfl rfl rfl (Nat.le_of_ble_eq_true rfl) (C_ctorH2 S (nI 0) nm v sz tr hs_h_length) (fun m1 hq => ?_)
    obtain rfl := hq
    refine p_areturn k57_172 rt_57 ?_
    exact ⟨rfl, rfl⟩
  · skip
    refine p_tswI (tgt := 40) k57_1 (by decide) (by decide) (by decide) rfl (by decide) ?_
    refine p_new (ci := 6) k57_40 (by decide) hz ?_
    replace S := S.new (fun _ => none) (.inl 6)
    have hs_h_length := new_sh h (.inl 6)
    refine p_dup k57_43 rfl ?_
    refine p_iload_n k57_44 rfl ?_
    refine p_iload_n k57_45 rfl ?_
    refine p_iload_n k57_46 rfl ?_
    refine p_iload k57_47 rfl ?_
    refine p_iload k57_49 rfl ?_
    refine p_aload_n k57_51 rfl ?_
    refine p_getRv k57_52 (s_0 S) f_11_50_11 (r_0_8 S) ?_
    refine p_cI6v k57_55 c_11_130 rfl rfl rfl rfl rfl rfl (Nat.le_of_ble_eq_true rfl) (C_ctorT6 S (nI 1) nm v sz tr hs_h_length) (fun m1 hq => ?_)
    obtain rfl := hq
    refine p_areturn k57_58 rt_57 ?_
    exact ⟨rfl, rfl⟩
  · skip
    refine p_tswI (tgt := 59) k57_1 (by decide) (by decide) (by decide) rfl (by decide) ?_
    refine p_new (ci := 10) k57_59 (by decide) hz ?_
    replace S := S.new (fun _ => none) (.inl 10)
    have hs_h_length := new_sh h (.inl 10)
    refine p_dup k57_62 rfl ?_
    refine p_iload_n k57_63 rfl ?_
    refine p_iload_n k57_64 rfl ?_
    refine p_iload_n k57_65 rfl ?_
    refine p_iload k57_66 rfl ?_
    refine p_iload k57_68 rfl ?_
    refine p_aload_n k57_70 rfl ?_
    refine p_getRv k57_71 (s_0 S) f_11_50_11 (r_0_8 S) ?_
    refine p_cI6v k57_74 c_11_135 rfl rfl rfl rfl rfl rfl (Nat.le_of_ble_eq_true rfl) (C_ctorW10 S (nI 2) nm v sz tr hs_h_length) (fun m1 hq => ?_)
    obtain rfl := hq
    refine p_areturn k57_77 rt_57 ?_
    exact ⟨rfl, rfl⟩
  · skip
    refine p_tswI (tgt := 78) k57_1 (by decide) (by decide) (by decide) rfl (by decide) ?_
    refine p_new (ci := 0) k57_78 (by decide) hz ?_
    replace S := S.new (fun _ => none) (.inl 0)
    have hs_h_length := new_sh h (.inl 0)
    refine p_dup k57_81 rfl ?_
    refine p_iload_n k57_82 rfl ?_
    refine p_iload_n k57_83 rfl ?_
    refine p_iload_n k57_84 rfl ?_
    refine p_iload k57_85 rfl ?_
    refine p_iload k57_87 rfl ?_
    refine p_aload_n k57_89 rfl ?_
    refine p_getRv k57_90 (s_0 S) f_11_50_11 (r_0_8 S) ?_
    refine p_cI6v k57_93 c_11_138 rfl rfl rfl rfl rfl rfl (Nat.le_of_ble_eq_true rfl) (C_ctorC0 S (nI 3) nm v sz tr hs_h_length) (fun m1 hq => ?_)
    obtain rfl := hq
    refine p_areturn k57_96 rt_57 ?_
    exact ⟨rfl, rfl⟩
  · skip
    refine p_tswI (tgt := 97) k57_1 (by decide) (by decide) (by decide) rfl (by decide) ?_
    refine p_new (ci := 4) k57_97 (by decide) hz ?_
    replace S := S.new (fun _ => none) (.inl 4)
    have hs_h_length := new_sh h (.inl 4)
    refine p_dup k57_100 rfl ?_
    refine p_iload_n k57_101 rfl ?_
    refine p_iload_n k57_102 rfl ?_
    refine p_iload_n k57_103 rfl ?_
    refine p_iload k57_104 rfl ?_
    refine p_iload k57_106 rfl ?_
    refine p_aload_n k57_108 rfl ?_
    refine p_getRv k57_109 (s_0 S) f_11_50_11 (r_0_8 S) ?_
    refine p_cI6v k57_112 c_11_141 rfl rfl rfl rfl rfl rfl (Nat.le_of_ble_eq_true rfl) (C_ctorS4 S (nI 4) nm v sz tr hs_h_length) (fun m1 hq => ?_)
    obtain rfl := hq
    refine p_areturn k57_115 rt_57 ?_
    exact ⟨rfl, rfl⟩
  · skip
    refine p_tswI (tgt := 116) k57_1 (by decide) (by decide) (by decide) rfl (by decide) ?_
    refine p_new (ci := 1) k57_116 (by decide) hz ?_
    replace S := S.new (fun _ => none) (.inl 1)
    have hs_h_length := new_sh h (.inl 1)
    refine p_dup k57_119 rfl ?_
    refine p_iload_n k57_120 rfl ?_
    refine p_iload_n k57_121 rfl ?_
    refine p_iload_n k57_122 rfl ?_
    refine p_iload k57_123 rfl ?_
    refine p_iload k57_125 rfl ?_
    refine p_aload_n k57_127 rfl ?_
    refine p_getRv k57_128 (s_0 S) f_11_50_11 (r_0_8 S) ?_
    refine p_cI6v k57_131 c_11_144 rfl rfl rfl rfl rfl rfl (Nat.le_of_ble_eq_true rfl) (C_ctorF1 S (nI 5) nm v sz tr hs_h_length) (fun m1 hq => ?_)
    obtain rfl := hq
    refine p_areturn k57_134 rt_57 ?_
    exact ⟨rfl, rfl⟩
  · skip
    refine p_tswI (tgt := 135) k57_1 (by decide) (by decide) (by decide) rfl (by decide) ?_
    refine p_new (ci := 7) k57_135 (by decide) hz ?_
    replace S := S.new (fun _ => none) (.inl 7)
    have hs_h_length := new_sh h (.inl 7)
    refine p_dup k57_138 rfl ?_
    refine p_iload_n k57_139 rfl ?_
    refine p_iload_n k57_140 rfl ?_
    refine p_iload_n k57_141 rfl ?_
    refine p_iload k57_142 rfl ?_
    refine p_iload k57_144 rfl ?_
    refine p_aload_n k57_146 rfl ?_
    refine p_getRv k57_147 (s_0 S) f_11_50_11 (r_0_8 S) ?_
    refine p_cI6v k57_150 c_11_147 rfl rfl rfl rfl rfl rfl (Nat.le_of_ble_eq_true rfl) (C_ctorO7 S (nI 6) nm v sz tr hs_h_length) (fun m1 hq => ?_)
    obtain rfl := hq
    refine p_areturn k57_153 rt_57 ?_
    exact ⟨rfl, rfl⟩

