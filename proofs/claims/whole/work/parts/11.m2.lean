/-! the reference: clauses, E, fits, deed, today -/
/-- the clauses that hold stand at cb .. ce - 1 -/
def TH (I : Nat → Nat → Int32) (cb ce : Nat) : Prop := (I 98 15 < 0 ∧ cb = 0 ∧ ce = 0) ∨ ∃ tt nc, tt < 6 ∧ I 98 15 = nI tt ∧ I 111 tt = nI nc ∧ nc ≤ 10 ∧ cb = 10 * tt ∧ ce = cb + nc
theorem TH.le {I : Nat → Nat → Int32} {cb ce : Nat} (h : TH I cb ce) : cb ≤ ce ∧ ce ≤ 60 := by
  rcases h with ⟨-, rfl, rfl⟩ | ⟨tt, nc, h1, h2, h3, h4, rfl, rfl⟩ <;> omega
set_option maxRecDepth 100000 in
set_option maxHeartbeats 4000000 in
theorem M_begin {d : Nat} {I : Nat → Nat → Int32} {J : Nat → Nat → Int64} {K : Nat → Nat → Option Nat} {h : List xSh} (S : St K h) {cb ce : Nat} (hT : TH I cb ce) : EvP d 159 0 [(0, .ref (98))] [] (I, J, K, h) (QI (fun x t => x = nI cb ∧ t = (I, J, K, h))) := by
  rcases hT with ⟨hT1, rfl, rfl⟩ | ⟨tt, nc, h1, h2, h3, h4, rfl, rfl⟩
  · skip
    refine p_aload_n k159_0 rfl ?_
    refine p_getIv k159_1 (s_98 S) f_12_56_12 rfl ?_
    refine p_if_ge (tgt := 11) k159_4 (by decide) (fun c => False.elim (by exact absurd hT1 (by rw [i_lt]; rw [i_le] at c; exact Int.not_lt.mpr c))) (fun _ => ?_)
    refine p_iconst (v := nI 0) k159_7 (by decide) ?_
    refine p_goto (tgt := 18) k159_8 (by decide) ?_
    refine p_ireturn k159_18 rt_159 ?_
    exact ⟨rfl, rfl⟩
  · skip
    refine p_aload_n k159_0 rfl ?_
    refine p_getIv k159_1 (s_98 S) f_12_56_12 h2 ?_
    refine p_if_geN (tgt := 11) k159_4 (by decide) (by omega) ?_
    refine p_bipush (v := nI 10) k159_11 (by decide) ?_
    refine p_aload_n k159_13 rfl ?_
    refine p_getIv k159_14 (s_98 S) f_12_56_12 h2 ?_
    refine p_imulN k159_17 ?_
    refine p_ireturn k159_18 rt_159 ?_
    exact ⟨rfl, rfl⟩

set_option maxRecDepth 100000 in
set_option maxHeartbeats 4000000 in
theorem M_behind {d : Nat} {I : Nat → Nat → Int32} {J : Nat → Nat → Int64} {K : Nat → Nat → Option Nat} {h : List xSh} (S : St K h) {cb ce : Nat} (hT : TH I cb ce) : EvP d 160 0 [(0, .ref (98))] [] (I, J, K, h) (QI (fun x t => x = nI ce ∧ t = (I, J, K, h))) := by
  rcases hT with ⟨hT1, rfl, rfl⟩ | ⟨tt, nc, h1, h2, h3, h4, rfl, rfl⟩
  · skip
    refine p_aload_n k160_0 rfl ?_
    refine p_getIv k160_1 (s_98 S) f_12_56_12 rfl ?_
    refine p_if_ge (tgt := 11) k160_4 (by decide) (fun c => False.elim (by exact absurd hT1 (by rw [i_lt]; rw [i_le] at c; exact Int.not_lt.mpr c))) (fun _ => ?_)
    refine p_iconst (v := nI 0) k160_7 (by decide) ?_
    refine p_goto (tgt := 28) k160_8 (by decide) ?_
    refine p_ireturn k160_28 rt_160 ?_
    exact ⟨rfl, rfl⟩
  · skip
    refine p_aload_n k160_0 rfl ?_
    refine p_getIv k160_1 (s_98 S) f_12_56_12 h2 ?_
    refine p_if_geN (tgt := 11) k160_4 (by decide) (by omega) ?_
    refine p_bipush (v := nI 10) k160_11 (by decide) ?_
    refine p_aload_n k160_13 rfl ?_
    refine p_getIv k160_14 (s_98 S) f_12_56_12 h2 ?_
    refine p_imulN k160_17 ?_
    refine p_aload_n k160_18 rfl ?_
    refine p_getRv k160_19 (s_98 S) f_12_71_12 (r_98_20 S) ?_
    refine p_aload_n k160_22 rfl ?_
    refine p_getIv k160_23 (s_98 S) f_12_56_12 h2 ?_
    refine p_ialdN k160_26 (s_111 S) (by omega) (by decide) h3 ?_
    refine p_iaddN k160_27 ?_
    refine p_ireturn k160_28 rt_160 ?_
    exact ⟨rfl, rfl⟩

def fMoth (w q : Nat → Int32) (k : Nat) (s : Int32) : Int32 := if w k = nI 2 then q k else s
def fWork (w q z : Nat → Int32) (t : Int32) (k : Nat) (s : Int32) : Int32 := if w k = nI 3 ∧ q k = t then z k else s
def mothF (I : Nat → Nat → Int32) (cb ce : Nat) : Int32 := fld (fMoth (I 112) (I 113)) (ce - cb) cb (nI 0)
def workF (I : Nat → Nat → Int32) (cb ce : Nat) (t : Int32) : Int32 := fld (fWork (I 112) (I 113) (I 114) t) (ce - cb) cb (nI 10)
set_option maxRecDepth 100000 in
set_option maxHeartbeats 4000000 in
theorem M_moth {d : Nat} {I : Nat → Nat → Int32} {J : Nat → Nat → Int64} {K : Nat → Nat → Option Nat} {h : List xSh} (S : St K h) {cb ce : Nat} (hT : TH I cb ce) : EvP (d + 1) 161 0 [(0, .ref (98))] [] (I, J, K, h) (QI (fun x t => x = mothF I cb ce ∧ t = (I, J, K, h))) := by
  have hle := hT.le
  refine p_iconst (v := nI 0) k161_0 (by decide) ?_
  refine p_istore_n (ls' := [(0, _), (1, _)]) k161_1 rfl ?_
  refine p_aload_n k161_2 rfl ?_
  refine p_cV0i k161_3 (s_98 S) c_12_315_12 (Nat.le_of_ble_eq_true rfl) (M_begin S hT) (fun x1 m1 hq => ?_)
  obtain ⟨rfl, rfl⟩ := hq
  refine p_istore_n (ls' := [(0, _), (1, _), (2, _)]) k161_6 rfl ?_
  have L : ∀ (j : Nat) (k : Nat) (s : Int32), k + j = ce → EvP (d + 1) 161 7 [(0, .ref (98)), (1, .int (s)), (2, .int (nI (k)))] [] (I, J, K, h) (QI (fun x t => x = fld (fMoth (I 112) (I 113)) j k s ∧ t = (I, J, K, h))) := by
    intro j
    induction j with
    | zero =>
      intro k s hk
      refine p_iload_n k161_7 rfl ?_
      refine p_aload_n k161_8 rfl ?_
      refine p_cV0i k161_9 (s_98 S) c_12_318_12 (Nat.le_of_ble_eq_true rfl) (M_behind S hT) (fun x1 m1 hq => ?_)
      obtain ⟨rfl, rfl⟩ := hq
      refine p_icmp_geN (tgt := 42) k161_12 (by decide) (by omega) (by omega) (fun _ => ?_) (fun c => False.elim (by omega))
      refine p_iload_n k161_42 rfl ?_
      refine p_ireturn k161_43 rt_161 ?_
      exact ⟨rfl, rfl⟩
    | succ j ih =>
      intro k s hk
      refine p_iload_n k161_7 rfl ?_
      refine p_aload_n k161_8 rfl ?_
      refine p_cV0i k161_9 (s_98 S) c_12_318_12 (Nat.le_of_ble_eq_true rfl) (M_behind S hT) (fun x1 m1 hq => ?_)
      obtain ⟨rfl, rfl⟩ := hq
      refine p_icmp_geN (tgt := 42) k161_12 (by decide) (by omega) (by omega) (fun c => False.elim (by omega)) (fun _ => ?_)
      refine p_aload_n k161_15 rfl ?_
      refine p_getRv k161_16 (s_98 S) f_12_74_12 (r_98_21 S) ?_
      refine p_iload_n k161_19 rfl ?_
      refine p_ialdN k161_20 (s_112 S) (by omega) (by decide) rfl ?_
      refine p_iconst (v := nI 2) k161_21 (by decide) ?_
      refine p_icmp_ne (tgt := 34) k161_22 (by decide) (fun c22 => ?_) (fun c22 => ?_)
      · skip
        refine p_iload_n k161_34 rfl ?_
        refine p_istore_n (ls' := [(0, _), (1, _), (2, _)]) k161_35 rfl ?_
        refine p_iincN (ls1 := [(0, _), (1, _), (2, _)]) k161_36 rfl rfl ?_
        refine p_goto (tgt := 7) k161_39 (by decide) ?_
        refine EvP.mono (ih (k + 1) _ (by omega)) (fun r t hq => ?_)
        obtain ⟨x, rfl, rfl, rfl⟩ := hq
        exact ⟨_, rfl, by show fld (fMoth (I 112) (I 113)) j (k + 1) _ = fld (fMoth (I 112) (I 113)) j (k + 1) _; congr 1; simp [fMoth, *], rfl⟩
      · skip
        refine p_aload_n k161_25 rfl ?_
        refine p_getRv k161_26 (s_98 S) f_12_77_12 (r_98_22 S) ?_
        refine p_iload_n k161_29 rfl ?_
        refine p_ialdN k161_30 (s_113 S) (by omega) (by decide) rfl ?_
        refine p_goto (tgt := 35) k161_31 (by decide) ?_
        refine p_istore_n (ls' := [(0, _), (1, _), (2, _)]) k161_35 rfl ?_
        refine p_iincN (ls1 := [(0, _), (1, _), (2, _)]) k161_36 rfl rfl ?_
        refine p_goto (tgt := 7) k161_39 (by decide) ?_
        refine EvP.mono (ih (k + 1) _ (by omega)) (fun r t hq => ?_)
        obtain ⟨x, rfl, rfl, rfl⟩ := hq
        exact ⟨_, rfl, by show fld (fMoth (I 112) (I 113)) j (k + 1) _ = fld (fMoth (I 112) (I 113)) j (k + 1) _; congr 1; simp [fMoth, *], rfl⟩
  exact L (ce - cb) cb _ (by omega)

set_option maxRecDepth 100000 in
set_option maxHeartbeats 4000000 in
theorem M_work {d : Nat} {I : Nat → Nat → Int32} {J : Nat → Nat → Int64} {K : Nat → Nat → Option Nat} {h : List xSh} (S : St K h) {cb ce : Nat} (hT : TH I cb ce) (q : Int32) : EvP (d + 1) 162 0 [(0, .ref (98)), (1, .int (q))] [] (I, J, K, h) (QI (fun x t => x = workF I cb ce q ∧ t = (I, J, K, h))) := by
  have hle := hT.le
  refine p_bipush (v := nI 10) k162_0 (by decide) ?_
  refine p_istore_n (ls' := [(0, _), (1, _), (2, _)]) k162_2 rfl ?_
  refine p_aload_n k162_3 rfl ?_
  refine p_cV0i k162_4 (s_98 S) c_12_315_12 (Nat.le_of_ble_eq_true rfl) (M_begin S hT) (fun x1 m1 hq => ?_)
  obtain ⟨rfl, rfl⟩ := hq
  refine p_istore_n (ls' := [(0, _), (1, _), (2, _), (3, _)]) k162_7 rfl ?_
  have L : ∀ (j : Nat) (k : Nat) (s : Int32), k + j = ce → EvP (d + 1) 162 8 [(0, .ref (98)), (1, .int (q)), (2, .int (s)), (3, .int (nI (k)))] [] (I, J, K, h) (QI (fun x t => x = fld (fWork (I 112) (I 113) (I 114) q) j k s ∧ t = (I, J, K, h))) := by
    intro j
    induction j with
    | zero =>
      intro k s hk
      refine p_iload_n k162_8 rfl ?_
      refine p_aload_n k162_9 rfl ?_
      refine p_cV0i k162_10 (s_98 S) c_12_318_12 (Nat.le_of_ble_eq_true rfl) (M_behind S hT) (fun x1 m1 hq => ?_)
      obtain ⟨rfl, rfl⟩ := hq
      refine p_icmp_geN (tgt := 53) k162_13 (by decide) (by omega) (by omega) (fun _ => ?_) (fun c => False.elim (by omega))
      refine p_iload_n k162_53 rfl ?_
      refine p_ireturn k162_54 rt_162 ?_
      exact ⟨rfl, rfl⟩
    | succ j ih =>
      intro k s hk
      refine p_iload_n k162_8 rfl ?_
      refine p_aload_n k162_9 rfl ?_
      refine p_cV0i k162_10 (s_98 S) c_12_318_12 (Nat.le_of_ble_eq_true rfl) (M_behind S hT) (fun x1 m1 hq => ?_)
      obtain ⟨rfl, rfl⟩ := hq
      refine p_icmp_geN (tgt := 53) k162_13 (by decide) (by omega) (by omega) (fun c => False.elim (by omega)) (fun _ => ?_)
      refine p_aload_n k162_16 rfl ?_
      refine p_getRv k162_17 (s_98 S) f_12_74_12 (r_98_21 S) ?_
      refine p_iload_n k162_20 rfl ?_
      refine p_ialdN k162_21 (s_112 S) (by omega) (by decide) rfl ?_
      refine p_iconst (v := nI 3) k162_22 (by decide) ?_
      refine p_icmp_ne (tgt := 45) k162_23 (by decide) (fun c23 => ?_) (fun c23 => ?_)
      · skip
        refine p_iload_n k162_45 rfl ?_
        refine p_istore_n (ls' := [(0, _), (1, _), (2, _), (3, _)]) k162_46 rfl ?_
        refine p_iincN (ls1 := [(0, _), (1, _), (2, _), (3, _)]) k162_47 rfl rfl ?_
        refine p_goto (tgt := 8) k162_50 (by decide) ?_
        refine EvP.mono (ih (k + 1) _ (by omega)) (fun r t hq => ?_)
        obtain ⟨x, rfl, rfl, rfl⟩ := hq
        exact ⟨_, rfl, by show fld (fWork (I 112) (I 113) (I 114) q) j (k + 1) _ = fld (fWork (I 112) (I 113) (I 114) q) j (k + 1) _; congr 1; simp [fWork, *], rfl⟩
      · skip
        refine p_aload_n k162_26 rfl ?_
        refine p_getRv k162_27 (s_98 S) f_12_77_12 (r_98_22 S) ?_
        refine p_iload_n k162_30 rfl ?_
        refine p_ialdN k162_31 (s_113 S) (by omega) (by decide) rfl ?_
        refine p_iload_n k162_32 rfl ?_
        refine p_icmp_ne (tgt := 45) k162_33 (by decide) (fun c33 => ?_) (fun c33 => ?_)
        · skip
          refine p_iload_n k162_45 rfl ?_
          refine p_istore_n (ls' := [(0, _), (1, _), (2, _), (3, _)]) k162_46 rfl ?_
          refine p_iincN (ls1 := [(0, _), (1, _), (2, _), (3, _)]) k162_47 rfl rfl ?_
          refine p_goto (tgt := 8) k162_50 (by decide) ?_
          refine EvP.mono (ih (k + 1) _ (by omega)) (fun r t hq => ?_)
          obtain ⟨x, rfl, rfl, rfl⟩ := hq
          exact ⟨_, rfl, by show fld (fWork (I 112) (I 113) (I 114) q) j (k + 1) _ = fld (fWork (I 112) (I 113) (I 114) q) j (k + 1) _; congr 1; simp [fWork, *], rfl⟩
        · skip
          refine p_aload_n k162_36 rfl ?_
          refine p_getRv k162_37 (s_98 S) f_12_80_12 (r_98_23 S) ?_
          refine p_iload_n k162_40 rfl ?_
          refine p_ialdN k162_41 (s_114 S) (by omega) (by decide) rfl ?_
          refine p_goto (tgt := 46) k162_42 (by decide) ?_
          refine p_istore_n (ls' := [(0, _), (1, _), (2, _), (3, _)]) k162_46 rfl ?_
          refine p_iincN (ls1 := [(0, _), (1, _), (2, _), (3, _)]) k162_47 rfl rfl ?_
          refine p_goto (tgt := 8) k162_50 (by decide) ?_
          refine EvP.mono (ih (k + 1) _ (by omega)) (fun r t hq => ?_)
          obtain ⟨x, rfl, rfl, rfl⟩ := hq
          exact ⟨_, rfl, by show fld (fWork (I 112) (I 113) (I 114) q) j (k + 1) _ = fld (fWork (I 112) (I 113) (I 114) q) j (k + 1) _; congr 1; simp [fWork, *], rfl⟩
  exact L (ce - cb) cb _ (by omega)

