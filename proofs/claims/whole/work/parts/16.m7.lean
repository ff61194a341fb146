/-! the reference: days, gusts, what is kept and put back -/
def fGo (w : Nat → Int32) (mu : Int32) (k : Nat) (u : Nat → Int32) : Nat → Int32 := if w k < 0 then u else upc u (w k).toNatClampNeg (if mu ≤ u (w k).toNatClampNeg then mu else u (w k).toNatClampNeg + nI 1)
def goU (I : Nat → Nat → Int32) (nh : Nat) : Nat → Int32 := fld (fGo (I 101) (I 98 33)) nh 0 (I 107)
/-- a day goes by: hats are used -/
def goI (I : Nat → Nat → Int32) (nh : Nat) : Nat → Nat → Int32 := s1 (upc I 107 (goU I nh)) 98 2 (I 98 2 + nI 1)
theorem goI_up {I : Nat → Nat → Int32} {nh : Nat} {g : Nat → Int32} : goI (upc I 120 g) nh = upc (goI I nh) 120 g := by
  funext c
  by_cases h1 : c = 98
  · subst h1; rfl
  by_cases h2 : c = 107
  · subst h2; rfl
  by_cases h3 : c = 120
  · subst h3; rfl
  unfold goI s1
  simp only [upc, h1, h2, h3, if_false]
set_option maxRecDepth 100000 in
set_option maxHeartbeats 4000000 in
theorem M_goDay {d : Nat} {I : Nat → Nat → Int32} {J : Nat → Nat → Int64} {K : Nat → Nat → Option Nat} {h : List xSh} (S : St K h) {nh na dd cb ce : Nat} (M : MI I nh na dd cb ce) : EvP d 172 0 [(0, .ref (98))] [] (I, J, K, h) (QV (fun t => t = (goI I nh, J, K, h))) := by
  have hnh := M.nh
  have hnh6 := M.nh6
  have hna := M.na
  have hna6 := M.na6
  refine p_iconst (v := nI 0) k172_0 (by decide) ?_
  refine p_istore_n (ls' := [(0, _), (1, _)]) k172_1 rfl ?_
  have L : ∀ (j : Nat) (k : Nat) (u : Nat → Int32), k + j = nh → fld (fGo (I 101) (I 98 33)) j k u = goU I nh → EvP d 172 2 [(0, .ref (98)), (1, .int (nI (k)))] [] (upc I 107 u, J, K, h) (QV (fun t => t = (goI I nh, J, K, h))) := by
    intro j
    induction j with
    | zero =>
      intro k u hk
      intro hu
      have hu2 : u = goU I nh := hu
      subst hu2
      refine p_iload_n k172_2 rfl ?_
      refine p_aload_n k172_3 rfl ?_
      refine p_getIv k172_4 (s_98 S) f_12_7_12 M.nh ?_
      refine p_icmp_geN (tgt := 74) k172_7 (by decide) (by omega) (by omega) (fun _ => ?_) (fun c => False.elim (by omega))
      refine p_aload_n k172_74 rfl ?_
      refine p_dup k172_75 rfl ?_
      refine p_getIv k172_76 (s_98 S) f_12_16_12 (show upc I 107 (goU I nh) 98 2 = I 98 2 from rfl) ?_
      refine p_iconst (v := nI 1) k172_79 (by decide) ?_
      refine p_iadd k172_80 ?_
      refine p_putIv k172_81 (s_98 S) g_12_16_12 n_172_12_2 ?_
      refine p_return k172_84 rt_172 ?_
      exact rfl
    | succ j ih =>
      intro k u hk
      intro hu
      rcases M.worn k (by omega) with hkw | ⟨a, ha, hka⟩
      · skip
        have hw0 : I 101 k < 0 := by rw [hkw]; decide
        refine p_iload_n k172_2 rfl ?_
        refine p_aload_n k172_3 rfl ?_
        refine p_getIv k172_4 (s_98 S) f_12_7_12 M.nh ?_
        refine p_icmp_geN (tgt := 74) k172_7 (by decide) (by omega) (by omega) (fun c => False.elim (by omega)) (fun _ => ?_)
        refine p_aload_n k172_10 rfl ?_
        refine p_getRv k172_11 (s_98 S) f_12_26_12 (r_98_5 S) ?_
        refine p_iload_n k172_14 rfl ?_
        refine p_ialdN k172_15 (s_101 S) (by omega) (by decide) (show upc I 107 u 101 k = I 101 k from rfl) ?_
        refine p_if_lt (tgt := 68) k172_16 (by decide) (fun _ => ?_) (fun c => False.elim (by exact c hw0))
        refine p_iincN (ls1 := [(0, _), (1, _)]) k172_68 rfl rfl ?_
        refine p_goto (tgt := 2) k172_71 (by decide) ?_
        exact ih (k + 1) _ (by omega) (by rw [← hu]; show fld (fGo (I 101) (I 98 33)) j (k + 1) _ = fld (fGo (I 101) (I 98 33)) j (k + 1) _; congr 1; unfold fGo; rw [if_pos hw0])
      · skip
        have hcl : (I 101 k).toNatClampNeg = a := by rw [hka, nI_clamp (by omega)]
        have hw0 : ¬ I 101 k < 0 := by rw [hka, i_lt, nI_t (by omega)]; show ¬ (a : Int) < 0; omega
        refine p_iload_n k172_2 rfl ?_
        refine p_aload_n k172_3 rfl ?_
        refine p_getIv k172_4 (s_98 S) f_12_7_12 M.nh ?_
        refine p_icmp_geN (tgt := 74) k172_7 (by decide) (by omega) (by omega) (fun c => False.elim (by omega)) (fun _ => ?_)
        refine p_aload_n k172_10 rfl ?_
        refine p_getRv k172_11 (s_98 S) f_12_26_12 (r_98_5 S) ?_
        refine p_iload_n k172_14 rfl ?_
        refine p_ialdN k172_15 (s_101 S) (by omega) (by decide) (show upc I 107 u 101 k = nI a from hka) ?_
        refine p_if_ltN (tgt := 68) k172_16 (by decide) (by omega) ?_
        refine p_aload_n k172_19 rfl ?_
        refine p_getRv k172_20 (s_98 S) f_12_44_12 (r_98_11 S) ?_
        refine p_aload_n k172_23 rfl ?_
        refine p_getRv k172_24 (s_98 S) f_12_26_12 (r_98_5 S) ?_
        refine p_iload_n k172_27 rfl ?_
        refine p_ialdN k172_28 (s_101 S) (by omega) (by decide) (show upc I 107 u 101 k = nI a from hka) ?_
        refine p_aload_n k172_29 rfl ?_
        refine p_getRv k172_30 (s_98 S) f_12_44_12 (r_98_11 S) ?_
        refine p_aload_n k172_33 rfl ?_
        refine p_getRv k172_34 (s_98 S) f_12_26_12 (r_98_5 S) ?_
        refine p_iload_n k172_37 rfl ?_
        refine p_ialdN k172_38 (s_101 S) (by omega) (by decide) (show upc I 107 u 101 k = nI a from hka) ?_
        refine p_ialdN k172_39 (s_107 S) (by omega) (by decide) (show upc I 107 u 107 a = u a from rfl) ?_
        refine p_aload_n k172_40 rfl ?_
        refine p_getIv k172_41 (s_98 S) f_12_111_12 (show upc I 107 u 98 33 = I 98 33 from rfl) ?_
        refine p_icmp_ge (tgt := 63) k172_44 (by decide) (fun c44 => ?_) (fun c44 => ?_)
        · skip
          refine p_aload_n k172_63 rfl ?_
          refine p_getIv k172_64 (s_98 S) f_12_111_12 (show upc I 107 u 98 33 = I 98 33 from rfl) ?_
          refine p_iastN k172_67 (s_107 S) (by omega) (by decide) ?_
          refine p_iincN (ls1 := [(0, _), (1, _)]) k172_68 rfl rfl ?_
          refine p_goto (tgt := 2) k172_71 (by decide) ?_
          rw [upc_uu, upc_eq]
          exact ih (k + 1) _ (by omega) (by rw [← hu]; show fld (fGo (I 101) (I 98 33)) j (k + 1) _ = fld (fGo (I 101) (I 98 33)) j (k + 1) _; congr 1; unfold fGo; first | rw [if_neg hw0, hcl, if_pos c44] | rw [if_neg hw0, hcl, if_neg c44])
        · skip
          refine p_aload_n k172_47 rfl ?_
          refine p_getRv k172_48 (s_98 S) f_12_44_12 (r_98_11 S) ?_
          refine p_aload_n k172_51 rfl ?_
          refine p_getRv k172_52 (s_98 S) f_12_26_12 (r_98_5 S) ?_
          refine p_iload_n k172_55 rfl ?_
          refine p_ialdN k172_56 (s_101 S) (by omega) (by decide) (show upc I 107 u 101 k = nI a from hka) ?_
          refine p_ialdN k172_57 (s_107 S) (by omega) (by decide) (show upc I 107 u 107 a = u a from rfl) ?_
          refine p_iconst (v := nI 1) k172_58 (by decide) ?_
          refine p_iadd k172_59 ?_
          refine p_goto (tgt := 67) k172_60 (by decide) ?_
          refine p_iastN k172_67 (s_107 S) (by omega) (by decide) ?_
          refine p_iincN (ls1 := [(0, _), (1, _)]) k172_68 rfl rfl ?_
          refine p_goto (tgt := 2) k172_71 (by decide) ?_
          rw [upc_uu, upc_eq]
          exact ih (k + 1) _ (by omega) (by rw [← hu]; show fld (fGo (I 101) (I 98 33)) j (k + 1) _ = fld (fGo (I 101) (I 98 33)) j (k + 1) _; congr 1; unfold fGo; first | rw [if_neg hw0, hcl, if_pos c44] | rw [if_neg hw0, hcl, if_neg c44])
  refine p_self 107 ?_
  exact L nh 0 (I 107) (by omega) rfl

def cpy6 (f g : Nat → Int32) : Nat → Int32 := fun k => if k < 6 then f k else g k
def fCpy (f : Nat → Int32) (k : Nat) (u : Nat → Int32) : Nat → Int32 := upc u k (f k)
theorem fld_cpy6 (f g : Nat → Int32) : fld (fCpy f) 6 0 g = cpy6 f g := by
  funext k
  show fCpy f 5 (fCpy f 4 (fCpy f 3 (fCpy f 2 (fCpy f 1 (fCpy f 0 g))))) k = _
  unfold cpy6 fCpy
  by_cases hk : k < 6
  · rw [if_pos hk]
    rcases (show k = 0 ∨ k = 1 ∨ k = 2 ∨ k = 3 ∨ k = 4 ∨ k = 5 by omega) with rfl | rfl | rfl | rfl | rfl | rfl <;> rfl
  · rw [if_neg hk, upc_ne _ _ (by omega), upc_ne _ _ (by omega), upc_ne _ _ (by omega), upc_ne _ _ (by omega), upc_ne _ _ (by omega), upc_ne _ _ (by omega)]
def svI (I : Nat → Nat → Int32) : Nat → Nat → Int32 := upc (upc (s1 (s1 I 98 33 2000000000) 98 35 (I 98 2)) 122 (cpy6 (I 107) (I 122))) 123 (cpy6 (I 101) (I 123))
def pbI (I : Nat → Nat → Int32) : Nat → Nat → Int32 := upc (upc (s1 (s1 I 98 33 (nI 9999)) 98 2 (I 98 35)) 107 (cpy6 (I 122) (I 107))) 101 (cpy6 (I 123) (I 101))
set_option maxRecDepth 100000 in
set_option maxHeartbeats 4000000 in
theorem M_save {d : Nat} {I : Nat → Nat → Int32} {J : Nat → Nat → Int64} {K : Nat → Nat → Option Nat} {h : List xSh} (S : St K h)  : EvP d 181 0 [(0, .ref (98))] [] (I, J, K, h) (QV (fun t => t = (svI I, J, K, h))) := by
  refine p_aload_n k181_0 rfl ?_
  refine p_ldcw (v := (2000000000)) k181_1 (by decide) ?_
  refine p_putIv k181_4 (s_98 S) g_12_111_12 n_181_12_33 ?_
  refine p_aload_n k181_7 rfl ?_
  refine p_aload_n k181_8 rfl ?_
  refine p_getIv k181_9 (s_98 S) f_12_16_12 rfl ?_
  refine p_putIv k181_12 (s_98 S) g_12_117_12 n_181_12_35 ?_
  refine p_iconst (v := nI 0) k181_15 (by decide) ?_
  refine p_istore_n (ls' := [(0, _), (1, _)]) k181_16 rfl ?_
  have L : ∀ (j : Nat) (k : Nat) (u w : Nat → Int32), k + j = 6 → fld (fCpy (I 107)) j k u = cpy6 (I 107) (I 122) → fld (fCpy (I 101)) j k w = cpy6 (I 101) (I 123) → EvP d 181 17 [(0, .ref (98)), (1, .int (nI (k)))] [] (upc (upc (s1 (s1 I 98 33 2000000000) 98 35 (I 98 2)) 122 u) 123 w, J, K, h) (QV (fun t => t = (svI I, J, K, h))) := by
    intro j
    induction j with
    | zero =>
      intro k u w hk
      intro hu hw
      have hu2 : u = _ := hu
      have hw2 : w = _ := hw
      subst hu2; subst hw2
      refine p_iload_n k181_17 rfl ?_
      refine p_bipush (v := nI 6) k181_18 (by decide) ?_
      refine p_icmp_geN (tgt := 53) k181_20 (by decide) (by omega) (by omega) (fun _ => ?_) (fun c => False.elim (by omega))
      refine p_return k181_53 rt_181 ?_
      exact rfl
    | succ j ih =>
      intro k u w hk
      intro hu hw
      refine p_iload_n k181_17 rfl ?_
      refine p_bipush (v := nI 6) k181_18 (by decide) ?_
      refine p_icmp_geN (tgt := 53) k181_20 (by decide) (by omega) (by omega) (fun c => False.elim (by omega)) (fun _ => ?_)
      refine p_aload_n k181_23 rfl ?_
      refine p_getRv k181_24 (s_98 S) f_12_120_12 (r_98_36 S) ?_
      refine p_iload_n k181_27 rfl ?_
      refine p_aload_n k181_28 rfl ?_
      refine p_getRv k181_29 (s_98 S) f_12_44_12 (r_98_11 S) ?_
      refine p_iload_n k181_32 rfl ?_
      refine p_ialdN k181_33 (s_107 S) (by omega) (by decide) (show _ = I 107 k from rfl) ?_
      refine p_iastN k181_34 (s_122 S) (by omega) (by decide) ?_
      refine p_aload_n k181_35 rfl ?_
      refine p_getRv k181_36 (s_98 S) f_12_123_12 (r_98_37 S) ?_
      refine p_iload_n k181_39 rfl ?_
      refine p_aload_n k181_40 rfl ?_
      refine p_getRv k181_41 (s_98 S) f_12_26_12 (r_98_5 S) ?_
      refine p_iload_n k181_44 rfl ?_
      refine p_ialdN k181_45 (s_101 S) (by omega) (by decide) (show _ = I 101 k from rfl) ?_
      refine p_iastN k181_46 (s_123 S) (by omega) (by decide) ?_
      refine p_iincN (ls1 := [(0, _), (1, _)]) k181_47 rfl rfl ?_
      refine p_goto (tgt := 17) k181_50 (by decide) ?_
      have e9 : ∀ (x y : Int32), upc (upc (upc (upc (s1 (s1 I 98 33 2000000000) 98 35 (I 98 2)) 122 u) 123 w) 122 (upc u k x)) 123 (upc w k y) = upc (upc (s1 (s1 I 98 33 2000000000) 98 35 (I 98 2)) 122 (upc u k x)) 123 (upc w k y) := fun x y => by rw [upc_sw _ (show 123 ≠ 122 by decide), upc_uu, upc_uu]
      refine (show _ = _ from congrArg (fun z => EvP _ _ _ _ _ (z, J, K, h) _) (e9 (I 107 k) (I 101 k))).mpr ?_
      exact ih (k + 1) _ _ (by omega) hu hw
  refine p_self 122 ?_
  refine p_self 123 ?_
  exact L 6 0 (I 122) (I 123) (by omega) (fld_cpy6 _ _) (fld_cpy6 _ _)

set_option maxRecDepth 100000 in
set_option maxHeartbeats 4000000 in
theorem M_putBack {d : Nat} {I : Nat → Nat → Int32} {J : Nat → Nat → Int64} {K : Nat → Nat → Option Nat} {h : List xSh} (S : St K h)  : EvP d 182 0 [(0, .ref (98))] [] (I, J, K, h) (QV (fun t => t = (pbI I, J, K, h))) := by
  refine p_aload_n k182_0 rfl ?_
  refine p_sipush (v := nI 9999) k182_1 (by decide) ?_
  refine p_putIv k182_4 (s_98 S) g_12_111_12 n_182_12_33 ?_
  refine p_aload_n k182_7 rfl ?_
  refine p_aload_n k182_8 rfl ?_
  refine p_getIv k182_9 (s_98 S) f_12_117_12 rfl ?_
  refine p_putIv k182_12 (s_98 S) g_12_16_12 n_182_12_2 ?_
  refine p_iconst (v := nI 0) k182_15 (by decide) ?_
  refine p_istore_n (ls' := [(0, _), (1, _)]) k182_16 rfl ?_
  have L : ∀ (j : Nat) (k : Nat) (u w : Nat → Int32), k + j = 6 → fld (fCpy (I 122)) j k u = cpy6 (I 122) (I 107) → fld (fCpy (I 123)) j k w = cpy6 (I 123) (I 101) → EvP d 182 17 [(0, .ref (98)), (1, .int (nI (k)))] [] (upc (upc (s1 (s1 I 98 33 (nI 9999)) 98 2 (I 98 35)) 107 u) 101 w, J, K, h) (QV (fun t => t = (pbI I, J, K, h))) := by
    intro j
    induction j with
    | zero =>
      intro k u w hk
      intro hu hw
      have hu2 : u = _ := hu
      have hw2 : w = _ := hw
      subst hu2; subst hw2
      refine p_iload_n k182_17 rfl ?_
      refine p_bipush (v := nI 6) k182_18 (by decide) ?_
      refine p_icmp_geN (tgt := 53) k182_20 (by decide) (by omega) (by omega) (fun _ => ?_) (fun c => False.elim (by omega))
      refine p_return k182_53 rt_182 ?_
      exact rfl
    | succ j ih =>
      intro k u w hk
      intro hu hw
      refine p_iload_n k182_17 rfl ?_
      refine p_bipush (v := nI 6) k182_18 (by decide) ?_
      refine p_icmp_geN (tgt := 53) k182_20 (by decide) (by omega) (by omega) (fun c => False.elim (by omega)) (fun _ => ?_)
      refine p_aload_n k182_23 rfl ?_
      refine p_getRv k182_24 (s_98 S) f_12_44_12 (r_98_11 S) ?_
      refine p_iload_n k182_27 rfl ?_
      refine p_aload_n k182_28 rfl ?_
      refine p_getRv k182_29 (s_98 S) f_12_120_12 (r_98_36 S) ?_
      refine p_iload_n k182_32 rfl ?_
      refine p_ialdN k182_33 (s_122 S) (by omega) (by decide) (show _ = I 122 k from rfl) ?_
      refine p_iastN k182_34 (s_107 S) (by omega) (by decide) ?_
      refine p_aload_n k182_35 rfl ?_
      refine p_getRv k182_36 (s_98 S) f_12_26_12 (r_98_5 S) ?_
      refine p_iload_n k182_39 rfl ?_
      refine p_aload_n k182_40 rfl ?_
      refine p_getRv k182_41 (s_98 S) f_12_123_12 (r_98_37 S) ?_
      refine p_iload_n k182_44 rfl ?_
      refine p_ialdN k182_45 (s_123 S) (by omega) (by decide) (show _ = I 123 k from rfl) ?_
      refine p_iastN k182_46 (s_101 S) (by omega) (by decide) ?_
      refine p_iincN (ls1 := [(0, _), (1, _)]) k182_47 rfl rfl ?_
      refine p_goto (tgt := 17) k182_50 (by decide) ?_
      have e9 : ∀ (x y : Int32), upc (upc (upc (upc (s1 (s1 I 98 33 (nI 9999)) 98 2 (I 98 35)) 107 u) 101 w) 107 (upc u k x)) 101 (upc w k y) = upc (upc (s1 (s1 I 98 33 (nI 9999)) 98 2 (I 98 35)) 107 (upc u k x)) 101 (upc w k y) := fun x y => by rw [upc_sw _ (show 101 ≠ 107 by decide), upc_uu, upc_uu]
      refine (show _ = _ from congrArg (fun z => EvP _ _ _ _ _ (z, J, K, h) _) (e9 (I 122 k) (I 123 k))).mpr ?_
      exact ih (k + 1) _ _ (by omega) hu hw
  refine p_self 107 ?_
  refine p_self 101 ?_
  exact L 6 0 (I 107) (I 101) (by omega) (fld_cpy6 _ _) (fld_cpy6 _ _)

def fGuB (w : Nat → Int32) (gg nh k : Nat) (b : Nat → Int32) : Nat → Int32 := upc b ((k + gg) % nh) (w k)
def fGuN (w : Nat → Int32) (k n : Nat) : Nat := n + (if w k < 0 then 0 else 1)
def gusB (I : Nat → Nat → Int32) (gg nh : Nat) : Nat → Int32 := fld (fGuB (I 101) gg nh) nh 0 (I 121)
def gusN (I : Nat → Nat → Int32) (nh : Nat) : Nat := fld (fGuN (I 101)) nh 0 0
def gusW (I : Nat → Nat → Int32) (gg nh : Nat) : Nat → Int32 := fld (fCpy (gusB I gg nh)) nh 0 (I 101)
def gusI (I : Nat → Nat → Int32) (gg nh : Nat) : Nat → Nat → Int32 := upc (upc I 121 (gusB I gg nh)) 101 (gusW I gg nh)
set_option maxRecDepth 100000 in
set_option maxHeartbeats 4000000 in
theorem M_goGust {d : Nat} {I : Nat → Nat → Int32} {J : Nat → Nat → Int64} {K : Nat → Nat → Option Nat} {h : List xSh} (S : St K h) {nh na dd cb ce : Nat} (M : MI I nh na dd cb ce) {gg : Nat} (hgg : gg < 6) : EvP d 174 0 [(0, .ref (98)), (1, .int (nI (gg)))] [] (I, J, K, h) (QI (fun x t => x = nI (gusN I nh) ∧ t = (gusI I gg nh, J, K, h))) := by
  have hnh := M.nh
  have hnh6 := M.nh6
  have hna := M.na
  have hna6 := M.na6
  refine p_iconst (v := nI 0) k174_0 (by decide) ?_
  refine p_istore_n (ls' := [(0, _), (1, _), (2, _)]) k174_1 rfl ?_
  refine p_iconst (v := nI 0) k174_2 (by decide) ?_
  refine p_istore_n (ls' := [(0, _), (1, _), (2, _), (3, _)]) k174_3 rfl ?_
  have L : ∀ (j : Nat) (k n : Nat) (b : Nat → Int32), k + j = nh → fld (fGuB (I 101) gg nh) j k b = gusB I gg nh → fld (fGuN (I 101)) j k n = gusN I nh → EvP d 174 4 [(0, .ref (98)), (1, .int (nI (gg))), (2, .int (nI (n))), (3, .int (nI (k)))] [] (upc I 121 b, J, K, h) (QI (fun x t => x = nI (gusN I nh) ∧ t = (gusI I gg nh, J, K, h))) := by
    intro j
    induction j with
    | zero =>
      intro k n b hk
      intro hb hn
      have hb2 : b = gusB I gg nh := hb
      have hn2 : n = gusN I nh := hn
      subst hb2; subst hn2
      refine p_iload_n k174_4 rfl ?_
      refine p_aload_n k174_5 rfl ?_
      refine p_getIv k174_6 (s_98 S) f_12_7_12 M.nh ?_
      refine p_icmp_geN (tgt := 54) k174_9 (by decide) (by omega) (by omega) (fun _ => ?_) (fun c => False.elim (by omega))
      refine p_iconst (v := nI 0) k174_54 (by decide) ?_
      refine p_istore_n (ls' := [(0, _), (1, _), (2, _), (3, _)]) k174_55 rfl ?_
      have L2 : ∀ (j : Nat) (k : Nat) (w : Nat → Int32), k + j = nh → fld (fCpy (gusB I gg nh)) j k w = gusW I gg nh → EvP d 174 56 [(0, .ref (98)), (1, .int (nI (gg))), (2, .int (nI (gusN I nh))), (3, .int (nI (k)))] [] (upc (upc I 121 (gusB I gg nh)) 101 w, J, K, h) (QI (fun x t => x = nI (gusN I nh) ∧ t = (gusI I gg nh, J, K, h))) := by
        intro j
        induction j with
        | zero =>
          intro k w hk
          intro hw
          have hw2 : w = gusW I gg nh := hw
          subst hw2
          refine p_iload_n k174_56 rfl ?_
          refine p_aload_n k174_57 rfl ?_
          refine p_getIv k174_58 (s_98 S) f_12_7_12 M.nh ?_
          refine p_icmp_geN (tgt := 82) k174_61 (by decide) (by omega) (by omega) (fun _ => ?_) (fun c => False.elim (by omega))
          refine p_iload_n k174_82 rfl ?_
          refine p_ireturn k174_83 rt_174 ?_
          exact ⟨rfl, rfl⟩
        | succ j ih =>
          intro k w hk
          intro hw
          refine p_iload_n k174_56 rfl ?_
          refine p_aload_n k174_57 rfl ?_
          refine p_getIv k174_58 (s_98 S) f_12_7_12 M.nh ?_
          refine p_icmp_geN (tgt := 82) k174_61 (by decide) (by omega) (by omega) (fun c => False.elim (by omega)) (fun _ => ?_)
          refine p_aload_n k174_64 rfl ?_
          refine p_getRv k174_65 (s_98 S) f_12_26_12 (r_98_5 S) ?_
          refine p_iload_n k174_68 rfl ?_
          refine p_aload_n k174_69 rfl ?_
          refine p_getRv k174_70 (s_98 S) f_12_114_12 (r_98_34 S) ?_
          refine p_iload_n k174_73 rfl ?_
          refine p_ialdN k174_74 (s_121 S) (by omega) (by decide) (show _ = gusB I gg nh k from rfl) ?_
          refine p_iastN k174_75 (s_101 S) (by omega) (by decide) ?_
          refine p_iincN (ls1 := [(0, _), (1, _), (2, _), (3, _)]) k174_76 rfl rfl ?_
          refine p_goto (tgt := 56) k174_79 (by decide) ?_
          rw [upc_uu, upc_eq]
          exact ih (k + 1) _ (by omega) hw
      refine p_self 101 ?_
      exact L2 nh 0 (I 101) (by omega) rfl
    | succ j ih =>
      intro k n b hk
      intro hb hn
      refine p_iload_n k174_4 rfl ?_
      refine p_aload_n k174_5 rfl ?_
      refine p_getIv k174_6 (s_98 S) f_12_7_12 M.nh ?_
      refine p_icmp_geN (tgt := 54) k174_9 (by decide) (by omega) (by omega) (fun c => False.elim (by omega)) (fun _ => ?_)
      refine p_aload_n k174_12 rfl ?_
      refine p_getRv k174_13 (s_98 S) f_12_114_12 (r_98_34 S) ?_
      refine p_iload_n k174_16 rfl ?_
      refine p_iload_n k174_17 rfl ?_
      refine p_iaddN k174_18 ?_
      refine p_aload_n k174_19 rfl ?_
      refine p_getIv k174_20 (s_98 S) f_12_7_12 M.nh ?_
      refine p_iremN (by omega) (by omega) (by omega) k174_23 ?_
      refine p_aload_n k174_24 rfl ?_
      refine p_getRv k174_25 (s_98 S) f_12_26_12 (r_98_5 S) ?_
      refine p_iload_n k174_28 rfl ?_
      refine p_ialdN k174_29 (s_101 S) (by omega) (by decide) (show _ = I 101 k from rfl) ?_
      refine p_iastN k174_30 (s_121 S) (by have := Nat.mod_lt (k + gg) (show 0 < nh by omega); omega) (by decide) ?_
      refine p_iload_n k174_31 rfl ?_
      refine p_aload_n k174_32 rfl ?_
      refine p_getRv k174_33 (s_98 S) f_12_26_12 (r_98_5 S) ?_
      refine p_iload_n k174_36 rfl ?_
      refine p_ialdN k174_37 (s_101 S) (by omega) (by decide) (show _ = I 101 k from rfl) ?_
      refine p_if_lt (tgt := 45) k174_38 (by decide) (fun c38 => ?_) (fun c38 => ?_)
      · skip
        refine p_iconst (v := nI 0) k174_45 (by decide) ?_
        refine p_iaddN k174_46 ?_
        refine p_istore_n (ls' := [(0, _), (1, _), (2, _), (3, _)]) k174_47 rfl ?_
        refine p_iincN (ls1 := [(0, _), (1, _), (2, _), (3, _)]) k174_48 rfl rfl ?_
        refine p_goto (tgt := 4) k174_51 (by decide) ?_
        rw [upc_uu, upc_eq]
        exact ih (k + 1) _ _ (by omega) hb (by rw [← hn]; show fld (fGuN (I 101)) j (k + 1) _ = fld (fGuN (I 101)) j (k + 1) _; congr 1; unfold fGuN; first | rw [if_pos c38] | rw [if_neg c38])
      · skip
        refine p_iconst (v := nI 1) k174_41 (by decide) ?_
        refine p_goto (tgt := 46) k174_42 (by decide) ?_
        refine p_iaddN k174_46 ?_
        refine p_istore_n (ls' := [(0, _), (1, _), (2, _), (3, _)]) k174_47 rfl ?_
        refine p_iincN (ls1 := [(0, _), (1, _), (2, _), (3, _)]) k174_48 rfl rfl ?_
        refine p_goto (tgt := 4) k174_51 (by decide) ?_
        rw [upc_uu, upc_eq]
        exact ih (k + 1) _ _ (by omega) hb (by rw [← hn]; show fld (fGuN (I 101)) j (k + 1) _ = fld (fGuN (I 101)) j (k + 1) _; congr 1; unfold fGuN; first | rw [if_pos c38] | rw [if_neg c38])
  refine p_self 121 ?_
  exact L nh 0 0 (I 121) (by omega) rfl rfl

def gustM (I : Nat → Nat → Int32) (nh : Nat) (v : Int32) : Int32 × (Nat → Nat → Int32) := if inB v (nI 0) (nI 5) = true then (nI (gusN I nh), gusI I v.toNatClampNeg nh) else (-2, I)
def fDay (I : Nat → Nat → Int32) (cb ce nh : Nat) (k : Nat) (u : Nat → Int32) : Nat → Int32 := upc u k (if u k + todM I cb ce nh (nI k) ≤ 999999 then u k + todM I cb ce nh (nI k) else 999999)
def dayU (I : Nat → Nat → Int32) (cb ce nh : Nat) : Nat → Int32 := fld (fDay I cb ce nh) 5 0 (I 109)
def dayM (I : Nat → Nat → Int32) (cb ce nh dd : Nat) : Int32 × (Nat → Nat → Int32) := if dd = 9999 then (-3, I) else (todM I cb ce nh (-1), goI (upc I 109 (dayU I cb ce nh)) nh)
set_option maxRecDepth 100000 in
set_option maxHeartbeats 4000000 in
theorem M_day {d : Nat} {I : Nat → Nat → Int32} {J : Nat → Nat → Int64} {K : Nat → Nat → Option Nat} {h : List xSh} (S : St K h) {nh na dd cb ce : Nat} (M : MI I nh na dd cb ce) (g : Nat → Int32) : EvP (d + 5) 173 0 [(0, .ref (98))] [] (upc I 120 g, J, K, h) (QI (fun x t => x = (dayM I cb ce nh dd).1 ∧ ∃ g, t = (upc (dayM I cb ce nh dd).2 120 g, J, K, h))) := by
  have hnh : upc I 120 g 98 0 = nI nh := M.nh
  have hnh6 := M.nh6
  have hna : upc I 120 g 98 1 = nI na := M.na
  have hna6 := M.na6
  have hdd := M.dd5
  refine p_aload_n k173_0 rfl ?_
  refine p_getIv k173_1 (s_98 S) f_12_16_12 (show upc I 120 g 98 2 = nI dd from M.dd) ?_
  refine p_sipush (v := nI 9999) k173_4 (by decide) ?_
  refine p_icmp_neN (tgt := 13) k173_7 (by decide) (by omega) (by omega) (fun c7 => ?_) (fun c7 => ?_)
  · skip
    refine p_aload_n k173_13 rfl ?_
    refine p_iconst (v := (-1)) k173_14 (by decide) ?_
    refine p_cV1i k173_15 (s_98 S) c_12_347_12 rfl (Nat.le_of_ble_eq_true rfl) (M_today S M g _) (fun x1 m1 hq => ?_)
    obtain ⟨rfl, g, rfl⟩ := hq
    refine p_istore_n (ls' := [(0, _), (1, _)]) k173_18 rfl ?_
    refine p_iconst (v := nI 0) k173_19 (by decide) ?_
    refine p_istore_n (ls' := [(0, _), (1, _), (2, _)]) k173_20 rfl ?_
    have L : ∀ (j : Nat) (k : Nat) (u g : Nat → Int32), k + j = 5 → fld (fDay I cb ce nh) j k u = dayU I cb ce nh → EvP (d + 5) 173 21 [(0, .ref (98)), (1, .int (todM I cb ce nh (-1))), (2, .int (nI (k)))] [] (upc (upc I 109 u) 120 g, J, K, h) (QI (fun x t => x = (dayM I cb ce nh dd).1 ∧ ∃ g, t = (upc (dayM I cb ce nh dd).2 120 g, J, K, h))) := by
      intro j
      induction j with
      | zero =>
        intro k u g hk
        intro hu
        have hu2 : u = dayU I cb ce nh := hu
        subst hu2
        refine p_iload_n k173_21 rfl ?_
        refine p_iconst (v := nI 5) k173_22 (by decide) ?_
        refine p_icmp_geN (tgt := 65) k173_23 (by decide) (by omega) (by omega) (fun _ => ?_) (fun c => False.elim (by omega))
        refine p_aload_n k173_65 rfl ?_
        refine p_cV0v k173_66 (s_98 S) c_12_351_12 (Nat.le_of_ble_eq_true rfl) (M_goDay S (show MI (upc (upc I 109 (dayU I cb ce nh)) 120 g) nh na dd cb ce from M)) (fun m1 hq => ?_)
        obtain rfl := hq
        refine p_iload_n k173_69 rfl ?_
        refine p_ireturn k173_70 rt_173 ?_
        exact ⟨by unfold dayM; rw [if_neg c7], g, by unfold dayM; rw [if_neg c7, goI_up]⟩
      | succ j ih =>
        intro k u g hk
        intro hu
        refine p_iload_n k173_21 rfl ?_
        refine p_iconst (v := nI 5) k173_22 (by decide) ?_
        refine p_icmp_geN (tgt := 65) k173_23 (by decide) (by omega) (by omega) (fun c => False.elim (by omega)) (fun _ => ?_)
        refine p_aload_n k173_26 rfl ?_
        refine p_getRv k173_27 (s_98 S) f_12_50_12 (r_98_13 S) ?_
        refine p_iload_n k173_30 rfl ?_
        refine p_ialdN k173_31 (s_109 S) (by omega) (by decide) (show _ = u k from rfl) ?_
        refine p_aload_n k173_32 rfl ?_
        refine p_iload_n k173_33 rfl ?_
        refine p_cV1i k173_34 (s_98 S) c_12_347_12 rfl (Nat.le_of_ble_eq_true rfl) (M_today S (show MI (upc I 109 u) nh na dd cb ce from M) g (nI k)) (fun x1 m1 hq => ?_)
        obtain ⟨rfl, g, rfl⟩ := hq
        change EvP _ _ _ _ [.int (todM I cb ce nh (nI k)), .int (u k)] _ _
        refine p_iadd k173_37 ?_
        refine p_istore_n (ls' := [(0, _), (1, _), (2, _), (3, _)]) k173_38 rfl ?_
        refine p_aload_n k173_39 rfl ?_
        refine p_getRv k173_40 (s_98 S) f_12_50_12 (r_98_13 S) ?_
        refine p_iload_n k173_43 rfl ?_
        refine p_iload_n k173_44 rfl ?_
        refine p_ldcw (v := (999999)) k173_45 (by decide) ?_
        refine p_icmp_le (tgt := 57) k173_48 (by decide) (fun c48 => ?_) (fun c48 => ?_)
        · skip
          refine p_iload_n k173_57 rfl ?_
          refine p_iastN k173_58 (s_109 S) (by omega) (by decide) ?_
          refine p_iincN (ls1 := [(0, _), (1, _), (2, _), (3, _)]) k173_59 rfl rfl ?_
          refine p_goto (tgt := 21) k173_62 (by decide) ?_
          refine p_drop [0, 1, 2] rfl ?_
          rw [upc_sw _ (show 120 ≠ 109 by decide), upc_uu]
          exact ih (k + 1) _ _ (by omega) (by rw [← hu]; show fld (fDay I cb ce nh) j (k + 1) _ = fld (fDay I cb ce nh) j (k + 1) _; congr 1; unfold fDay; first | (rw [if_pos c48]; rfl) | (rw [if_neg c48]; rfl))
        · skip
          refine p_ldcw (v := (999999)) k173_51 (by decide) ?_
          refine p_goto (tgt := 58) k173_54 (by decide) ?_
          refine p_iastN k173_58 (s_109 S) (by omega) (by decide) ?_
          refine p_iincN (ls1 := [(0, _), (1, _), (2, _), (3, _)]) k173_59 rfl rfl ?_
          refine p_goto (tgt := 21) k173_62 (by decide) ?_
          refine p_drop [0, 1, 2] rfl ?_
          rw [upc_sw _ (show 120 ≠ 109 by decide), upc_uu]
          exact ih (k + 1) _ _ (by omega) (by rw [← hu]; show fld (fDay I cb ce nh) j (k + 1) _ = fld (fDay I cb ce nh) j (k + 1) _; congr 1; unfold fDay; first | (rw [if_pos c48]; rfl) | (rw [if_neg c48]; rfl))
    refine p_self 109 ?_
    rw [upc_sw _ (show 120 ≠ 109 by decide)]
    exact L 5 0 (I 109) _ (by omega) rfl
  · skip
    refine p_bipush (v := (-3)) k173_10 (by decide) ?_
    refine p_ireturn k173_12 rt_173 ?_
    exact ⟨by unfold dayM; rw [if_pos c7], g, by unfold dayM; rw [if_pos c7]⟩

