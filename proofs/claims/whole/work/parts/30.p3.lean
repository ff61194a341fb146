/-! the reference reads: takesE: its steps -/
theorem e116 {I : Nat → Nat → Int32} {P V Sg W O x : Int32} {g u t : Nat → Int32} {k : Nat} : upc (eI (upc I 116 t) P V Sg W O g u) 116 (upc (eI (upc I 116 t) P V Sg W O g u 116) k x) = eI (upc I 116 (upc t k x)) P V Sg W O g u := by
  rw [show eI (upc I 116 t) P V Sg W O g u 116 = t from rfl, e_c (by decide) (by decide) (by decide), upc_uu]
theorem p_retBF {d y pc cn : Nat} {ls : List (Nat × Value)} {I : Nat → Nat → Int32} {J : Nat → Nat → Int64} {K : Nat → Nat → Option Nat} {h : List xSh} {Φ : xPost} {b : Bool} (hd0 : xdec y pc = some (cn, .ireturn, 1)) (hr : xrt y = some .boolean) (k0 : Φ (some (.int (bI b))) (I, J, K, h)) : EvP d y pc ls [.int (bI b)] (I, J, K, h) Φ := ⟨_, _, e_zreturn hd0 hr (bI_01 b), k0⟩
/-- how many of those that wait are open -/
def cntW : List Nat → Nat
  | [] => 0
  | a :: R => (if a = 33 ∨ a = 40 then 1 else 0) + cntW R
theorem cnt_app (A B : List Nat) : cntW (A ++ B) = cntW A + cntW B := by
  induction A with
  | nil => show cntW B = 0 + cntW B; omega
  | cons a A ih =>
    show (if a = 33 ∨ a = 40 then 1 else 0) + cntW (A ++ B) = (if a = 33 ∨ a = 40 then 1 else 0) + cntW A + cntW B
    rw [ih]; omega
theorem cnt_rep (k : Nat) : cntW (List.replicate k 33) = k := by
  induction k with
  | zero => rfl
  | succ k ih =>
    show (if 33 = 33 ∨ 33 = 40 then 1 else 0) + cntW (List.replicate k 33) = k + 1
    rw [ih, if_pos (Or.inl rfl)]; omega
theorem stk_app {u : Nat → Int32} {A B : List Nat} {w : Nat} : stk u w (A ++ B) ↔ stk u (w + B.length) A ∧ stk u w B := by
  induction A with
  | nil => exact ⟨fun h => ⟨trivial, h⟩, fun h => h.2⟩
  | cons a A ih =>
    have e : w + (A ++ B).length = w + B.length + A.length := by rw [List.length_append]; omega
    constructor
    · intro h
      have h1 : u (w + (A ++ B).length) = nI a ∧ stk u w (A ++ B) := h
      rw [e] at h1
      exact ⟨⟨h1.1, (ih.mp h1.2).1⟩, (ih.mp h1.2).2⟩
    · intro h
      show u (w + (A ++ B).length) = nI a ∧ stk u w (A ++ B)
      rw [e]
      exact ⟨h.1.1, ih.mpr ⟨h.1.2, h.2⟩⟩
theorem stk_up {u : Nat → Int32} {x : Int32} {m : Nat} : ∀ {L : List Nat} {w : Nat}, w + L.length ≤ m → stk u w L → stk (upc u m x) w L := by
  intro L
  induction L with
  | nil => intro w _ _; trivial
  | cons a L ih =>
    intro w h1 h2
    have h1' : w + (L.length + 1) ≤ m := h1
    exact ⟨(upc_ne _ _ (by omega)).trans h2.1, ih (by omega) h2.2⟩
theorem stk_push {u : Nat → Int32} {L : List Nat} {a : Nat} (h : stk u 0 L) : stk (upc u L.length (nI a)) 0 (a :: L) := ⟨by rw [Nat.zero_add]; exact upc_eq _ _ _, stk_up (by omega) h⟩
theorem stk_rep {u : Nat → Int32} {w : Nat} : ∀ {k : Nat}, stk u w (List.replicate k 33) → ∀ i, i < k → u (w + i) = nI 33 := by
  intro k
  induction k with
  | zero => intro _ i hi; cases hi
  | succ k ih =>
    intro h i hi
    have h' : u (w + (List.replicate k 33).length) = nI 33 ∧ stk u w (List.replicate k 33) := h
    rw [List.length_replicate] at h'
    by_cases e : i = k
    · subst e; exact h'.1
    · exact ih h'.2 i (by omega)
/-- the top of those that wait is none of these -/
def hdN_ (P : Nat → Prop) (L : List Nat) : Prop := ∀ a R, L = a :: R → P a
theorem stk_top {u : Nat → Int32} {L : List Nat} {P : Nat → Prop} (h : stk u 0 L) (hP : hdN_ P L) (h0 : 0 < L.length) : ∃ a, u (L.length - 1) = nI a ∧ P a ∧ ∃ R, L = a :: R := by
  cases L with
  | nil => cases h0
  | cons a R =>
    refine ⟨a, ?_, hP a R rfl, R, rfl⟩
    have h1 : u (0 + R.length) = nI a := h.1
    rw [Nat.zero_add] at h1
    exact h1
/-- signs as they wait -/
def sgOK (L : List Nat) : Prop := ∀ a ∈ L, a = 33 ∨ a = 40 ∨ a = 38 ∨ a = 124
theorem sg_lt {L : List Nat} (h : sgOK L) {a : Nat} (ha : a ∈ L) : a < 128 := by
  rcases h a ha with e | e | e | e <;> omega
theorem cnt_le (L : List Nat) : cntW L ≤ L.length := by
  induction L with
  | nil => exact Nat.le_refl _
  | cons a L ih =>
    show (if a = 33 ∨ a = 40 then 1 else 0) + cntW L ≤ L.length + 1
    split <;> omega
set_option maxRecDepth 100000 in
set_option maxHeartbeats 4000000 in
theorem E_push {d : Nat} {I : Nat → Nat → Int32} {J : Nat → Nat → Int64} {K : Nat → Nat → Option Nat} {h : List xSh} (S : St K h) {c : Nat → Nat} {n : Nat} (X : TX I c n) {p cl s : Nat} {V : Int32} {t g u : Nat → Int32} {Φ : xPost} {Ws : List Nat} {x : Nat} (hx : c p = x) (hx2 : x = 33 ∨ x = 40) (hw : Ws.length ≤ 100) (ho : cntW Ws ≠ 4) (ho4 : cntW Ws ≤ 4) (k1 : EvP (d + 4) 154 22 [(0, .ref 98), (1, .int (nI cl)), (2, .int (bI true))] [] (eI (upc I 116 (t)) (nI (p + 1)) (V) (nI s) (nI (x :: Ws).length) (nI (cntW (x :: Ws))) (g) (upc u Ws.length (nI x)), J, K, h) Φ) : EvP (d + 4) 154 22 [(0, .ref (98)), (1, .int (nI (cl))), (2, .int (bI (true)))] [] (eI (upc I 116 (t)) (nI p) (V) (nI s) (nI Ws.length) (nI (cntW Ws)) (g) (u), J, K, h) Φ := by
  have hn100 := X.2.1
  have hpn := X.2.2.1.lt (p := p) (by omega)
  refine p_aload_n k154_22 rfl ?_
  refine p_cV0i k154_23 (s_98 S) c_12_269_12 (Nat.le_of_ble_eq_true rfl) (M_next S (p := p) (show TX (upc I 116 t) c n from X) (by omega)) (fun x1 m1 hq => ?_)
  obtain ⟨rfl, rfl⟩ := hq
  rw [nx_lt hpn, hx]
  refine p_istore_n (ls' := [(0, _), (1, _), (2, _), (3, _)]) k154_26 rfl ?_
  refine p_iload_n k154_27 rfl ?_
  refine p_if_eqB (tgt := 110) k154_28 (by decide) (fun c => False.elim (by cases c)) (fun _ => ?_)
  refine p_iload_n k154_31 rfl ?_
  refine p_bipush (v := nI 33) k154_32 (by decide) ?_
  refine p_icmp_eqN (tgt := 43) k154_34 (by decide) (by omega) (by omega) (fun cq34 => ?_) (fun cq34 => ?_)
  · skip
    refine p_aload_n k154_43 rfl ?_
    refine p_getIv k154_44 (s_98 S) f_12_101_12 rfl ?_
    refine p_iconst (v := nI 4) k154_47 (by decide) ?_
    refine p_icmp_neN (tgt := 53) k154_48 (by decide) (by omega) (by omega) (fun _ => ?_) (fun c => False.elim (by omega))
    refine p_aload_n k154_53 rfl ?_
    refine p_dup k154_54 rfl ?_
    refine p_getIv k154_55 (s_98 S) f_12_101_12 rfl ?_
    refine p_iconst (v := nI 1) k154_58 (by decide) ?_
    refine p_iaddN k154_59 ?_
    refine p_putIv k154_60 (s_98 S) g_12_101_12 n_154_12_30 ?_
    rw [e30, show cntW Ws + 1 = cntW (x :: Ws) from by show _ = (if x = 33 ∨ x = 40 then 1 else 0) + cntW Ws; rw [if_pos hx2]; omega]
    refine p_aload_n k154_63 rfl ?_
    refine p_getRv k154_64 (s_98 S) f_12_92_12 (r_98_27 S) ?_
    refine p_aload_n k154_67 rfl ?_
    refine p_getIv k154_68 (s_98 S) f_12_98_12 rfl ?_
    refine p_iload_n k154_71 rfl ?_
    refine p_iastN k154_72 (s_118 S) (by omega) (by decide) ?_
    rw [e118]
    refine p_aload_n k154_73 rfl ?_
    refine p_dup k154_74 rfl ?_
    refine p_getIv k154_75 (s_98 S) f_12_98_12 rfl ?_
    refine p_iconst (v := nI 1) k154_78 (by decide) ?_
    refine p_iaddN k154_79 ?_
    refine p_putIv k154_80 (s_98 S) g_12_98_12 n_154_12_29 ?_
    rw [e29]
    refine p_aload_n k154_83 rfl ?_
    refine p_dup k154_84 rfl ?_
    refine p_getIv k154_85 (s_98 S) f_12_62_12 rfl ?_
    refine p_iconst (v := nI 1) k154_88 (by decide) ?_
    refine p_iaddN k154_89 ?_
    refine p_putIv k154_90 (s_98 S) g_12_62_12 n_154_12_17 ?_
    rw [e17]
    refine p_goto (tgt := 22) k154_93 (by decide) ?_
    refine p_drop [0, 1, 2] rfl ?_
    exact k1
  · skip
    refine p_iload_n k154_37 rfl ?_
    refine p_bipush (v := nI 40) k154_38 (by decide) ?_
    refine p_icmp_neN (tgt := 96) k154_40 (by decide) (by omega) (by omega) (fun c => False.elim (by omega)) (fun _ => ?_)
    refine p_aload_n k154_43 rfl ?_
    refine p_getIv k154_44 (s_98 S) f_12_101_12 rfl ?_
    refine p_iconst (v := nI 4) k154_47 (by decide) ?_
    refine p_icmp_neN (tgt := 53) k154_48 (by decide) (by omega) (by omega) (fun _ => ?_) (fun c => False.elim (by omega))
    refine p_aload_n k154_53 rfl ?_
    refine p_dup k154_54 rfl ?_
    refine p_getIv k154_55 (s_98 S) f_12_101_12 rfl ?_
    refine p_iconst (v := nI 1) k154_58 (by decide) ?_
    refine p_iaddN k154_59 ?_
    refine p_putIv k154_60 (s_98 S) g_12_101_12 n_154_12_30 ?_
    rw [e30, show cntW Ws + 1 = cntW (x :: Ws) from by show _ = (if x = 33 ∨ x = 40 then 1 else 0) + cntW Ws; rw [if_pos hx2]; omega]
    refine p_aload_n k154_63 rfl ?_
    refine p_getRv k154_64 (s_98 S) f_12_92_12 (r_98_27 S) ?_
    refine p_aload_n k154_67 rfl ?_
    refine p_getIv k154_68 (s_98 S) f_12_98_12 rfl ?_
    refine p_iload_n k154_71 rfl ?_
    refine p_iastN k154_72 (s_118 S) (by omega) (by decide) ?_
    rw [e118]
    refine p_aload_n k154_73 rfl ?_
    refine p_dup k154_74 rfl ?_
    refine p_getIv k154_75 (s_98 S) f_12_98_12 rfl ?_
    refine p_iconst (v := nI 1) k154_78 (by decide) ?_
    refine p_iaddN k154_79 ?_
    refine p_putIv k154_80 (s_98 S) g_12_98_12 n_154_12_29 ?_
    rw [e29]
    refine p_aload_n k154_83 rfl ?_
    refine p_dup k154_84 rfl ?_
    refine p_getIv k154_85 (s_98 S) f_12_62_12 rfl ?_
    refine p_iconst (v := nI 1) k154_88 (by decide) ?_
    refine p_iaddN k154_89 ?_
    refine p_putIv k154_90 (s_98 S) g_12_62_12 n_154_12_17 ?_
    rw [e17]
    refine p_goto (tgt := 22) k154_93 (by decide) ?_
    refine p_drop [0, 1, 2] rfl ?_
    exact k1

set_option maxRecDepth 100000 in
set_option maxHeartbeats 4000000 in
theorem E_full {d : Nat} {I : Nat → Nat → Int32} {J : Nat → Nat → Int64} {K : Nat → Nat → Option Nat} {h : List xSh} (S : St K h) {c : Nat → Nat} {n : Nat} (X : TX I c n) {p cl s : Nat} {V : Int32} {t g u : Nat → Int32} {Φ : xPost} {Ws : List Nat} {x : Nat} (hx : c p = x) (hx2 : x = 33 ∨ x = 40) (ho : cntW Ws = 4) (k1 : Φ (some (.int (bI false))) (eI (upc I 116 (t)) (nI p) (V) (nI s) (nI Ws.length) (nI (cntW Ws)) (g) (u), J, K, h)) : EvP (d + 4) 154 22 [(0, .ref (98)), (1, .int (nI (cl))), (2, .int (bI (true)))] [] (eI (upc I 116 (t)) (nI p) (V) (nI s) (nI Ws.length) (nI (cntW Ws)) (g) (u), J, K, h) Φ := by
  have hn100 := X.2.1
  have hpn := X.2.2.1.lt (p := p) (by omega)
  refine p_aload_n k154_22 rfl ?_
  refine p_cV0i k154_23 (s_98 S) c_12_269_12 (Nat.le_of_ble_eq_true rfl) (M_next S (p := p) (show TX (upc I 116 t) c n from X) (by omega)) (fun x1 m1 hq => ?_)
  obtain ⟨rfl, rfl⟩ := hq
  rw [nx_lt hpn, hx]
  refine p_istore_n (ls' := [(0, _), (1, _), (2, _), (3, _)]) k154_26 rfl ?_
  refine p_iload_n k154_27 rfl ?_
  refine p_if_eqB (tgt := 110) k154_28 (by decide) (fun c => False.elim (by cases c)) (fun _ => ?_)
  refine p_iload_n k154_31 rfl ?_
  refine p_bipush (v := nI 33) k154_32 (by decide) ?_
  refine p_icmp_eqN (tgt := 43) k154_34 (by decide) (by omega) (by omega) (fun cq34 => ?_) (fun cq34 => ?_)
  · skip
    refine p_aload_n k154_43 rfl ?_
    refine p_getIv k154_44 (s_98 S) f_12_101_12 rfl ?_
    refine p_iconst (v := nI 4) k154_47 (by decide) ?_
    refine p_icmp_neN (tgt := 53) k154_48 (by decide) (by omega) (by omega) (fun c => False.elim (by omega)) (fun _ => ?_)
    refine p_iconst (v := bI false) k154_51 (by decide) ?_
    refine p_retBF k154_52 rt_154 ?_
    exact k1
  · skip
    refine p_iload_n k154_37 rfl ?_
    refine p_bipush (v := nI 40) k154_38 (by decide) ?_
    refine p_icmp_neN (tgt := 96) k154_40 (by decide) (by omega) (by omega) (fun c => False.elim (by omega)) (fun _ => ?_)
    refine p_aload_n k154_43 rfl ?_
    refine p_getIv k154_44 (s_98 S) f_12_101_12 rfl ?_
    refine p_iconst (v := nI 4) k154_47 (by decide) ?_
    refine p_icmp_neN (tgt := 53) k154_48 (by decide) (by omega) (by omega) (fun c => False.elim (by omega)) (fun _ => ?_)
    refine p_iconst (v := bI false) k154_51 (by decide) ?_
    refine p_retBF k154_52 rt_154 ?_
    exact k1

set_option maxRecDepth 100000 in
set_option maxHeartbeats 4000000 in
theorem E_testL {d : Nat} {I : Nat → Nat → Int32} {J : Nat → Nat → Int64} {K : Nat → Nat → Option Nat} {h : List xSh} (S : St K h) {c : Nat → Nat} {n : Nat} (X : TX I c n) {p cl s : Nat} {V : Int32} {t g u : Nat → Int32} {Φ : xPost} {Ws : List Nat} (hp : p ≤ 100) (hx : ¬ c p = 33 ∧ ¬ c p = 40) (hF : ltN (c p) = none) (k1 : Φ (some (.int (bI false))) (eI (upc I 116 (t)) (nI (p)) (V) (nI s) (nI Ws.length) (nI (cntW Ws)) (g) (u), J, K, h)) : EvP (d + 4) 154 22 [(0, .ref (98)), (1, .int (nI (cl))), (2, .int (bI (true)))] [] (eI (upc I 116 (t)) (nI p) (V) (nI s) (nI Ws.length) (nI (cntW Ws)) (g) (u), J, K, h) Φ := by
  have hn100 := X.2.1
  refine p_aload_n k154_22 rfl ?_
  refine p_cV0i k154_23 (s_98 S) c_12_269_12 (Nat.le_of_ble_eq_true rfl) (M_next S (p := p) (show TX (upc I 116 t) c n from X) (by omega)) (fun x1 m1 hq => ?_)
  obtain ⟨rfl, rfl⟩ := hq
  refine p_istore_n (ls' := [(0, _), (1, _), (2, _), (3, _)]) k154_26 rfl ?_
  refine p_iload_n k154_27 rfl ?_
  refine p_if_eqB (tgt := 110) k154_28 (by decide) (fun c => False.elim (by cases c)) (fun _ => ?_)
  refine p_iload_n k154_31 rfl ?_
  refine p_bipush (v := nI 33) k154_32 (by decide) ?_
  refine p_icmp_eq (tgt := 43) k154_34 (by decide) (fun c => False.elim (by exact hx.1 ((nx_eq X.2.2.1 (by omega)).mp c))) (fun _ => ?_)
  refine p_iload_n k154_37 rfl ?_
  refine p_bipush (v := nI 40) k154_38 (by decide) ?_
  refine p_icmp_ne (tgt := 96) k154_40 (by decide) (fun _ => ?_) (fun c => False.elim (by exact hx.2 ((nx_eq X.2.2.1 (by omega)).mp c)))
  refine p_aload_n k154_96 rfl ?_
  refine p_cV0i k154_97 (s_98 S) c_12_293_12 (Nat.le_of_ble_eq_true rfl) (M_testL S (p := p) (show TX (upc I 116 t) c n from X) (by omega) hF) (fun x1 m1 hq => ?_)
  obtain ⟨rfl, rfl⟩ := hq
  refine p_if_eqB (tgt := 108) k154_100 (by decide) (fun _ => ?_) (fun c => False.elim (by cases c))
  refine p_iconst (v := bI false) k154_108 (by decide) ?_
  refine p_retBF k154_109 rt_154 ?_
  exact k1

set_option maxRecDepth 100000 in
set_option maxHeartbeats 4000000 in
theorem E_testS {d : Nat} {I : Nat → Nat → Int32} {J : Nat → Nat → Int64} {K : Nat → Nat → Option Nat} {h : List xSh} (S : St K h) {c : Nat → Nat} {n : Nat} (X : TX I c n) {p cl s : Nat} {V : Int32} {t g u : Nat → Int32} {Φ : xPost} {Ws : List Nat} (hp : p ≤ 100) (hx : ¬ c p = 33 ∧ ¬ c p = 40) {f : Nat} (hF : ltN (c p) = some f) (hS : ¬ (60 ≤ c (p + 1) ∧ c (p + 1) ≤ 62)) (k1 : Φ (some (.int (bI false))) (eI (upc I 116 (t)) (nI (p + 1)) (V) (nI s) (nI Ws.length) (nI (cntW Ws)) (g) (u), J, K, h)) : EvP (d + 4) 154 22 [(0, .ref (98)), (1, .int (nI (cl))), (2, .int (bI (true)))] [] (eI (upc I 116 (t)) (nI p) (V) (nI s) (nI Ws.length) (nI (cntW Ws)) (g) (u), J, K, h) Φ := by
  have hn100 := X.2.1
  refine p_aload_n k154_22 rfl ?_
  refine p_cV0i k154_23 (s_98 S) c_12_269_12 (Nat.le_of_ble_eq_true rfl) (M_next S (p := p) (show TX (upc I 116 t) c n from X) (by omega)) (fun x1 m1 hq => ?_)
  obtain ⟨rfl, rfl⟩ := hq
  refine p_istore_n (ls' := [(0, _), (1, _), (2, _), (3, _)]) k154_26 rfl ?_
  refine p_iload_n k154_27 rfl ?_
  refine p_if_eqB (tgt := 110) k154_28 (by decide) (fun c => False.elim (by cases c)) (fun _ => ?_)
  refine p_iload_n k154_31 rfl ?_
  refine p_bipush (v := nI 33) k154_32 (by decide) ?_
  refine p_icmp_eq (tgt := 43) k154_34 (by decide) (fun c => False.elim (by exact hx.1 ((nx_eq X.2.2.1 (by omega)).mp c))) (fun _ => ?_)
  refine p_iload_n k154_37 rfl ?_
  refine p_bipush (v := nI 40) k154_38 (by decide) ?_
  refine p_icmp_ne (tgt := 96) k154_40 (by decide) (fun _ => ?_) (fun c => False.elim (by exact hx.2 ((nx_eq X.2.2.1 (by omega)).mp c)))
  refine p_aload_n k154_96 rfl ?_
  refine p_cV0i k154_97 (s_98 S) c_12_293_12 (Nat.le_of_ble_eq_true rfl) (M_testS S (p := p) (show TX (upc I 116 t) c n from X) (by omega) hF hS) (fun x1 m1 hq => ?_)
  obtain ⟨rfl, rfl⟩ := hq
  refine p_if_eqB (tgt := 108) k154_100 (by decide) (fun _ => ?_) (fun c => False.elim (by cases c))
  refine p_iconst (v := bI false) k154_108 (by decide) ?_
  refine p_retBF k154_109 rt_154 ?_
  exact k1

set_option maxRecDepth 100000 in
set_option maxHeartbeats 4000000 in
theorem E_testN {d : Nat} {I : Nat → Nat → Int32} {J : Nat → Nat → Int64} {K : Nat → Nat → Option Nat} {h : List xSh} (S : St K h) {c : Nat → Nat} {n : Nat} (X : TX I c n) {p cl s : Nat} {V : Int32} {t g u : Nat → Int32} {Φ : xPost} {Ws : List Nat} (hp : p ≤ 100) (hx : ¬ c p = 33 ∧ ¬ c p = 40) {f : Nat} (hF : ltN (c p) = some f) (hS : 60 ≤ c (p + 1) ∧ c (p + 1) ≤ 62) (hN : isD (c (p + 2)) = false) (k1 : Φ (some (.int (bI false))) (eI (upc I 116 (t)) (nI (p + 2)) (V) (nI s) (nI Ws.length) (nI (cntW Ws)) (g) (u), J, K, h)) : EvP (d + 4) 154 22 [(0, .ref (98)), (1, .int (nI (cl))), (2, .int (bI (true)))] [] (eI (upc I 116 (t)) (nI p) (V) (nI s) (nI Ws.length) (nI (cntW Ws)) (g) (u), J, K, h) Φ := by
  have hn100 := X.2.1
  refine p_aload_n k154_22 rfl ?_
  refine p_cV0i k154_23 (s_98 S) c_12_269_12 (Nat.le_of_ble_eq_true rfl) (M_next S (p := p) (show TX (upc I 116 t) c n from X) (by omega)) (fun x1 m1 hq => ?_)
  obtain ⟨rfl, rfl⟩ := hq
  refine p_istore_n (ls' := [(0, _), (1, _), (2, _), (3, _)]) k154_26 rfl ?_
  refine p_iload_n k154_27 rfl ?_
  refine p_if_eqB (tgt := 110) k154_28 (by decide) (fun c => False.elim (by cases c)) (fun _ => ?_)
  refine p_iload_n k154_31 rfl ?_
  refine p_bipush (v := nI 33) k154_32 (by decide) ?_
  refine p_icmp_eq (tgt := 43) k154_34 (by decide) (fun c => False.elim (by exact hx.1 ((nx_eq X.2.2.1 (by omega)).mp c))) (fun _ => ?_)
  refine p_iload_n k154_37 rfl ?_
  refine p_bipush (v := nI 40) k154_38 (by decide) ?_
  refine p_icmp_ne (tgt := 96) k154_40 (by decide) (fun _ => ?_) (fun c => False.elim (by exact hx.2 ((nx_eq X.2.2.1 (by omega)).mp c)))
  refine p_aload_n k154_96 rfl ?_
  refine p_cV0i k154_97 (s_98 S) c_12_293_12 (Nat.le_of_ble_eq_true rfl) (M_testN S (p := p) (show TX (upc I 116 t) c n from X) (by omega) hF hS hN) (fun x1 m1 hq => ?_)
  obtain ⟨rfl, rfl⟩ := hq
  refine p_if_eqB (tgt := 108) k154_100 (by decide) (fun _ => ?_) (fun c => False.elim (by cases c))
  refine p_iconst (v := bI false) k154_108 (by decide) ?_
  refine p_retBF k154_109 rt_154 ?_
  exact k1

set_option maxRecDepth 100000 in
set_option maxHeartbeats 4000000 in
theorem E_testY {d : Nat} {I : Nat → Nat → Int32} {J : Nat → Nat → Int64} {K : Nat → Nat → Option Nat} {h : List xSh} (S : St K h) {c : Nat → Nat} {n : Nat} (X : TX I c n) {p cl s : Nat} {V : Int32} {t g u : Nat → Int32} {Φ : xPost} {W0 : List Nat} {k : Nat} (hp : p ≤ 100) (hx : ¬ c p = 33 ∧ ¬ c p = 40) {f q v : Nat} (hF : ltN (c p) = some f) (hS : 60 ≤ c (p + 1) ∧ c (p + 1) ≤ 62) (hN : pNum c (p + 2) = (q, some v)) (hs : s + 1 + k ≤ 600) (hw : W0.length + k ≤ 101) (hst : stk u 0 (List.replicate k 33 ++ W0)) (hsg : sgOK W0) (h33 : hdN_ (fun a => a ≠ 33) W0) (k1 : EvP (d + 4) 154 22 [(0, .ref 98), (1, .int (nI cl)), (2, .int (bI false))] [] (eI (upc I 116 (t)) (nI q) (nI v) (nI (s + 1 + k)) (nI W0.length) (nI (cntW W0)) (ems g s (nI (1000 * f + 100 * (c (p + 1) - 60) + v) :: List.replicate k (-33))) (u), J, K, h) Φ) : EvP (d + 4) 154 22 [(0, .ref (98)), (1, .int (nI (cl))), (2, .int (bI (true)))] [] (eI (upc I 116 (t)) (nI p) (V) (nI s) (nI (W0.length + k)) (nI (cntW W0 + k)) (g) (u), J, K, h) Φ := by
  have hn100 := X.2.1
  have hst2 := stk_app.mp hst
  have hu33 := stk_rep (w := W0.length) (by have := hst2.1; rw [Nat.zero_add] at this; exact this)
  have hW33 : 0 < W0.length → u (W0.length - 1) ≠ nI 33 := by
    intro h0 e
    obtain ⟨a, h1, h2, R, h3⟩ := stk_top hst2.2 h33 h0
    rw [h1] at e
    exact h2 (nI_inj (by have := sg_lt hsg (a := a) (by rw [h3]; exact List.mem_cons_self ..); omega) (by omega) e)
  refine p_aload_n k154_22 rfl ?_
  refine p_cV0i k154_23 (s_98 S) c_12_269_12 (Nat.le_of_ble_eq_true rfl) (M_next S (p := p) (show TX (upc I 116 t) c n from X) (by omega)) (fun x1 m1 hq => ?_)
  obtain ⟨rfl, rfl⟩ := hq
  refine p_istore_n (ls' := [(0, _), (1, _), (2, _), (3, _)]) k154_26 rfl ?_
  refine p_iload_n k154_27 rfl ?_
  refine p_if_eqB (tgt := 110) k154_28 (by decide) (fun c => False.elim (by cases c)) (fun _ => ?_)
  refine p_iload_n k154_31 rfl ?_
  refine p_bipush (v := nI 33) k154_32 (by decide) ?_
  refine p_icmp_eq (tgt := 43) k154_34 (by decide) (fun c => False.elim (by exact hx.1 ((nx_eq X.2.2.1 (by omega)).mp c))) (fun _ => ?_)
  refine p_iload_n k154_37 rfl ?_
  refine p_bipush (v := nI 40) k154_38 (by decide) ?_
  refine p_icmp_ne (tgt := 96) k154_40 (by decide) (fun _ => ?_) (fun c => False.elim (by exact hx.2 ((nx_eq X.2.2.1 (by omega)).mp c)))
  refine p_aload_n k154_96 rfl ?_
  refine p_cV0i k154_97 (s_98 S) c_12_293_12 (Nat.le_of_ble_eq_true rfl) (M_testY S (p := p) (show TX (upc I 116 t) c n from X) (by omega) hF hS hN (s0 := s) (w0 := W0.length) (o0 := cntW W0) (k0 := k) (by omega) (by omega) (by have := cnt_le W0; omega) hu33 hW33) (fun x1 m1 hq => ?_)
  obtain ⟨rfl, rfl⟩ := hq
  refine p_if_eqB (tgt := 108) k154_100 (by decide) (fun c => False.elim (by cases c)) (fun _ => ?_)
  refine p_iconst (v := bI false) k154_103 (by decide) ?_
  refine p_istore_n (ls' := [(0, _), (1, _), (2, _), (3, _)]) k154_104 rfl ?_
  refine p_goto (tgt := 22) k154_105 (by decide) ?_
  refine p_drop [0, 1, 2] rfl ?_
  exact k1

set_option maxRecDepth 100000 in
set_option maxHeartbeats 4000000 in
theorem E_op {d : Nat} {I : Nat → Nat → Int32} {J : Nat → Nat → Int64} {K : Nat → Nat → Option Nat} {h : List xSh} (S : St K h) {c : Nat → Nat} {n : Nat} (X : TX I c n) {p cl s : Nat} {V : Int32} {t g u : Nat → Int32} {Φ : xPost} {O : Int32} {P W0 : List Nat} {x : Nat} (hx : c p = x) (hx2 : x = 38 ∨ x = 124) (hs : s + P.length ≤ 600) (hw : W0.length + P.length ≤ 100) (hP : ∀ a ∈ P, a = 38 ∨ (a = 124 ∧ x ≠ 38)) (hst : stk u 0 (P ++ W0)) (hsg : sgOK W0) (hW0 : hdN_ (fun a => a ≠ 38 ∧ (a = 124 → x = 38)) W0) (k1 : EvP (d + 4) 154 22 [(0, .ref 98), (1, .int (nI cl)), (2, .int (bI true))] [] (eI (upc I 116 (t)) (nI (p + 1)) (V) (nI (s + P.length)) (nI (x :: W0).length) (O) (ems g s (ngL P)) (upc u W0.length (nI x)), J, K, h) Φ) : EvP (d + 4) 154 22 [(0, .ref (98)), (1, .int (nI (cl))), (2, .int (bI (false)))] [] (eI (upc I 116 (t)) (nI p) (V) (nI s) (nI (W0.length + P.length)) (O) (g) (u), J, K, h) Φ := by
  have hn100 := X.2.1
  have hpn := X.2.2.1.lt (p := p) (by omega)
  have hst2 := stk_app.mp hst
  have hPs : stk u W0.length P := by have := hst2.1; rw [Nat.zero_add] at this; exact this
  have hWt : 0 < W0.length → u (W0.length - 1) ≠ nI 38 ∧ (u (W0.length - 1) = nI 124 → x = 38) := by
    intro h0
    obtain ⟨a, h1, h2, R, h3⟩ := stk_top hst2.2 hW0 h0
    have ha := sg_lt hsg (a := a) (by rw [h3]; exact List.mem_cons_self ..)
    rw [h1]
    exact ⟨fun e => h2.1 (nI_inj (by omega) (by omega) e), fun e => h2.2 (nI_inj (by omega) (by omega) e)⟩
  refine p_aload_n k154_22 rfl ?_
  refine p_cV0i k154_23 (s_98 S) c_12_269_12 (Nat.le_of_ble_eq_true rfl) (M_next S (p := p) (show TX (upc I 116 t) c n from X) (by omega)) (fun x1 m1 hq => ?_)
  obtain ⟨rfl, rfl⟩ := hq
  rw [nx_lt hpn, hx]
  refine p_istore_n (ls' := [(0, _), (1, _), (2, _), (3, _)]) k154_26 rfl ?_
  refine p_iload_n k154_27 rfl ?_
  refine p_if_eqB (tgt := 110) k154_28 (by decide) (fun _ => ?_) (fun c => False.elim (by cases c))
  refine p_iload_n k154_110 rfl ?_
  refine p_bipush (v := nI 38) k154_111 (by decide) ?_
  refine p_icmp_eqN (tgt := 122) k154_113 (by decide) (by omega) (by omega) (fun cq113 => ?_) (fun cq113 => ?_)
  · skip
    refine p_aload_n k154_122 rfl ?_
    refine p_iload_n k154_123 rfl ?_
    refine p_cV1v k154_124 (s_98 S) c_12_296_12 rfl (Nat.le_of_ble_eq_true rfl) (M_settle S (s0 := s) (w0 := W0.length) (sg := x) (by omega) P (by omega) (by omega) hP hPs hWt) (fun m1 hq => ?_)
    obtain rfl := hq
    refine p_aload_n k154_127 rfl ?_
    refine p_getRv k154_128 (s_98 S) f_12_92_12 (r_98_27 S) ?_
    refine p_aload_n k154_131 rfl ?_
    refine p_getIv k154_132 (s_98 S) f_12_98_12 rfl ?_
    refine p_iload_n k154_135 rfl ?_
    refine p_iastN k154_136 (s_118 S) (by omega) (by decide) ?_
    rw [e118]
    refine p_aload_n k154_137 rfl ?_
    refine p_dup k154_138 rfl ?_
    refine p_getIv k154_139 (s_98 S) f_12_98_12 rfl ?_
    refine p_iconst (v := nI 1) k154_142 (by decide) ?_
    refine p_iaddN k154_143 ?_
    refine p_putIv k154_144 (s_98 S) g_12_98_12 n_154_12_29 ?_
    rw [e29]
    refine p_iconst (v := bI true) k154_147 (by decide) ?_
    refine p_istore_n (ls' := [(0, _), (1, _), (2, _), (3, _)]) k154_148 rfl ?_
    refine p_aload_n k154_149 rfl ?_
    refine p_dup k154_150 rfl ?_
    refine p_getIv k154_151 (s_98 S) f_12_62_12 rfl ?_
    refine p_iconst (v := nI 1) k154_154 (by decide) ?_
    refine p_iaddN k154_155 ?_
    refine p_putIv k154_156 (s_98 S) g_12_62_12 n_154_12_17 ?_
    rw [e17]
    refine p_goto (tgt := 22) k154_159 (by decide) ?_
    refine p_drop [0, 1, 2] rfl ?_
    exact k1
  · skip
    refine p_iload_n k154_116 rfl ?_
    refine p_bipush (v := nI 124) k154_117 (by decide) ?_
    refine p_icmp_neN (tgt := 162) k154_119 (by decide) (by omega) (by omega) (fun c => False.elim (by omega)) (fun _ => ?_)
    refine p_aload_n k154_122 rfl ?_
    refine p_iload_n k154_123 rfl ?_
    refine p_cV1v k154_124 (s_98 S) c_12_296_12 rfl (Nat.le_of_ble_eq_true rfl) (M_settle S (s0 := s) (w0 := W0.length) (sg := x) (by omega) P (by omega) (by omega) hP hPs hWt) (fun m1 hq => ?_)
    obtain rfl := hq
    refine p_aload_n k154_127 rfl ?_
    refine p_getRv k154_128 (s_98 S) f_12_92_12 (r_98_27 S) ?_
    refine p_aload_n k154_131 rfl ?_
    refine p_getIv k154_132 (s_98 S) f_12_98_12 rfl ?_
    refine p_iload_n k154_135 rfl ?_
    refine p_iastN k154_136 (s_118 S) (by omega) (by decide) ?_
    rw [e118]
    refine p_aload_n k154_137 rfl ?_
    refine p_dup k154_138 rfl ?_
    refine p_getIv k154_139 (s_98 S) f_12_98_12 rfl ?_
    refine p_iconst (v := nI 1) k154_142 (by decide) ?_
    refine p_iaddN k154_143 ?_
    refine p_putIv k154_144 (s_98 S) g_12_98_12 n_154_12_29 ?_
    rw [e29]
    refine p_iconst (v := bI true) k154_147 (by decide) ?_
    refine p_istore_n (ls' := [(0, _), (1, _), (2, _), (3, _)]) k154_148 rfl ?_
    refine p_aload_n k154_149 rfl ?_
    refine p_dup k154_150 rfl ?_
    refine p_getIv k154_151 (s_98 S) f_12_62_12 rfl ?_
    refine p_iconst (v := nI 1) k154_154 (by decide) ?_
    refine p_iaddN k154_155 ?_
    refine p_putIv k154_156 (s_98 S) g_12_62_12 n_154_12_17 ?_
    rw [e17]
    refine p_goto (tgt := 22) k154_159 (by decide) ?_
    refine p_drop [0, 1, 2] rfl ?_
    exact k1

set_option maxRecDepth 100000 in
set_option maxHeartbeats 4000000 in
theorem E_end0 {d : Nat} {I : Nat → Nat → Int32} {J : Nat → Nat → Int64} {K : Nat → Nat → Option Nat} {h : List xSh} (S : St K h) {c : Nat → Nat} {n : Nat} (X : TX I c n) {p cl s : Nat} {V : Int32} {t g u : Nat → Int32} {Φ : xPost} {O : Int32} {P W0 : List Nat} (hp : p ≤ 100) (hcl : cl < 60) (hx : ¬ c p = 38 ∧ ¬ c p = 124) (hs : s + P.length ≤ 600) (hw : W0.length + P.length ≤ 100) (hP : ∀ a ∈ P, a = 38 ∨ (a = 124 ∧ 124 ≠ 38)) (hst : stk u 0 (P ++ W0)) (hsg : sgOK W0) (hW0 : hdN_ (fun a => a ≠ 38 ∧ (a = 124 → 124 = 38)) W0) (h0 : W0.length = 0) (k1 : Φ (some (.int (bI true))) (eI (upc I 116 (upc t cl (nI (s + P.length)))) (nI p) (V) (nI (s + P.length)) (nI W0.length) (O) (ems g s (ngL P)) (u), J, K, h)) : EvP (d + 4) 154 22 [(0, .ref (98)), (1, .int (nI (cl))), (2, .int (bI (false)))] [] (eI (upc I 116 (t)) (nI p) (V) (nI s) (nI (W0.length + P.length)) (O) (g) (u), J, K, h) Φ := by
  have hn100 := X.2.1
  have hst2 := stk_app.mp hst
  have hPs : stk u W0.length P := by have := hst2.1; rw [Nat.zero_add] at this; exact this
  have hWt : 0 < W0.length → u (W0.length - 1) ≠ nI 38 ∧ (u (W0.length - 1) = nI 124 → 124 = 38) := by
    intro h0
    obtain ⟨a, h1, h2, R, h3⟩ := stk_top hst2.2 hW0 h0
    have ha := sg_lt hsg (a := a) (by rw [h3]; exact List.mem_cons_self ..)
    rw [h1]
    exact ⟨fun e => h2.1 (nI_inj (by omega) (by omega) e), fun e => h2.2 (nI_inj (by omega) (by omega) e)⟩
  refine p_aload_n k154_22 rfl ?_
  refine p_cV0i k154_23 (s_98 S) c_12_269_12 (Nat.le_of_ble_eq_true rfl) (M_next S (p := p) (show TX (upc I 116 t) c n from X) (by omega)) (fun x1 m1 hq => ?_)
  obtain ⟨rfl, rfl⟩ := hq
  refine p_istore_n (ls' := [(0, _), (1, _), (2, _), (3, _)]) k154_26 rfl ?_
  refine p_iload_n k154_27 rfl ?_
  refine p_if_eqB (tgt := 110) k154_28 (by decide) (fun _ => ?_) (fun c => False.elim (by cases c))
  refine p_iload_n k154_110 rfl ?_
  refine p_bipush (v := nI 38) k154_111 (by decide) ?_
  refine p_icmp_eq (tgt := 122) k154_113 (by decide) (fun c => False.elim (by exact hx.1 ((nx_eq X.2.2.1 (by omega)).mp c))) (fun _ => ?_)
  refine p_iload_n k154_116 rfl ?_
  refine p_bipush (v := nI 124) k154_117 (by decide) ?_
  refine p_icmp_ne (tgt := 162) k154_119 (by decide) (fun _ => ?_) (fun c => False.elim (by exact hx.2 ((nx_eq X.2.2.1 (by omega)).mp c)))
  refine p_aload_n k154_162 rfl ?_
  refine p_bipush (v := nI 124) k154_163 (by decide) ?_
  refine p_cV1v k154_165 (s_98 S) c_12_296_12 rfl (Nat.le_of_ble_eq_true rfl) (M_settle S (s0 := s) (w0 := W0.length) (sg := 124) (by omega) P (by omega) (by omega) hP hPs hWt) (fun m1 hq => ?_)
  obtain rfl := hq
  refine p_aload_n k154_168 rfl ?_
  refine p_getRv k154_169 (s_98 S) f_12_86_12 (r_98_25 S) ?_
  refine p_iload_n k154_172 rfl ?_
  refine p_aload_n k154_173 rfl ?_
  refine p_getIv k154_174 (s_98 S) f_12_95_12 rfl ?_
  refine p_iastN k154_177 (s_116 S) (by omega) (by decide) ?_
  rw [e116]
  refine p_aload_n k154_178 rfl ?_
  refine p_getIv k154_179 (s_98 S) f_12_98_12 rfl ?_
  refine p_if_neN (tgt := 187) k154_182 (by decide) (by omega) (fun c => False.elim (by omega)) (fun _ => ?_)
  refine p_iconst (v := bI true) k154_185 (by decide) ?_
  refine p_retBF k154_186 rt_154 ?_
  exact k1

set_option maxRecDepth 100000 in
set_option maxHeartbeats 4000000 in
theorem E_endF {d : Nat} {I : Nat → Nat → Int32} {J : Nat → Nat → Int64} {K : Nat → Nat → Option Nat} {h : List xSh} (S : St K h) {c : Nat → Nat} {n : Nat} (X : TX I c n) {p cl s : Nat} {V : Int32} {t g u : Nat → Int32} {Φ : xPost} {O : Int32} {P W0 : List Nat} (hp : p ≤ 100) (hcl : cl < 60) (hx : ¬ c p = 38 ∧ ¬ c p = 124) (hs : s + P.length ≤ 600) (hw : W0.length + P.length ≤ 100) (hP : ∀ a ∈ P, a = 38 ∨ (a = 124 ∧ 124 ≠ 38)) (hst : stk u 0 (P ++ W0)) (hsg : sgOK W0) (hW0 : hdN_ (fun a => a ≠ 38 ∧ (a = 124 → 124 = 38)) W0) (h0 : W0.length ≠ 0) (h41 : ¬ c p = 41) (k1 : Φ (some (.int (bI false))) (eI (upc I 116 (upc t cl (nI (s + P.length)))) (nI p) (V) (nI (s + P.length)) (nI W0.length) (O) (ems g s (ngL P)) (u), J, K, h)) : EvP (d + 4) 154 22 [(0, .ref (98)), (1, .int (nI (cl))), (2, .int (bI (false)))] [] (eI (upc I 116 (t)) (nI p) (V) (nI s) (nI (W0.length + P.length)) (O) (g) (u), J, K, h) Φ := by
  have hn100 := X.2.1
  have hst2 := stk_app.mp hst
  have hPs : stk u W0.length P := by have := hst2.1; rw [Nat.zero_add] at this; exact this
  have hWt : 0 < W0.length → u (W0.length - 1) ≠ nI 38 ∧ (u (W0.length - 1) = nI 124 → 124 = 38) := by
    intro h0
    obtain ⟨a, h1, h2, R, h3⟩ := stk_top hst2.2 hW0 h0
    have ha := sg_lt hsg (a := a) (by rw [h3]; exact List.mem_cons_self ..)
    rw [h1]
    exact ⟨fun e => h2.1 (nI_inj (by omega) (by omega) e), fun e => h2.2 (nI_inj (by omega) (by omega) e)⟩
  refine p_aload_n k154_22 rfl ?_
  refine p_cV0i k154_23 (s_98 S) c_12_269_12 (Nat.le_of_ble_eq_true rfl) (M_next S (p := p) (show TX (upc I 116 t) c n from X) (by omega)) (fun x1 m1 hq => ?_)
  obtain ⟨rfl, rfl⟩ := hq
  refine p_istore_n (ls' := [(0, _), (1, _), (2, _), (3, _)]) k154_26 rfl ?_
  refine p_iload_n k154_27 rfl ?_
  refine p_if_eqB (tgt := 110) k154_28 (by decide) (fun _ => ?_) (fun c => False.elim (by cases c))
  refine p_iload_n k154_110 rfl ?_
  refine p_bipush (v := nI 38) k154_111 (by decide) ?_
  refine p_icmp_eq (tgt := 122) k154_113 (by decide) (fun c => False.elim (by exact hx.1 ((nx_eq X.2.2.1 (by omega)).mp c))) (fun _ => ?_)
  refine p_iload_n k154_116 rfl ?_
  refine p_bipush (v := nI 124) k154_117 (by decide) ?_
  refine p_icmp_ne (tgt := 162) k154_119 (by decide) (fun _ => ?_) (fun c => False.elim (by exact hx.2 ((nx_eq X.2.2.1 (by omega)).mp c)))
  refine p_aload_n k154_162 rfl ?_
  refine p_bipush (v := nI 124) k154_163 (by decide) ?_
  refine p_cV1v k154_165 (s_98 S) c_12_296_12 rfl (Nat.le_of_ble_eq_true rfl) (M_settle S (s0 := s) (w0 := W0.length) (sg := 124) (by omega) P (by omega) (by omega) hP hPs hWt) (fun m1 hq => ?_)
  obtain rfl := hq
  refine p_aload_n k154_168 rfl ?_
  refine p_getRv k154_169 (s_98 S) f_12_86_12 (r_98_25 S) ?_
  refine p_iload_n k154_172 rfl ?_
  refine p_aload_n k154_173 rfl ?_
  refine p_getIv k154_174 (s_98 S) f_12_95_12 rfl ?_
  refine p_iastN k154_177 (s_116 S) (by omega) (by decide) ?_
  rw [e116]
  refine p_aload_n k154_178 rfl ?_
  refine p_getIv k154_179 (s_98 S) f_12_98_12 rfl ?_
  refine p_if_neN (tgt := 187) k154_182 (by decide) (by omega) (fun _ => ?_) (fun c => False.elim (by omega))
  refine p_iload_n k154_187 rfl ?_
  refine p_bipush (v := nI 41) k154_188 (by decide) ?_
  refine p_icmp_eq (tgt := 195) k154_190 (by decide) (fun c => False.elim (by exact h41 ((nx_eq X.2.2.1 (by omega)).mp c))) (fun _ => ?_)
  refine p_iconst (v := bI false) k154_193 (by decide) ?_
  refine p_retBF k154_194 rt_154 ?_
  exact k1

set_option maxRecDepth 100000 in
set_option maxHeartbeats 4000000 in
theorem E_endP {d : Nat} {I : Nat → Nat → Int32} {J : Nat → Nat → Int64} {K : Nat → Nat → Option Nat} {h : List xSh} (S : St K h) {c : Nat → Nat} {n : Nat} (X : TX I c n) {p cl s : Nat} {V : Int32} {t g u : Nat → Int32} {Φ : xPost} {P R0 : List Nat} {k : Nat} (hcl : cl < 60) (h41 : c p = 41) (hs : s + P.length + k ≤ 600) (hw : R0.length + k + 1 + P.length ≤ 100) (hP : ∀ a ∈ P, a = 38 ∨ (a = 124 ∧ 124 ≠ 38)) (hst : stk u 0 (P ++ (40 :: (List.replicate k 33 ++ R0)))) (hsg : sgOK R0) (h33 : hdN_ (fun a => a ≠ 33) R0) (k1 : EvP (d + 4) 154 22 [(0, .ref 98), (1, .int (nI cl)), (2, .int (bI false))] [] (eI (upc I 116 (upc t cl (nI (s + P.length)))) (nI (p + 1)) (V) (nI (s + P.length + k)) (nI R0.length) (nI (cntW R0)) (ems (ems g s (ngL P)) (s + P.length) (List.replicate k (-33))) (u), J, K, h) Φ) : EvP (d + 4) 154 22 [(0, .ref (98)), (1, .int (nI (cl))), (2, .int (bI (false)))] [] (eI (upc I 116 (t)) (nI p) (V) (nI s) (nI (R0.length + k + 1 + P.length)) (nI (cntW R0 + k + 1)) (g) (u), J, K, h) Φ := by
  have hn100 := X.2.1
  have hx : c p = 41 := h41
  have hpn := X.2.2.1.lt (p := p) (by omega)
  have hst2 := stk_app.mp hst
  have hl1 : (40 :: (List.replicate k 33 ++ R0)).length = R0.length + k + 1 := by rw [List.length_cons, List.length_append, List.length_replicate]; omega
  have hPs : stk u (R0.length + k + 1) P := by have := hst2.1; rw [Nat.zero_add, hl1] at this; exact this
  have h40 : u (R0.length + k) = nI 40 := by have := hst2.2.1; rw [Nat.zero_add, List.length_append, List.length_replicate, Nat.add_comm] at this; exact this
  have hWt : 0 < R0.length + k + 1 → u (R0.length + k + 1 - 1) ≠ nI 38 ∧ (u (R0.length + k + 1 - 1) = nI 124 → 124 = 38) := by
    intro _
    rw [show R0.length + k + 1 - 1 = R0.length + k by omega, h40]
    exact ⟨by decide, fun e => absurd e (by decide)⟩
  have hst3 := stk_app.mp hst2.2.2
  have hu33 := stk_rep (w := R0.length) (by have := hst3.1; rw [Nat.zero_add] at this; exact this)
  have hW33 : 0 < R0.length → u (R0.length - 1) ≠ nI 33 := by
    intro h0 e
    obtain ⟨a, h1, h2, R, h3⟩ := stk_top hst3.2 h33 h0
    rw [h1] at e
    exact h2 (nI_inj (by have := sg_lt hsg (a := a) (by rw [h3]; exact List.mem_cons_self ..); omega) (by omega) e)
  refine p_aload_n k154_22 rfl ?_
  refine p_cV0i k154_23 (s_98 S) c_12_269_12 (Nat.le_of_ble_eq_true rfl) (M_next S (p := p) (show TX (upc I 116 t) c n from X) (by omega)) (fun x1 m1 hq => ?_)
  obtain ⟨rfl, rfl⟩ := hq
  rw [nx_lt hpn, hx]
  refine p_istore_n (ls' := [(0, _), (1, _), (2, _), (3, _)]) k154_26 rfl ?_
  refine p_iload_n k154_27 rfl ?_
  refine p_if_eqB (tgt := 110) k154_28 (by decide) (fun _ => ?_) (fun c => False.elim (by cases c))
  refine p_iload_n k154_110 rfl ?_
  refine p_bipush (v := nI 38) k154_111 (by decide) ?_
  refine p_icmp_eqN (tgt := 122) k154_113 (by decide) (by omega) (by omega) (fun c => False.elim (by omega)) (fun _ => ?_)
  refine p_iload_n k154_116 rfl ?_
  refine p_bipush (v := nI 124) k154_117 (by decide) ?_
  refine p_icmp_neN (tgt := 162) k154_119 (by decide) (by omega) (by omega) (fun _ => ?_) (fun c => False.elim (by omega))
  refine p_aload_n k154_162 rfl ?_
  refine p_bipush (v := nI 124) k154_163 (by decide) ?_
  refine p_cV1v k154_165 (s_98 S) c_12_296_12 rfl (Nat.le_of_ble_eq_true rfl) (M_settle S (s0 := s) (w0 := R0.length + k + 1) (sg := 124) (by omega) P (by omega) (by omega) hP hPs hWt) (fun m1 hq => ?_)
  obtain rfl := hq
  refine p_aload_n k154_168 rfl ?_
  refine p_getRv k154_169 (s_98 S) f_12_86_12 (r_98_25 S) ?_
  refine p_iload_n k154_172 rfl ?_
  refine p_aload_n k154_173 rfl ?_
  refine p_getIv k154_174 (s_98 S) f_12_95_12 rfl ?_
  refine p_iastN k154_177 (s_116 S) (by omega) (by decide) ?_
  rw [e116]
  refine p_aload_n k154_178 rfl ?_
  refine p_getIv k154_179 (s_98 S) f_12_98_12 rfl ?_
  refine p_if_neN (tgt := 187) k154_182 (by decide) (by omega) (fun _ => ?_) (fun c => False.elim (by omega))
  refine p_iload_n k154_187 rfl ?_
  refine p_bipush (v := nI 41) k154_188 (by decide) ?_
  refine p_icmp_eqN (tgt := 195) k154_190 (by decide) (by omega) (by omega) (fun _ => ?_) (fun c => False.elim (by omega))
  refine p_aload_n k154_195 rfl ?_
  refine p_dup k154_196 rfl ?_
  refine p_getIv k154_197 (s_98 S) f_12_98_12 rfl ?_
  refine p_iconst (v := nI 1) k154_200 (by decide) ?_
  refine p_isubN (by omega) k154_201 ?_
  refine p_putIv k154_202 (s_98 S) g_12_98_12 n_154_12_29 ?_
  rw [e29, show R0.length + k + 1 - 1 = R0.length + k by omega]
  refine p_aload_n k154_205 rfl ?_
  refine p_dup k154_206 rfl ?_
  refine p_getIv k154_207 (s_98 S) f_12_101_12 rfl ?_
  refine p_iconst (v := nI 1) k154_210 (by decide) ?_
  refine p_isubN (by omega) k154_211 ?_
  refine p_putIv k154_212 (s_98 S) g_12_101_12 n_154_12_30 ?_
  rw [e30, show cntW R0 + k + 1 - 1 = cntW R0 + k by omega]
  refine p_aload_n k154_215 rfl ?_
  refine p_dup k154_216 rfl ?_
  refine p_getIv k154_217 (s_98 S) f_12_62_12 rfl ?_
  refine p_iconst (v := nI 1) k154_220 (by decide) ?_
  refine p_iaddN k154_221 ?_
  refine p_putIv k154_222 (s_98 S) g_12_62_12 n_154_12_17 ?_
  rw [e17]
  refine p_aload_n k154_225 rfl ?_
  refine p_cV0v k154_226 (s_98 S) c_12_290_12 (Nat.le_of_ble_eq_true rfl) (M_whole S (s0 := s + P.length) (w0 := R0.length) (o0 := cntW R0) (k0 := k) (by omega) (by omega) (by have := cnt_le R0; omega) hu33 hW33) (fun m1 hq => ?_)
  obtain rfl := hq
  refine p_goto (tgt := 22) k154_229 (by decide) ?_
  refine p_drop [0, 1, 2] rfl ?_
  exact k1

