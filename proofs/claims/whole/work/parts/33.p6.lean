/-! the reference reads: goesText, town -/
/-- nothing but this town's own places changed -/
def FRT (I I2 : Nat → Nat → Int32) (f : Nat) : Prop := (∀ x, x < 111 ∨ 116 < x → I2 x = I x) ∧ (∀ i, i ≠ f → I2 111 i = I 111 i) ∧ ∀ x i, 112 ≤ x → x ≤ 116 → (i < 10 * f ∨ 10 * f + 10 ≤ i) → I2 x i = I x i
theorem FRT.refl (I : Nat → Nat → Int32) (f : Nat) : FRT I I f := ⟨fun _ _ => rfl, fun _ _ => rfl, fun _ _ _ _ _ => rfl⟩
theorem FRT.trans {I I1 I2 : Nat → Nat → Int32} {f : Nat} (h : FRT I I1 f) (h2 : FRT I1 I2 f) : FRT I I2 f := ⟨fun x hx => (h2.1 x hx).trans (h.1 x hx), fun i hi => (h2.2.1 i hi).trans (h.2.1 i hi), fun x i a b hi => (h2.2.2 x i a b hi).trans (h.2.2 x i a b hi)⟩
theorem FRT.cl {I I2 : Nat → Nat → Int32} {f m : Nat} (h : FRM I I2 (10 * f + m)) (hm : m < 10) : FRT I I2 f := ⟨fun x hx => h.1 x (by omega), fun i hi => by rw [h.1 111 (by omega)], fun x i a b hi => h.2 x i (by omega)⟩
theorem FRT.up {I : Nat → Nat → Int32} {f : Nat} {v : Int32} : FRT I (upc I 111 (upc (I 111) f v)) f := ⟨fun x hx => upc_ne _ _ (by omega), fun i hi => (congrFun (upc_eq I 111 _) i).trans (upc_ne _ _ hi), fun x i a b hi => by rw [upc_ne _ _ (by omega)]⟩
theorem TX.fr {I I2 : Nat → Nat → Int32} {c : Nat → Nat} {n f : Nat} (X : TX I c n) (h : FRT I I2 f) : TX I2 c n := by
  have h1 := h.1 98 (by omega)
  have h2 := h.1 110 (by omega)
  unfold TX
  rw [h1, h2]
  exact X
theorem LT9.fr {I I2 : Nat → Nat → Int32} {f : Nat} (X : LT9 I) (h : FRT I I2 f) : LT9 I2 := fun i hi => by rw [h.1 119 (by omega)]; exact X i hi
theorem RClg.up111 {I : Nat → Nat → Int32} {g w : Nat → Int32} {c : Nat} {x : xCl} {s s2 : Nat} (h : RClg I g c x s) (hs : s ≤ s2) : RClg (upc I 111 w) g c x s2 := by
  obtain ⟨h1, h2, h3, h4, h5⟩ := h
  refine ⟨h1, h2, h3, h4, fun e => ?_⟩
  obtain ⟨k1, f0, k2, k3, k4, k5, k6⟩ := h5 e
  exact ⟨k1, f0, by omega, k3, k4, k5, k6⟩
/-- all clauses of a town as they are kept -/
def RTg (I : Nat → Nat → Int32) (g : Nat → Int32) (f : Nat) (R : List xCl) (smax : Nat) : Prop := ∀ i, i < R.length → RClg I g (10 * f + i) (R.getD i (0, 0, 0, [])) smax
theorem getD_app1 {R : List xCl} {x : xCl} {i : Nat} (hi : i < R.length) : (R ++ [x]).getD i (0, 0, 0, []) = R.getD i (0, 0, 0, []) := by
  rw [List.getD_eq_getElem?_getD, List.getElem?_append_left hi, ← List.getD_eq_getElem?_getD]
theorem getD_app2 {R : List xCl} {x : xCl} : (R ++ [x]).getD R.length (0, 0, 0, []) = x := by
  rw [List.getD_eq_getElem?_getD, List.getElem?_append_right (Nat.le_refl _), Nat.sub_self]
  rfl
theorem RTg.snoc {I I2 : Nat → Nat → Int32} {g g2 w : Nat → Int32} {f : Nat} {R : List xCl} {x : xCl} {s s2 : Nat} (h : RTg I g f R s) (hF : FRM I I2 (10 * f + R.length)) (hg : ∀ i, i < s → g2 i = g i) (hs : s ≤ s2) (hx : RClg I2 g2 (10 * f + R.length) x s2) : RTg (upc I2 111 w) g2 f (R ++ [x]) s2 := by
  intro i hi
  rw [List.length_append] at hi
  have hi2 : i < R.length + 1 := hi
  by_cases e : i = R.length
  · subst e; rw [getD_app2]; exact hx.up111 (Nat.le_refl _)
  · rw [getD_app1 (by omega)]
    exact ((h i (by omega)).mono hF (by omega) hg hs).up111 (Nat.le_refl _)
theorem RTg.le {I : Nat → Nat → Int32} {g : Nat → Int32} {f : Nat} {R : List xCl} {s s2 : Nat} (h : RTg I g f R s) (hs : s ≤ s2) : RTg I g f R s2 := by
  intro i hi
  obtain ⟨h1, h2, h3, h4, h5⟩ := h i hi
  refine ⟨h1, h2, h3, h4, fun e => ?_⟩
  obtain ⟨k1, f0, k2, k3, k4, k5, k6⟩ := h5 e
  exact ⟨k1, f0, by omega, k3, k4, k5, k6⟩
def GTY (I : Nat → Nat → Int32) (g : Nat → Int32) (f : Nat) (R : List xCl) (I2 : Nat → Nat → Int32) (g2 : Nat → Int32) : Prop := FRT I I2 f ∧ (∀ i, i < 100 * f → g2 i = g i) ∧ I2 111 f = nI R.length ∧ 1 ≤ R.length ∧ R.length ≤ 10 ∧ RTg I2 g2 f R (100 * f + 100)
def GTN (I : Nat → Nat → Int32) (g : Nat → Int32) (f : Nat) (I2 : Nat → Nat → Int32) (g2 : Nat → Int32) : Prop := FRT I I2 f ∧ (∀ i, i < 100 * f → g2 i = g i)
theorem pCl_le {c : Nat → Nat} {n p q : Nat} {o : Option xCl} (hc : CT c n) (hp : p ≤ n) (h : pCl c n p = (q, o)) : q ≤ n := by
  unfold pCl at h
  rcases e1 : pLit c (wdN (hdN (c p))) p with ⟨q1, _ | _⟩
  · rw [e1] at h; cases h; exact (pLit_le hc (wd_ok _) hp e1).2
  · rw [e1] at h
    have h1 := (pLit_le hc (wd_ok _) hp e1).2
    replace h : pCl2 c n (hdN (c p)) q1 = (q, o) := h
    unfold pCl2 at h
    rcases e2 : pNum c q1 with ⟨q2, _ | v⟩
    · rw [e2] at h; cases h; rw [(pNum_none e2).1]; exact h1
    · rw [e2] at h
      have h2 := (pNum_some hc e2).2.1
      replace h : pCl3 c n (hdN (c p)) v q2 = (q, o) := h
      unfold pCl3 at h
      by_cases k1 : hdN (c p) = 2
      · rw [if_pos k1] at h; cases h; exact h2
      · rw [if_neg k1] at h
        by_cases k2 : c q2 = 32
        · have hq := hc.lt (p := q2) (by omega)
          rw [if_neg (fun z => z k2)] at h
          by_cases k3 : hdN (c p) < 2
          · rw [if_pos k3] at h
            have hg := pE_pg hc (by omega) (by omega) (pF_pg hc 4 (Nat.le_refl _)) (q2 + 1)
            rcases e4 : pE c (pF c n 4) n (q2 + 1) with ⟨q3, _ | L⟩
            · rw [e4] at h; cases h; exact (hg.2 _ (by omega) e4).2
            · rw [e4] at h; cases h; exact (hg.1 _ _ e4).2.1
          · rw [if_neg k3] at h
            rcases e4 : pNum c (q2 + 1) with ⟨q3, _ | w⟩
            · rw [e4] at h; cases h; rw [(pNum_none e4).1]; omega
            · rw [e4] at h; cases h; exact (pNum_some hc e4).2.1
        · rw [if_pos k2] at h; cases h; exact h2
set_option maxRecDepth 100000 in
set_option maxHeartbeats 4000000 in
theorem M_goesText {d : Nat} {I : Nat → Nat → Int32} {J : Nat → Nat → Int64} {K : Nat → Nat → Option Nat} {h : List xSh} (S : St K h) {c : Nat → Nat} {n : Nat} {P V Sg W O : Int32} {g u : Nat → Int32} (X : TX I c n) (hLT : LT9 I) {f : Nat} (hf : f < 6) : EvP (d + 6) 157 0 [(0, .ref (98)), (1, .int (nI (f)))] [] (eI I (P) (V) (Sg) (W) (O) (g) (u), J, K, h) (QI (fun x m => (∃ q R, pTw c n 10 0 = (q, some R) ∧ x = bI true ∧ ∃ I' V' S' W' O' g' u', GTY I g f R I' g' ∧ m = (eI I' (nI q) V' S' W' O' g' u', J, K, h)) ∨ (∃ q, pTw c n 10 0 = (q, none) ∧ q ≤ n ∧ x = bI false ∧ ∃ I' V' S' W' O' g' u', GTN I g f I' g' ∧ m = (eI I' (nI q) V' S' W' O' g' u', J, K, h)))) := by
  refine p_aload_n k157_0 rfl ?_
  refine p_iconst (v := nI 0) k157_1 (by decide) ?_
  refine p_putIv k157_2 (s_98 S) g_12_62_12 n_157_12_17 ?_
  rw [e17]
  refine p_aload_n k157_5 rfl ?_
  refine p_bipush (v := nI 100) k157_6 (by decide) ?_
  refine p_iload_n k157_8 rfl ?_
  refine p_imulN k157_9 ?_
  refine p_putIv k157_10 (s_98 S) g_12_95_12 n_157_12_28 ?_
  rw [e28]
  refine p_iconst (v := nI 0) k157_13 (by decide) ?_
  refine p_istore_n (ls' := [(0, _), (1, _), (2, _)]) k157_14 rfl ?_
  have L : ∀ (j : Nat) (m p s : Nat) (V W O : Int32) (I1 : Nat → Nat → Int32) (g1 u : Nat → Int32) (R0 : List xCl), m + j = 10 → 1 ≤ j → R0.length = m → FRT I I1 f → p ≤ n → 100 * f ≤ s → s ≤ 100 * f + p → (∀ i, i < 100 * f → g1 i = g i) → RTg I1 g1 f R0 s → (∀ q R, pTw c n j p = (q, some R) → pTw c n 10 0 = (q, some (R0 ++ R))) → (∀ q, pTw c n j p = (q, none) → pTw c n 10 0 = (q, none)) → EvP (d + 6) 157 15 [(0, .ref (98)), (1, .int (nI (f))), (2, .int (nI (m)))] [] (eI I1 (nI p) (V) (nI s) (W) (O) (g1) (u), J, K, h) (QI (fun x m => (∃ q R, pTw c n 10 0 = (q, some R) ∧ x = bI true ∧ ∃ I' V' S' W' O' g' u', GTY I g f R I' g' ∧ m = (eI I' (nI q) V' S' W' O' g' u', J, K, h)) ∨ (∃ q, pTw c n 10 0 = (q, none) ∧ q ≤ n ∧ x = bI false ∧ ∃ I' V' S' W' O' g' u', GTN I g f I' g' ∧ m = (eI I' (nI q) V' S' W' O' g' u', J, K, h)))) := by
    intro j
    induction j with
    | zero =>
      intro m p s V W O I1 g1 u R0 hk
      intro hj1 hRl hFR hp hs1 hs2 hgl hRT hrY hrN
      omega
    | succ j ih =>
      intro m p s V W O I1 g1 u R0 hk
      intro hj1 hRl hFR hp hs1 hs2 hgl hRT hrY hrN
      have hn := X.2.1
      rcases e1 : pCl c n p with ⟨q1, _ | cl⟩
      · skip
        have hst : pTw c n (j + 1) p = bnd (pCl c n p) (fun q cl => if q = n then (q, some [cl]) else if j = 0 then (q, none) else if c q = 59 then bnd (pTw c n j (q + 1)) (fun q1 R => (q1, some (cl :: R))) else (q, none)) := rfl
        rw [e1] at hst
        replace hst : pTw c n (j + 1) p = (q1, none) := hst
        have hq1 := pCl_le X.2.2.1 hp e1
        refine p_aload_n k157_15 rfl ?_
        refine p_bipush (v := nI 10) k157_16 (by decide) ?_
        refine p_iload_n k157_18 rfl ?_
        refine p_imulN k157_19 ?_
        refine p_iload_n k157_20 rfl ?_
        refine p_iaddN k157_21 ?_
        refine p_cV1i k157_22 (s_98 S) c_12_309_12 rfl (Nat.le_of_ble_eq_true rfl) (M_takesClauseN S (I := I1) (s0 := 100 * f) (X.fr hFR) hp (by omega) (by omega) (by omega) (by omega) (hLT.fr hFR) e1) (fun x1 m1 hq => ?_)
        obtain ⟨rfl, I2, V2, S2, W2, O2, g2, u2, w1, w2, rfl⟩ := hq
        refine p_if_neB (tgt := 30) k157_25 (by decide) (fun c => False.elim (by cases c)) (fun _ => ?_)
        refine p_iconst (v := bI false) k157_28 (by decide) ?_
        refine p_returnB k157_29 rt_157 ?_
        exact Or.inr ⟨q1, hrN q1 hst, hq1, rfl, I2, V2, S2, W2, O2, g2, u2, ⟨hFR.trans (FRT.cl w1 (by omega)), fun i hi => (w2 i hi).trans (hgl i hi)⟩, rfl⟩
      · skip
        have hst : pTw c n (j + 1) p = bnd (pCl c n p) (fun q cl => if q = n then (q, some [cl]) else if j = 0 then (q, none) else if c q = 59 then bnd (pTw c n j (q + 1)) (fun q1 R => (q1, some (cl :: R))) else (q, none)) := rfl
        rw [e1] at hst
        replace hst : pTw c n (j + 1) p = (if q1 = n then (q1, some [cl]) else if j = 0 then (q1, none) else if c q1 = 59 then bnd (pTw c n j (q1 + 1)) (fun q1 R => (q1, some (cl :: R))) else (q1, none)) := hst
        refine p_aload_n k157_15 rfl ?_
        refine p_bipush (v := nI 10) k157_16 (by decide) ?_
        refine p_iload_n k157_18 rfl ?_
        refine p_imulN k157_19 ?_
        refine p_iload_n k157_20 rfl ?_
        refine p_iaddN k157_21 ?_
        refine p_cV1i k157_22 (s_98 S) c_12_309_12 rfl (Nat.le_of_ble_eq_true rfl) (M_takesClauseY S (I := I1) (s0 := 100 * f) (X.fr hFR) hp (by omega) (by omega) (by omega) (by omega) (hLT.fr hFR) e1) (fun x1 m1 hq => ?_)
        obtain ⟨rfl, I2, V2, W2, O2, u2, w1, w2, w3, w4, w5, rfl⟩ := hq
        have hX3 : TX (upc I2 111 (upc (I2 111) f (nI (m + 1)))) c n := X.fr (hFR.trans ((FRT.cl w1 (by omega)).trans FRT.up))
        refine p_if_neB (tgt := 30) k157_25 (by decide) (fun _ => ?_) (fun c => False.elim (by cases c))
        refine p_iincN (ls1 := [(0, _), (1, _), (2, _)]) k157_30 rfl rfl ?_
        refine p_aload_n k157_33 rfl ?_
        refine p_getRv k157_34 (s_98 S) f_12_71_12 (r_98_20 S) ?_
        refine p_iload_n k157_37 rfl ?_
        refine p_iload_n k157_38 rfl ?_
        refine p_iastN k157_39 (s_111 S) (by omega) (by decide) ?_
        rw [e111]
        refine p_aload_n k157_40 rfl ?_
        refine p_getIv k157_41 (s_98 S) f_12_62_12 rfl ?_
        refine p_aload_n k157_44 rfl ?_
        refine p_getIv k157_45 (s_98 S) f_12_59_12 (show _ = nI n from hX3.1) ?_
        refine p_icmp_neN (tgt := 53) k157_48 (by decide) (by omega) (by omega) (fun cq48 => ?_) (fun cq48 => ?_)
        · skip
          refine p_iload_n k157_53 rfl ?_
          refine p_bipush (v := nI 10) k157_54 (by decide) ?_
          refine p_icmp_eqN (tgt := 68) k157_56 (by decide) (by omega) (by omega) (fun cq56 => ?_) (fun cq56 => ?_)
          · skip
            refine p_iconst (v := bI false) k157_68 (by decide) ?_
            refine p_returnB k157_69 rt_157 ?_
            rw [if_neg cq48] at hst
            first | rw [if_pos (show j = 0 by omega)] at hst | (rw [if_neg (show ¬ j = 0 by omega), if_neg (of_decide_eq_false cq65), ] at hst; rw [if_neg (of_decide_eq_false cq65)])
            exact Or.inr ⟨q1, hrN q1 hst, w3, rfl, (upc I2 111 (upc (I2 111) f (nI (m + 1)))), V2, _, W2, O2, _, u2, ⟨(hFR.trans ((FRT.cl w1 (by omega)).trans FRT.up)), (fun i hi => (ems_lo _ _ _ _ (by omega)).trans (hgl i hi))⟩, rfl⟩
          · skip
            refine p_aload_n k157_59 rfl ?_
            refine p_bipush (v := nI 59) k157_60 (by decide) ?_
            refine p_cV1i k157_62 (s_98 S) c_12_273_12 rfl (Nat.le_of_ble_eq_true rfl) (M_takes S (I := (upc I2 111 (upc (I2 111) f (nI (m + 1))))) (p := q1) (k := 59) hX3 (by omega) (by omega)) (fun x1 m1 hq => ?_)
            obtain ⟨rfl, rfl⟩ := hq
            refine p_if_neB (tgt := 15) k157_65 (by decide) (fun cq65 => ?_) (fun cq65 => ?_)
            · skip
              have cq65 := of_decide_eq_true cq65
              have hq1n := X.2.2.1.lt (p := q1) (by omega)
              rw [if_pos cq65]
              have hm9 : ¬ j = 0 := by omega
              rw [if_neg cq48, if_neg hm9, if_pos cq65] at hst
              refine ih (m + 1) (q1 + 1) (s + cl.2.2.2.length) _ _ _ (upc I2 111 (upc (I2 111) f (nI (m + 1)))) (ems g1 s (cl.2.2.2.map rtN)) u2 (R0 ++ [cl]) (by omega) (by omega) (by rw [List.length_append, hRl]; rfl) (hFR.trans ((FRT.cl w1 (by omega)).trans FRT.up)) (by omega) (by omega) (by omega) (fun i hi => (ems_lo _ _ _ _ (by omega)).trans (hgl i hi)) (hRT.snoc (g2 := ems g1 s (cl.2.2.2.map rtN)) (s2 := s + cl.2.2.2.length) (by rw [hRl]; exact w1) (fun i hi => ems_lo _ _ _ _ hi) (by omega) (by rw [hRl]; exact w2)) (fun q R e => ?_) (fun q e => ?_)
              · rw [e] at hst; rw [hrY q (cl :: R) hst, List.append_assoc]; rfl
              · rw [e] at hst; exact hrN q hst
            · skip
              refine p_iconst (v := bI false) k157_68 (by decide) ?_
              refine p_returnB k157_69 rt_157 ?_
              rw [if_neg cq48] at hst
              first | rw [if_pos (show j = 0 by omega)] at hst | (rw [if_neg (show ¬ j = 0 by omega), if_neg (of_decide_eq_false cq65), ] at hst; rw [if_neg (of_decide_eq_false cq65)])
              exact Or.inr ⟨q1, hrN q1 hst, w3, rfl, (upc I2 111 (upc (I2 111) f (nI (m + 1)))), V2, _, W2, O2, _, u2, ⟨(hFR.trans ((FRT.cl w1 (by omega)).trans FRT.up)), (fun i hi => (ems_lo _ _ _ _ (by omega)).trans (hgl i hi))⟩, rfl⟩
        · skip
          refine p_iconst (v := bI true) k157_51 (by decide) ?_
          refine p_returnB k157_52 rt_157 ?_
          rw [if_pos cq48] at hst
          exact Or.inl ⟨q1, R0 ++ [cl], hrY q1 [cl] hst, rfl, (upc I2 111 (upc (I2 111) f (nI (m + 1)))), V2, _, W2, O2, _, u2, ⟨(hFR.trans ((FRT.cl w1 (by omega)).trans FRT.up)), (fun i hi => (ems_lo _ _ _ _ (by omega)).trans (hgl i hi)), by rw [List.length_append, hRl]; exact (congrFun (upc_eq I2 111 _) f).trans (upc_eq _ _ _), by rw [List.length_append]; show 1 ≤ _ + 1; omega, by rw [List.length_append]; show _ + 1 ≤ 10; omega, RTg.le (hRT.snoc (g2 := ems g1 s (cl.2.2.2.map rtN)) (s2 := s + cl.2.2.2.length) (by rw [hRl]; exact w1) (fun i hi => ems_lo _ _ _ _ hi) (by omega) (by rw [hRl]; exact w2)) (by omega)⟩, rfl⟩
  exact L 10 0 0 (100 * f) _ _ _ I g u [] (by omega) (by omega) rfl (FRT.refl I f) (by omega) (Nat.le_refl _) (by omega) (fun _ _ => rfl) (fun i hi => absurd hi (Nat.not_lt_zero _)) (fun q R e => e) (fun q e => e)

/-- what a call of town leaves as it was -/
def TWN (I I2 : Nat → Nat → Int32) (tw : Nat) : Prop := (∀ x, x ≠ 98 → (x < 111 ∨ 118 < x) → I2 x = I x) ∧ (∀ k, k < 14 ∨ (18 < k ∧ k ≠ 28 ∧ k ≠ 29 ∧ k ≠ 30) → I2 98 k = I 98 k) ∧ (∀ i, i ≠ tw → I2 111 i = I 111 i) ∧ (∀ x i, 112 ≤ x → x ≤ 116 → (i < 10 * tw ∨ 10 * tw + 10 ≤ i) → I2 x i = I x i) ∧ (∀ i, i < 100 * tw → I2 117 i = I 117 i) ∧ I2 98 16 = nI 0
theorem eI_hi {I : Nat → Nat → Int32} {P V Sg W O : Int32} {g u : Nat → Int32} {x : Nat} (h1 : x ≠ 98) (h2 : x ≠ 117) (h3 : x ≠ 118) : eI I P V Sg W O g u x = I x := by
  unfold eI
  rw [upc_ne _ _ h3, upc_ne _ _ h2, upc_ne _ _ h1]
theorem eI_98 {I : Nat → Nat → Int32} {P V Sg W O : Int32} {g u : Nat → Int32} {k : Nat} (h : k < 17 ∨ (18 < k ∧ k ≠ 28 ∧ k ≠ 29 ∧ k ≠ 30)) : eI I P V Sg W O g u 98 k = I 98 k := by
  show eF (I 98) P V Sg W O k = I 98 k
  unfold eF
  rw [upc_ne _ _ (by omega), upc_ne _ _ (by omega), upc_ne _ _ (by omega), upc_ne _ _ (by omega), upc_ne _ _ (by omega)]
theorem TWN.mk2 {I I1 I2 : Nat → Nat → Int32} {tw : Nat} {P V Sg W O : Int32} {g u : Nat → Int32} (h : FRT I I1 tw) (hg : ∀ i, i < 100 * tw → g i = I 117 i) (h1 : ∀ x, x ≠ 98 → I2 x = eI I1 P V Sg W O g u x) (h2 : ∀ k, k < 14 ∨ 16 < k → I2 98 k = eI I1 P V Sg W O g u 98 k) (h3 : I2 98 16 = nI 0) : TWN I I2 tw := by
  refine ⟨fun x hx hx2 => ?_, fun k hk => ?_, fun i hi => ?_, fun x i a b hi => ?_, fun i hi => ?_, h3⟩
  · rw [h1 x hx, eI_hi hx (by omega) (by omega), h.1 x (by omega)]
  · rw [h2 k (by omega), eI_98 (by omega), h.1 98 (by omega)]
  · rw [h1 111 (by decide), eI_hi (by decide) (by decide) (by decide)]; exact h.2.1 i hi
  · rw [h1 x (by omega), eI_hi (by omega) (by omega) (by omega)]; exact h.2.2 x i a b hi
  · rw [h1 117 (by decide)]; exact hg i hi
set_option maxRecDepth 100000 in
set_option maxHeartbeats 4000000 in
theorem M_town {d : Nat} {I : Nat → Nat → Int32} {J : Nat → Nat → Int64} {K : Nat → Nat → Option Nat} {h : List xSh} (S : St K h) {c : Nat → Nat} {n : Nat} (X : TX I c n) (hLT : LT9 I) {tw : Nat} (htw : I 98 14 = nI tw) (htw6 : tw ≤ 6) : EvP (d + 7) 158 0 [(0, .ref (98))] [] (I, J, K, h) (QI (fun x m => (tw = 6 ∧ x = -4 ∧ m = (I, J, K, h)) ∨ (tw < 6 ∧ ∃ I2, m = (I2, J, K, h) ∧ TWN I I2 tw ∧ ((∃ q R, pTw c n 10 0 = (q, some R) ∧ x = nI tw ∧ I2 98 14 = nI (tw + 1) ∧ I2 98 15 = nI tw ∧ I2 111 tw = nI R.length ∧ 1 ≤ R.length ∧ R.length ≤ 10 ∧ RTg I2 (I2 117) tw R (100 * tw + 100)) ∨ (∃ q, pTw c n 10 0 = (q, none) ∧ q ≤ n ∧ x = -10 - nI q ∧ I2 98 14 = nI tw ∧ I2 98 15 = I 98 15))))) := by
  refine p_aload_n k158_0 rfl ?_
  refine p_getIv k158_1 (s_98 S) f_12_53_12 htw ?_
  refine p_bipush (v := nI 6) k158_4 (by decide) ?_
  refine p_icmp_neN (tgt := 12) k158_6 (by decide) (by omega) (by omega) (fun cq6 => ?_) (fun cq6 => ?_)
  · skip
    refine p_aload_n k158_12 rfl ?_
    refine p_aload_n k158_13 rfl ?_
    refine p_getIv k158_14 (s_98 S) f_12_53_12 htw ?_
    refine p_cV1i k158_17 (s_98 S) c_12_312_12 rfl (Nat.le_of_ble_eq_true rfl) ((by have hh := M_goesText (d := d) (J := J) (P := I 98 17) (V := I 98 18) (Sg := I 98 28) (W := I 98 29) (O := I 98 30) (g := I 117) (u := I 118) S X hLT (f := tw) (by omega); rw [eI_self] at hh; exact hh)) (fun x1 m1 hq => ?_)
    rcases hq with ⟨q, R, hR, rfl, I1, V1, S1, W1, O1, g1, u1, hG, rfl⟩ | ⟨q, hR, hqn, rfl, I1, V1, S1, W1, O1, g1, u1, hG, rfl⟩
    · skip
      have e14 : I1 98 14 = nI tw := by rw [hG.1.1 98 (by omega)]; exact htw
      refine p_istore_n (ls' := [(0, _), (1, _)]) k158_20 rfl ?_
      refine p_aload_n k158_21 rfl ?_
      refine p_iconst (v := nI 0) k158_22 (by decide) ?_
      refine p_putIv k158_23 (s_98 S) g_12_59_12 n_158_12_16 ?_
      refine p_iload_n k158_26 rfl ?_
      refine p_if_neB (tgt := 38) k158_27 (by decide) (fun _ => ?_) (fun c => False.elim (by cases c))
      refine p_aload_n k158_38 rfl ?_
      refine p_aload_n k158_39 rfl ?_
      refine p_getIv k158_40 (s_98 S) f_12_53_12 (show _ = nI tw from e14) ?_
      refine p_putIv k158_43 (s_98 S) g_12_56_12 n_158_12_15 ?_
      refine p_aload_n k158_46 rfl ?_
      refine p_dup k158_47 rfl ?_
      refine p_getIv k158_48 (s_98 S) f_12_53_12 (show _ = nI tw from e14) ?_
      refine p_iconst (v := nI 1) k158_51 (by decide) ?_
      refine p_iaddN k158_52 ?_
      refine p_putIv k158_53 (s_98 S) g_12_53_12 n_158_12_14 ?_
      refine p_aload_n k158_56 rfl ?_
      refine p_getIv k158_57 (s_98 S) f_12_56_12 rfl ?_
      refine p_ireturn k158_60 rt_158 ?_
      refine Or.inr ⟨by omega, _, rfl, TWN.mk2 (g := g1) (u := u1) (P := nI q) (V := V1) (Sg := S1) (W := W1) (O := O1) hG.1 hG.2.1 (fun x hx => ?_) (fun k hk => ?_) rfl, Or.inl ⟨q, R, hR, rfl, rfl, rfl, ?_, hG.2.2.2.1, hG.2.2.2.2.1, ?_⟩⟩
      · rw [upc_ne _ _ hx, upc_ne _ _ hx, upc_ne _ _ hx]
      · exact (upc_ne _ _ (by omega)).trans ((upc_ne _ _ (by omega)).trans (upc_ne _ _ (by omega)))
      · exact hG.2.2.1
      · exact hG.2.2.2.2.2
    · skip
      have e14 : I1 98 14 = nI tw := by rw [hG.1.1 98 (by omega)]; exact htw
      refine p_istore_n (ls' := [(0, _), (1, _)]) k158_20 rfl ?_
      refine p_aload_n k158_21 rfl ?_
      refine p_iconst (v := nI 0) k158_22 (by decide) ?_
      refine p_putIv k158_23 (s_98 S) g_12_59_12 n_158_12_16 ?_
      refine p_iload_n k158_26 rfl ?_
      refine p_if_neB (tgt := 38) k158_27 (by decide) (fun c => False.elim (by cases c)) (fun _ => ?_)
      refine p_bipush (v := (-10)) k158_30 (by decide) ?_
      refine p_aload_n k158_32 rfl ?_
      refine p_getIv k158_33 (s_98 S) f_12_62_12 rfl ?_
      refine p_isub k158_36 ?_
      refine p_ireturn k158_37 rt_158 ?_
      refine Or.inr ⟨by omega, _, rfl, TWN.mk2 (g := g1) (u := u1) (P := nI q) (V := V1) (Sg := S1) (W := W1) (O := O1) hG.1 hG.2 (fun x hx => ?_) (fun k hk => ?_) rfl, Or.inr ⟨q, hR, hqn, rfl, e14, ?_⟩⟩
      · rw [upc_ne _ _ hx]
      · exact upc_ne _ _ (by omega)
      · show I1 98 15 = I 98 15; rw [hG.1.1 98 (by omega)]
  · skip
    refine p_bipush (v := (-4)) k158_9 (by decide) ?_
    refine p_ireturn k158_11 rt_158 ?_
    exact Or.inl ⟨by omega, rfl, rfl⟩

