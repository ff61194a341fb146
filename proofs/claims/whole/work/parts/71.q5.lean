/-! the class reads: parse, town -/
theorem pCl_bd {c : Nat → Nat} {n p q : Nat} {cl : xCl} (hc : CT c n) (hp : p ≤ n) (h : pCl c n p = (q, some cl)) : p ≤ q ∧ cl.2.2.2.length ≤ q - p := by
  unfold pCl at h
  rcases e1 : pLit c (wdN (hdN (c p))) p with ⟨q1, _ | _⟩
  · rw [e1] at h; cases h
  · rw [e1] at h
    have h1 := (pLit_le hc (wd_ok _) hp e1)
    replace h : pCl2 c n (hdN (c p)) q1 = (q, some cl) := h
    unfold pCl2 at h
    rcases e2 : pNum c q1 with ⟨q2, _ | v⟩
    · rw [e2] at h; cases h
    · rw [e2] at h
      have h2 := (pNum_some hc e2)
      replace h : pCl3 c n (hdN (c p)) v q2 = (q, some cl) := h
      unfold pCl3 at h
      by_cases k1 : hdN (c p) = 2
      · rw [if_pos k1] at h; cases h; exact ⟨by omega, Nat.zero_le _⟩
      · rw [if_neg k1] at h
        by_cases k2 : c q2 = 32
        · rw [if_neg (fun z => z k2)] at h
          by_cases k3 : hdN (c p) < 2
          · rw [if_pos k3] at h
            rcases e3 : pE c (pF c n 4) n (q2 + 1) with ⟨q3, _ | L⟩
            · rw [e3] at h; cases h
            · rw [e3] at h
              cases h
              have h3 := (pE_pg hc (by decide) (by decide) (pF_pg hc 4 (by decide)) (q2 + 1)).1 _ _ e3
              exact ⟨by omega, by have := h3.2.2.1; show L.length ≤ _; omega⟩
          · rw [if_neg k3] at h
            rcases e3 : pNum c (q2 + 1) with ⟨q3, _ | w⟩
            · rw [e3] at h; cases h
            · rw [e3] at h
              cases h
              have h3 := pNum_some hc e3
              exact ⟨by omega, Nat.zero_le _⟩
        · rw [if_pos k2] at h; cases h
theorem pB_k {f : Nat → Int32} {m p k : Nat} {s : Bool} {v : Int32} (hk : k ≠ 6 ∧ k ≠ 10 ∧ k ≠ 11) : upc (pB f m p s) k v = pB (upc f k v) m p s := by
  unfold pB
  rw [upc_sw _ (Ne.symm hk.2.2), upc_sw _ (Ne.symm hk.2.1), upc_sw _ (Ne.symm hk.1)]
theorem PS_k {I : Nat → Nat → Int32} {b m p k : Nat} {s : Bool} {cd : Nat → Int32} {v : Int32} (hk : k ≠ 6 ∧ k ≠ 10 ∧ k ≠ 11) : upc (PS I b m p s cd) b (upc (PS I b m p s cd b) k v) = PS (s1 I b k v) b m p s cd := by
  rw [PS_b, pB_k hk]
  unfold PS
  rw [upc_uu]
  unfold s1
  rw [upc_eq, upc_sw I (show b ≠ b + 6 by omega), upc_uu]
theorem PS_in {I : Nat → Nat → Int32} {b n : Nat} : s1 (s1 (s1 (s1 (s1 I b 9 (nI n)) b 10 (nI 0)) b 11 (bI true)) b 0 (nI 0)) b 6 (nI 0) = PS (s1 (s1 I b 9 (nI n)) b 0 (nI 0)) b 0 0 true (I (b + 6)) := by
  funext x
  by_cases e : x = b
  · subst e
    rw [PS_b]
    unfold s1 pB
    simp only [upc_eq]
    rw [upc_sw _ (show 0 ≠ 6 by decide), upc_sw _ (show 11 ≠ 6 by decide), upc_sw _ (show 10 ≠ 6 by decide), upc_sw _ (show 11 ≠ 0 by decide), upc_sw _ (show 10 ≠ 0 by decide), upc_sw _ (show 6 ≠ 0 by decide)]
  · by_cases e2 : x = b + 6
    · subst e2
      rw [PS_cd]
      unfold s1
      rw [upc_ne _ _ e, upc_ne _ _ e, upc_ne _ _ e, upc_ne _ _ e, upc_ne _ _ e]
    · rw [PS_o e e2]
      unfold s1
      rw [upc_ne _ _ e, upc_ne _ _ e, upc_ne _ _ e, upc_ne _ _ e, upc_ne _ _ e, upc_ne _ _ e, upc_ne _ _ e]
theorem St.src {K : Nat → Nat → Option Nat} {h : List xSh} (S : St K h) {b : Nat} (hb : 44 ≤ b ∧ b < 98) (v : Option Nat) : St (upc K b (upc (K b) 8 v)) h := by
  refine ⟨S.1, fun e he => ?_⟩
  have hlt : ∀ e ∈ RT, e.1 < 44 ∨ 98 ≤ e.1 ∨ e.2.1 ≠ 8 := by decide +kernel
  have h1 := hlt e he
  by_cases e1 : e.1 = b
  · rw [e1, upc_eq, upc_ne _ _ (by omega), ← e1]; exact S.2 e he
  · rw [upc_ne _ _ e1]; exact S.2 e he
theorem TS.src {K : Nat → Nat → Option Nat} {h : List xSh} {b : Nat} (T : TS K h b) (v : Option Nat) : TS (upc K b (upc (K b) 8 v)) h b := by
  obtain ⟨h0, h1, h2, h3, h4, h5, h7⟩ := T
  refine ⟨h0, ?_, ?_, ?_, ?_, ?_, ?_⟩ <;> rw [upc_eq, upc_ne _ _ (by decide)]
  · exact h1
  · exact h2
  · exact h3
  · exact h4
  · exact h5
  · exact h7
/-- a clause that stands, its codes below m -/
def CCm (I : Nat → Nat → Int32) (b : Nat) (cd : Nat → Int32) (m i : Nat) (x : xCl) : Prop := I (b + 1) i = nI x.1 ∧ I (b + 2) i = nI x.2.1 ∧ (x.1 = 3 → I (b + 3) i = nI x.2.2.1) ∧ (x.1 < 2 → ∃ f0, f0 + x.2.2.2.length ≤ m ∧ I (b + 4) i = nI f0 ∧ I (b + 5) i = nI (f0 + x.2.2.2.length) ∧ ∀ j, j < x.2.2.2.length → cd (f0 + j) = ctN (x.2.2.2.getD j 0))
theorem CCm.st {I I2 : Nat → Nat → Int32} {b m m2 i k : Nat} {cd cd2 : Nat → Int32} {x : xCl} {o : Option (List Nat)} (h : CCm I b cd m i x) (hC : CLW I I2 b k) (hP : PC o m cd m2 cd2) (hi : i ≠ k) : CCm I2 b cd2 m2 i x := by
  obtain ⟨h1, h2, h3, h4⟩ := h
  have h5 := hP.2.1
  refine ⟨(hC.2 _ _ hi).trans h1, (hC.2 _ _ hi).trans h2, fun e => (hC.2 _ _ hi).trans (h3 e), fun e => ?_⟩
  obtain ⟨f0, g1, g2, g3, g4⟩ := h4 e
  exact ⟨f0, by omega, (hC.2 _ _ hi).trans g2, (hC.2 _ _ hi).trans g3, fun j hj => (hP.2.2.1 _ (by omega)).trans (g4 j hj)⟩
theorem CCm.nw {I2 : Nat → Nat → Int32} {b m m2 k : Nat} {cd cd2 : Nat → Int32} {x : xCl} (hP : PC (some x.2.2.2) m cd m2 cd2) (hD : CLD I2 b k m m2 x) : CCm I2 b cd2 m2 k x := by
  obtain ⟨h1, h2, h3, h4⟩ := hD
  obtain ⟨g1, g2⟩ := hP.2.2.2 _ rfl
  exact ⟨h1, h2, h3, fun e => ⟨m, by omega, (h4 e).1, by rw [← g1]; exact (h4 e).2, g2⟩⟩
theorem CCm.b0 {I : Nat → Nat → Int32} {b m i : Nat} {cd : Nat → Int32} {x : xCl} {v : Int32} (h : CCm I b cd m i x) : CCm (s1 I b 0 v) b cd m i x := by
  unfold CCm
  rw [s1_o (show b + 1 ≠ b by omega), s1_o (show b + 2 ≠ b by omega), s1_o (show b + 3 ≠ b by omega), s1_o (show b + 4 ≠ b by omega), s1_o (show b + 5 ≠ b by omega)]
  exact h
theorem CCm.cl {I : Nat → Nat → Int32} {b m i p : Nat} {s : Bool} {cd : Nat → Int32} {x : xCl} (h : CCm I b cd m i x) (hm : m ≤ 100) : CClg (PS I b m p s cd) b i x := by
  unfold CClg
  rw [PS_o (show b + 1 ≠ b by omega) (by omega), PS_o (show b + 2 ≠ b by omega) (by omega), PS_o (show b + 3 ≠ b by omega) (by omega), PS_o (show b + 4 ≠ b by omega) (by omega), PS_o (show b + 5 ≠ b by omega) (by omega), PS_cd]
  obtain ⟨h1, h2, h3, h4⟩ := h
  refine ⟨h1, h2, h3, fun e => ?_⟩
  obtain ⟨f0, g1, g2, g3, g4⟩ := h4 e
  exact ⟨f0, by omega, g2, g3, g4⟩
theorem PAR.cw {I I2 : Nat → Nat → Int32} {K : Nat → Nat → Option Nat} {h : List xSh} {b n k : Nat} {c : Nat → Nat} (P : PAR I K h b c n) (hC : CLW I I2 b k) : PAR I2 K h b c n := by
  obtain ⟨h1, h4, h5, h6, h7⟩ := P
  have hb := h1.2.1
  exact ⟨h1, by rw [hC.1 b (Or.inl (Nat.le_refl _))]; exact h4, h5, h6, fun p hp => by rw [hC.1 27 (Or.inl (by omega))]; exact h7 p hp⟩
theorem PAR.b0 {I : Nat → Nat → Int32} {K : Nat → Nat → Option Nat} {h : List xSh} {b n : Nat} {c : Nat → Nat} {v : Int32} (P : PAR I K h b c n) : PAR (s1 I b 0 v) K h b c n := by
  obtain ⟨h1, h4, h5, h6, h7⟩ := P
  have hb := h1.2.1
  exact ⟨h1, by rw [s1_k (by decide)]; exact h4, h5, h6, fun p hp => by rw [s1_o (by omega)]; exact h7 p hp⟩
/-- what was read put ahead -/
def app9 (R : List xCl) (r : Nat × Option (List xCl)) : Nat × Option (List xCl) := (r.1, r.2.map (fun L => R ++ L))
theorem app9_n {R : List xCl} {q : Nat} : app9 R (q, none) = (q, none) := rfl
def nxt9 (c : Nat → Nat) (n i j p : Nat) : Nat × Option (List xCl) := if i = 0 then pTw c n j p else if j = 0 then (p, none) else if c p = 59 then pTw c n j (p + 1) else (p, none)
theorem tw_no {c : Nat → Nat} {n j p : Nat} {s : Bool} (h : (rd s (pCl c n) p).2 = none) : rd s (pTw c n (j + 1)) p = ((rd s (pCl c n) p).1, none) := by
  cases s with
  | false => rfl
  | true =>
    rw [rd_t rfl] at h ⊢
    rw [rd_t rfl, show pTw c n (j + 1) p = bnd (pCl c n p) (fun q cl => if q = n then (q, some [cl]) else if j = 0 then (q, none) else if c q = 59 then bnd (pTw c n j (q + 1)) (fun q1 R => (q1, some (cl :: R))) else (q, none)) from rfl]
    cases e : pCl c n p with
    | mk q o =>
      rw [e] at h
      replace h : o = none := h
      subst h
      rfl
theorem tw_on {c : Nat → Nat} {n j p i : Nat} {s : Bool} {cl : xCl} {R : List xCl} (h : (rd s (pCl c n) p).2 = some cl) : s = true ∧ pCl c n p = ((rd s (pCl c n) p).1, some cl) ∧ ((rd s (pCl c n) p).1 = n → app9 R (rd s (pTw c n (j + 1)) p) = (n, some (R ++ [cl]))) ∧ ((rd s (pCl c n) p).1 ≠ n → app9 R (rd s (pTw c n (j + 1)) p) = app9 (R ++ [cl]) (nxt9 c n (i + 1) j (rd s (pCl c n) p).1)) := by
  cases s with
  | false => cases h
  | true =>
    rw [rd_t rfl] at h ⊢
    rw [rd_t rfl, show pTw c n (j + 1) p = bnd (pCl c n p) (fun q cl => if q = n then (q, some [cl]) else if j = 0 then (q, none) else if c q = 59 then bnd (pTw c n j (q + 1)) (fun q1 R => (q1, some (cl :: R))) else (q, none)) from rfl]
    cases e : pCl c n p with
    | mk q o =>
      rw [e] at h
      replace h : o = some cl := h
      subst h
      refine ⟨rfl, rfl, fun e2 => ?_, fun e2 => ?_⟩
      · show app9 R (if q = n then _ else _) = _
        rw [if_pos e2]
        show (q, some (R ++ [cl])) = _
        rw [show q = n from e2]
      · replace e2 : q ≠ n := e2
        show app9 R (if q = n then _ else if j = 0 then _ else if c q = 59 then _ else _) = app9 (R ++ [cl]) (if i + 1 = 0 then _ else if j = 0 then _ else if c q = 59 then _ else _)
        rw [if_neg e2, if_neg (Nat.succ_ne_zero i)]
        by_cases e3 : j = 0
        · rw [if_pos e3, if_pos e3]; rfl
        · rw [if_neg e3, if_neg e3]
          by_cases e4 : c q = 59
          · rw [if_pos e4, if_pos e4]
            cases pTw c n j (q + 1) with
            | mk q1 o1 =>
              cases o1 with
              | none => rfl
              | some L =>
                show (q1, some (R ++ cl :: L)) = (q1, some (R ++ [cl] ++ L))
                rw [List.append_assoc]
                rfl
          · rw [if_neg e4, if_neg e4]; rfl
/-- what parse leaves of the town's cells -/
def TWQ (I I3 : Nat → Nat → Int32) (b n : Nat) (T : Nat × Option (List xCl)) (x : Int32) : Prop := (∀ y, y < b ∨ b + 6 < y → I3 y = I y) ∧ ((∃ q R, T = (q, some R) ∧ x = -1 ∧ CTg I3 b R ∧ R.length ≤ 10) ∨ ∃ q, T = (q, none) ∧ x = nI q ∧ q ≤ n)
set_option maxRecDepth 100000 in
set_option maxHeartbeats 4000000 in
theorem C_parse {d : Nat} {I : Nat → Nat → Int32} {J : Nat → Nat → Int64} {K : Nat → Nat → Option Nat} {h : List xSh} (S : St K h) {b n : Nat} {c : Nat → Nat} (hb44 : 44 ≤ b) (hb98 : b < 98) (hTS : TS K h b) (hn100 : n ≤ 100) (hCT : CT c n) (htx : ∀ p, p < n → I 27 p = nI (c p)) : EvP (d + 17) 39 0 [(0, .ref (b)), (1, .ref (27)), (2, .int (nI (n)))] [] (I, J, K, h) (QI (fun x t => ∃ I3, t = (I3, J, (upc K b (upc (K b) 8 (some 27))), h) ∧ TWQ I I3 b n (pTw c n 10 0) x)) := by
  have hb : b = 29 ∨ 44 ≤ b := Or.inr hb44
  refine p_aload_n k39_0 rfl ?_
  refine p_aload_n k39_1 rfl ?_
  refine p_putRv k39_2 hTS.1.1 f_8_41_8 n_39_8_8 ?_
  replace S := S.src (b := b) ⟨hb44, hb98⟩ (some 27)
  replace hTS := hTS.src (some 27)
  refine p_aload_n k39_5 rfl ?_
  refine p_iload_n k39_6 rfl ?_
  refine p_aload_n k39_7 rfl ?_
  refine p_alen k39_8 (s_27 S) (Or.inl (Or.inr (Or.inr (Or.inl rfl)))) ?_
  refine p_min k39_9 (by decide) (Nat.le_of_ble_eq_true rfl) ?_
  refine p_toI (z := (nI (n))) (if_neg (by rw [i_lt, nI_t (by omega)]; show ¬ (100 : Int) < _; omega)) ?_
  refine p_putIv k39_12 hTS.1.1 g_8_44_8 n_39_8_9 ?_
  refine p_aload_n k39_15 rfl ?_
  refine p_iconst (v := nI 0) k39_16 (by decide) ?_
  refine p_putIv k39_17 hTS.1.1 g_8_47_8 n_39_8_10 ?_
  refine p_aload_n k39_20 rfl ?_
  refine p_iconst (v := bI true) k39_21 (by decide) ?_
  refine p_putZv k39_22 hTS.1.1 g_8_50_8 n_39_8_11 (bI_01 _) ?_
  refine p_aload_n k39_25 rfl ?_
  refine p_iconst (v := nI 0) k39_26 (by decide) ?_
  refine p_putIv k39_27 hTS.1.1 g_8_9_8 n_39_8_0 ?_
  refine p_aload_n k39_30 rfl ?_
  refine p_iconst (v := nI 0) k39_31 (by decide) ?_
  refine p_putIv k39_32 hTS.1.1 g_8_31_8 n_39_8_6 ?_
  refine p_iconst (v := nI 0) k39_35 (by decide) ?_
  refine p_istore_n (ls' := [(0, _), (1, _), (2, _), (3, _)]) k39_36 rfl ?_
  have hM := PS_in (I := I) (b := b) (n := n)
  obtain ⟨I0, hI0⟩ : ∃ X, X = s1 (s1 I b 9 (nI n)) b 0 (nI 0) := ⟨_, rfl⟩
  rw [← hI0] at hM
  have hM2 : EvP (d + 17) 39 37 [(0, .ref b), (1, .ref 27), (2, .int (nI n)), (3, .int (nI 0))] [] (PS I0 b 0 0 true (I (b + 6)), J, (upc K b (upc (K b) 8 (some 27))), h) (QI (fun x t => ∃ I3, t = (I3, J, (upc K b (upc (K b) 8 (some 27))), h) ∧ TWQ I I3 b n (pTw c n 10 0) x)) := by
    have L : ∀ (j : Nat) (i m p : Nat) (I2 : Nat → Nat → Int32) (cd : Nat → Int32) (R : List xCl), i + j = 10 → PAR I2 (upc K b (upc (K b) 8 (some 27))) h b c n ∧ (∀ y, y < b ∨ b + 6 < y → I2 y = I y) ∧ m ≤ p ∧ p ≤ n ∧ R.length = i ∧ (0 < i → I2 b 0 = nI i) ∧ (∀ z, z < i → CCm I2 b cd m z (R.getD z (0, 0, 0, []))) ∧ pTw c n 10 0 = app9 R (nxt9 c n i j p) → EvP (d + 17) 39 37 [(0, .ref (b)), (1, .ref (27)), (2, .int (nI (n))), (3, .int (nI (i)))] [] (PS I2 b m p true cd, J, (upc K b (upc (K b) 8 (some 27))), h) (QI (fun x t => ∃ I3, t = (I3, J, (upc K b (upc (K b) 8 (some 27))), h) ∧ TWQ I I3 b n (pTw c n 10 0) x)) := by
      intro j
      induction j with
      | zero =>
        intro i m p I2 cd R hk
        intro hI
        obtain ⟨hPR, hF, hmp0, hpn, hRl, hb0, hCs, hT⟩ := hI
        have h9 := hPR.2.1
        refine p_iload_n k39_37 rfl ?_
        refine p_bipush (v := nI 10) k39_38 (by decide) ?_
        refine p_icmp_geN (tgt := 96) k39_40 (by decide) (by omega) (by omega) (fun _ => ?_) (fun c => False.elim (by omega))
        refine p_aload_n k39_96 rfl ?_
        refine p_getIv k39_97 hTS.1.1 f_8_47_8 PS_f10 ?_
        refine p_ireturn k39_100 rt_39 ?_
        refine ⟨_, rfl, fun y hy => ?_, Or.inr ⟨p, ?_, rfl, hpn⟩⟩
        · rw [PS_o (by omega) (by omega)]; exact hF y hy
        · rw [hT]; unfold nxt9; rw [if_neg (show ¬ i = 0 by omega), if_pos rfl]; rfl
      | succ j ih =>
        intro i m p I2 cd R hk
        intro hI
        obtain ⟨hPR, hF, hmp0, hpn, hRl, hb0, hCs, hT⟩ := hI
        have h9 := hPR.2.1
        refine p_iload_n k39_37 rfl ?_
        refine p_bipush (v := nI 10) k39_38 (by decide) ?_
        refine p_icmp_geN (tgt := 96) k39_40 (by decide) (by omega) (by omega) (fun c => False.elim (by omega)) (fun _ => ?_)
        have ih0 := ih
        obtain ⟨j0, hj0⟩ : ∃ j0, j0 = j := ⟨j, rfl⟩
        rw [← hj0] at ih0 hT
        have hk0 : i + (j0 + 1) = 10 := by omega
        have C53 : ∀ (p7 : Nat) (s7 : Bool), (s7 = true → m ≤ p7 ∧ p7 ≤ n) ∧ p7 ≤ n → pTw c n 10 0 = app9 R (rd s7 (pTw c n (j0 + 1)) p7) → EvP (d + 17) 39 53 [(0, .ref (b)), (1, .ref (27)), (2, .int (nI (n))), (3, .int (nI (i)))] [] (PS I2 b m p7 s7 cd, J, (upc K b (upc (K b) 8 (some 27))), h) (QI (fun x t => ∃ I3, t = (I3, J, (upc K b (upc (K b) 8 (some 27))), h) ∧ TWQ I I3 b n (pTw c n 10 0) x)) := by
          intro p7 s7 hs7 hT7
          refine p_aload_n k39_53 rfl ?_
          refine p_iload_n k39_54 rfl ?_
          refine p_cV1v k39_55 hTS.1.1 c_8_84_8 rfl (Nat.le_of_ble_eq_true rfl) (C_parseClause S hPR (k := i) (by omega) (m := m) (p := p7) (s := s7) (cd := cd) (by omega) hs7.1) (fun m1 hq => ?_)
          obtain ⟨I4, m4, cd4, rfl, hC4, hP4, hD4⟩ := hq
          have P4 := hPR.cw hC4
          have h9 := P4.2.1
          have hle : (rd s7 (pCl c n) p7).1 ≤ n := by
            cases s7 with
            | false => exact hs7.2
            | true =>
              rw [rd_t rfl]
              exact pCl_le hCT (hs7.1 rfl).2 (show pCl c n p7 = ((pCl c n p7).1, (pCl c n p7).2) from rfl)
          refine p_aload_n k39_58 rfl ?_
          refine p_getIv k39_59 hTS.1.1 f_8_50_8 PS_f11 ?_
          refine p_if_neB (tgt := 70) k39_62 (by decide) (fun cq62 => ?_) (fun cq62 => ?_)
          · skip
            obtain ⟨cl, hcl⟩ : ∃ cl, (rd s7 (pCl c n) p7).2 = some cl := by
              cases ho : (rd s7 (pCl c n) p7).2 with
              | none => rw [ho] at cq62; cases cq62
              | some cl => exact ⟨cl, rfl⟩
            obtain ⟨w1, w2, w3, w4⟩ := tw_on (j := j0) (i := i) (R := R) hcl
            have hbd := pCl_bd hCT (hs7.1 w1).2 w2
            rw [hcl] at hP4
            replace hP4 : PC (some cl.2.2.2) m cd m4 cd4 := hP4
            have hm4 := (hP4.2.2.2 _ rfl).1
            have hD5 := hD4 cl hcl
            have hmp := (hs7.1 w1).1
            have hAll : ∀ z, z < i + 1 → CCm (s1 I4 b 0 (nI (i + 1))) b cd4 m4 z ((R ++ [cl]).getD z (0, 0, 0, [])) := by
              intro z hz
              refine CCm.b0 ?_
              by_cases e : z = i
              · subst e; rw [← hRl, getD_app2, hRl]; exact CCm.nw hP4 hD5
              · rw [getD_app1 (by omega)]; exact (hCs z (by omega)).st hC4 hP4 e
            refine p_aload_n k39_70 rfl ?_
            refine p_iload_n k39_71 rfl ?_
            refine p_iconst (v := nI 1) k39_72 (by decide) ?_
            refine p_iaddN k39_73 ?_
            refine p_putIv k39_74 hTS.1.1 g_8_9_8 n_39_8_0 ?_
            rw [PS_k (by decide)]
            have h9 := (P4.b0 (v := nI (i + 1))).2.1
            refine p_aload_n k39_77 rfl ?_
            refine p_getIv k39_78 hTS.1.1 f_8_47_8 PS_f10 ?_
            refine p_aload_n k39_81 rfl ?_
            refine p_getIv k39_82 hTS.1.1 f_8_44_8 ((PS_fo (by decide)).trans h9) ?_
            refine p_icmp_neN (tgt := 90) k39_85 (by decide) (by omega) (by omega) (fun cq85 => ?_) (fun cq85 => ?_)
            · skip
              refine p_iincN (ls1 := [(0, _), (1, _), (2, _), (3, _)]) k39_90 rfl rfl ?_
              refine p_goto (tgt := 37) k39_93 (by decide) ?_
              rw [cq62]
              refine ih0 (i + 1) m4 (rd s7 (pCl c n) p7).1 (s1 I4 b 0 (nI (i + 1))) cd4 (R ++ [cl]) (by omega) ⟨P4.b0, fun y hy => ?_, by omega, hle, by rw [List.length_append, hRl]; rfl, fun _ => s1_e, hAll, by rw [hT7]; exact w4 cq85⟩
              rw [s1_o (by omega), hC4.1 y (by omega)]
              exact hF y hy
            · skip
              refine p_iconst (v := (-1)) k39_88 (by decide) ?_
              refine p_ireturn k39_89 rt_39 ?_
              have c85e : (rd s7 (pCl c n) p7).1 = n := by first | exact cq85 | omega
              refine ⟨_, rfl, fun y hy => ?_, Or.inl ⟨n, R ++ [cl], by rw [hT7]; exact w3 c85e, rfl, ⟨?_, fun z hz => ?_⟩, ?_⟩⟩
              · rw [PS_o (by omega) (by omega), s1_o (by omega), hC4.1 y (by omega)]; exact hF y hy
              · rw [PS_fo (by decide), s1_e, List.length_append, hRl]; rfl
              · rw [List.length_append, hRl] at hz; exact (hAll z hz).cl hP4.1
              · rw [List.length_append, hRl]; show i + 1 ≤ 10; omega
          · skip
            refine p_aload_n k39_65 rfl ?_
            refine p_getIv k39_66 hTS.1.1 f_8_47_8 PS_f10 ?_
            refine p_ireturn k39_69 rt_39 ?_
            refine ⟨_, rfl, fun y hy => ?_, Or.inr ⟨(rd s7 (pCl c n) p7).1, ?_, rfl, hle⟩⟩
            · rw [PS_o (by omega) (by omega), hC4.1 y (by omega)]; exact hF y hy
            · rw [hT7, tw_no (by cases ho : (rd s7 (pCl c n) p7).2 with | none => rfl | some x => rw [ho] at cq62; cases cq62)]; rfl
        refine p_iload_n k39_43 rfl ?_
        refine p_if_leN (tgt := 53) k39_44 (by decide) (by omega) (fun cq44 => ?_) (fun cq44 => ?_)
        · skip
          refine C53 p true ⟨fun _ => ⟨hmp0, hpn⟩, hpn⟩ ?_
          rw [hT]
          unfold nxt9
          rw [if_pos cq44]
          rfl
        · skip
          refine p_aload_n k39_47 rfl ?_
          refine p_bipush (v := nI 59) k39_48 (by decide) ?_
          refine p_cV1v k39_50 hTS.1.1 c_8_80_8 rfl (Nat.le_of_ble_eq_true rfl) (C_expect S hPR (fun _ => hpn) (ch := 59) (by omega)) (fun m1 hq => ?_)
          obtain rfl := hq
          refine C53 (ex c 59 p true).1 (ex c 59 p true).2 ⟨fun e => ?_, ?_⟩ ?_
          · have := ex_le hCT (by decide) e; omega
          · unfold ex; by_cases e : c p = 59
            · have := hCT.lt (p := p) (by omega); rw [decide_eq_true e]; exact this
            · rw [decide_eq_false e]; exact hpn
          · rw [hT]; unfold nxt9 ex; rw [if_neg cq44, if_neg (Nat.succ_ne_zero j0)]; by_cases e : c p = 59
            · rw [if_pos e, decide_eq_true e]; rfl
            · rw [if_neg e, decide_eq_false e]; rfl
    refine L 10 0 0 0 I0 _ [] (by omega) ⟨⟨⟨hTS, hb, ?_⟩, ?_, hn100, hCT, fun p hp => ?_⟩, fun y hy => ?_, Nat.le_refl _, Nat.zero_le _, rfl, fun e => absurd e (Nat.not_lt_zero _), fun z hz => absurd hz (Nat.not_lt_zero _), ?_⟩
    · rw [upc_eq, upc_eq]
    · rw [hI0, s1_k (by decide), s1_e]
    · rw [hI0, s1_o (by omega), s1_o (by omega)]; exact htx p hp
    · rw [hI0, s1_o (by omega), s1_o (by omega)]
    · show _ = app9 [] (if 0 = 0 then pTw c n 10 0 else _)
      rw [if_pos rfl]
      unfold app9
      cases pTw c n 10 0 with
      | mk q o => cases o <;> rfl
  rw [← hM] at hM2
  exact hM2

