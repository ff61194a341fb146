/-! the class reads: a clause -/
theorem PS_a {I : Nat → Nat → Int32} {b m p x k : Nat} {s : Bool} {cd : Nat → Int32} {v : Int32} (h1 : x ≠ b) (h2 : x ≠ b + 6) : upc (PS I b m p s cd) x (upc (PS I b m p s cd x) k v) = PS (s1 I x k v) b m p s cd := by
  rw [PS_o h1 h2]
  unfold PS s1
  rw [upc_ne I _ (Ne.symm h1), upc_sw _ (Ne.symm h1), upc_sw _ (Ne.symm h2)]
theorem PS_w {I : Nat → Nat → Int32} {b m p x k : Nat} {s : Bool} {cd : Nat → Int32} {v : Int32} (h1 : x ≠ b) (h2 : x ≠ b + 6) : PS (s1 I x k v) b m p s cd x k = v := by
  rw [PS_o h1 h2]
  unfold s1
  rw [upc_eq, upc_eq]
theorem s1_o {I : Nat → Nat → Int32} {x y k : Nat} {v : Int32} (h : y ≠ x) : s1 I x k v y = I y := upc_ne _ _ h
theorem s1_k {I : Nat → Nat → Int32} {x k i : Nat} {v : Int32} (h : i ≠ k) : s1 I x k v x i = I x i := by
  unfold s1
  rw [upc_eq, upc_ne _ _ h]
theorem s1_e {I : Nat → Nat → Int32} {x k : Nat} {v : Int32} : s1 I x k v x k = v := by
  unfold s1
  rw [upc_eq, upc_eq]
theorem PAR.ar {I : Nat → Nat → Int32} {K : Nat → Nat → Option Nat} {h : List xSh} {b n j k : Nat} {c : Nat → Nat} (P : PAR I K h b c n) (hj : 1 ≤ j ∧ j ≤ 5) (v : Int32) : PAR (s1 I (b + j) k v) K h b c n := by
  obtain ⟨⟨h1, h2, h3⟩, h4, h5, h6, h7⟩ := P
  exact ⟨⟨h1, h2, h3⟩, by rw [s1_o (show b ≠ b + j by omega)]; exact h4, h5, h6, fun p hp => by rw [s1_o (show 27 ≠ b + j by omega)]; exact h7 p hp⟩
/-- several signs expected -/
def exL (c : Nat → Nat) : List Nat → Nat → Bool → Nat × Bool
  | [], p, s => (p, s)
  | x :: L, p, s => exL c L (ex c x p s).1 (ex c x p s).2
theorem exL_f {c : Nat → Nat} : ∀ {L : List Nat} {p : Nat}, exL c L p false = (p, false) := by
  intro L
  induction L with
  | nil => intro p; rfl
  | cons x L ih => intro p; exact ih
theorem exL_t {c : Nat → Nat} : ∀ {L : List Nat} {p : Nat}, exL c L p true = pLit c L p := by
  intro L
  induction L with
  | nil => intro p; rfl
  | cons x L ih =>
    intro p
    show exL c L (ex c x p true).1 (ex c x p true).2 = if c p = x then pLit c L (p + 1) else (p, false)
    unfold ex
    by_cases h : c p = x
    · rw [if_pos h, decide_eq_true h]; exact ih
    · rw [if_neg h, decide_eq_false h]; exact exL_f
def ltr4 (j : Nat) : List Nat := [(strN 3).getD (j * 4 + 1) 0, (strN 3).getD (j * 4 + 2) 0, (strN 3).getD (j * 4 + 3) 0]
theorem wd_at {j : Nat} (hj : j < 4) : wdN j = (strN 2).getD j 0 :: (ltr4 j ++ [32]) ∧ hdN ((strN 2).getD j 0) = j := by
  have H : ∀ j : Fin 4, wdN j.val = (strN 2).getD j.val 0 :: (ltr4 j.val ++ [32]) ∧ hdN ((strN 2).getD j.val 0) = j.val := by decide
  exact H ⟨j, hj⟩
theorem exL_app {c : Nat → Nat} {x : Nat} : ∀ {L : List Nat} {p : Nat} {s : Bool}, exL c (L ++ [x]) p s = ex c x (exL c L p s).1 (exL c L p s).2 := by
  intro L
  induction L with
  | nil => intro p s; rfl
  | cons y L ih => intro p s; exact ih
theorem pair_eta {α β : Type} {a x : α} {b y : β} (h : (a, b) = (x, y)) : a = x ∧ b = y := Prod.mk.inj h
theorem cl_A {c : Nat → Nat} {n p p1 p6 j : Nat} {s s1 s6 : Bool} (h1 : OFQ c 2 p s j p1 s1) (h6 : exL c (ltr4 j ++ [32]) p1 s1 = (p6, s6)) : rd s (pCl c n) p = rd s6 (pCl2 c n j) p6 := by
  obtain ⟨hj, ⟨e1, e2, e3, e4⟩ | ⟨e1, e2, e3, e4⟩⟩ := h1
  · subst e3
    rw [e2, exL_t] at h6
    have hw := wd_at hj
    rw [rd_t e1]
    unfold pCl
    rw [e4, hw.2, hw.1, show pLit c ((strN 2).getD j 0 :: (ltr4 j ++ [32])) p = pLit c (ltr4 j ++ [32]) (p + 1) from if_pos e4, h6]
    cases s6 <;> rfl
  · rw [e1, exL_f] at h6
    have h7 := pair_eta h6.symm
    rw [h7.1, h7.2, e2]
    cases hs : s with
    | false => rfl
    | true =>
      rw [rd_t rfl, rd_f rfl]
      have f := e4 hs
      have f0 : c p ≠ 115 := f 0 (by decide)
      have f1 : c p ≠ 103 := f 1 (by decide)
      have f2 : c p ≠ 109 := f 2 (by decide)
      have f3 : c p ≠ 119 := f 3 (by decide)
      unfold pCl hdN
      rw [if_neg f0, if_neg f1, if_neg f2, show pLit c (wdN 3) p = (p, false) from if_neg f3]
theorem cl_B {c : Nat → Nat} {n p6 p7 j v : Nat} {s6 s7 : Bool} (h7 : rd s6 (pNum c) p6 = (p7, if s7 = true then some v else none)) : rd s6 (pCl2 c n j) p6 = rd s7 (pCl3 c n j v) p7 := by
  cases hs : s6 with
  | false =>
    rw [rd_f hs] at h7
    have h8 := pair_eta h7.symm
    cases s7 with
    | false => rw [h8.1]; rfl
    | true => cases h8.2
  | true =>
    rw [rd_t hs] at h7
    rw [rd_t rfl]
    unfold pCl2
    rw [h7]
    cases s7 <;> rfl
theorem cl_C {c : Nat → Nat} {n p7 v : Nat} {s7 : Bool} : rd s7 (pCl3 c n 2 v) p7 = (p7, if s7 = true then some (2, v, 0, []) else none) := by cases s7 <;> rfl
theorem cl_x {c : Nat → Nat} {n p7 v j : Nat} {s7 : Bool} (hj : j ≠ 2) : rd s7 (pCl3 c n j v) p7 = rd (ex c 32 p7 s7).2 (fun q => if j < 2 then bnd (pE c (pF c n 4) n q) (fun q1 L => (q1, some (j, v, 0, L))) else bnd (pNum c q) (fun q1 w => (q1, some (3, v, w, [])))) (ex c 32 p7 s7).1 := by
  cases s7 with
  | false => rfl
  | true =>
    rw [rd_t rfl]
    unfold pCl3 ex
    rw [if_neg hj]
    by_cases h : c p7 = 32
    · rw [if_neg (fun z => z h), decide_eq_true h]; rfl
    · rw [if_pos h, decide_eq_false h]; rfl
theorem cl_D {c : Nat → Nat} {n p7 v j : Nat} {s7 : Bool} (hj : j < 2) : rd s7 (pCl3 c n j v) p7 = ((rd (ex c 32 p7 s7).2 (pE c (pF c n 4) n) (ex c 32 p7 s7).1).1, (rd (ex c 32 p7 s7).2 (pE c (pF c n 4) n) (ex c 32 p7 s7).1).2.map (fun L => (j, v, 0, L))) := by
  rw [cl_x (by omega)]
  generalize ex c 32 p7 s7 = e
  cases he : e.2 with
  | false => rfl
  | true =>
    rw [rd_t rfl, rd_t rfl]
    show (if j < 2 then _ else _) = _
    rw [if_pos hj]
    cases pE c (pF c n 4) n e.1 with
    | mk q o => cases o <;> rfl
theorem cl_E {c : Nat → Nat} {n p7 p9 v w : Nat} {s7 s9 : Bool} (h9 : rd (ex c 32 p7 s7).2 (pNum c) (ex c 32 p7 s7).1 = (p9, if s9 = true then some w else none)) : rd s7 (pCl3 c n 3 v) p7 = (p9, if s9 = true then some (3, v, w, []) else none) := by
  rw [cl_x (by decide)]
  generalize hee : ex c 32 p7 s7 = e at h9
  cases he : e.2 with
  | false =>
    rw [he] at h9
    have h8 := pair_eta h9.symm
    cases s9 with
    | false => rw [h8.1]; rfl
    | true => cases h8.2
  | true =>
    rw [he, rd_t rfl] at h9
    rw [rd_t rfl]
    show (if 3 < 2 then _ else _) = _
    rw [if_neg (by decide), h9]
    cases s9 <;> rfl
theorem ex_le {c : Nat → Nat} {n ch p : Nat} {s : Bool} (hCT : CT c n) (hch : ch < 200) (h : (ex c ch p s).2 = true) : s = true ∧ (ex c ch p s).1 = p + 1 ∧ p < n := by
  unfold ex at h ⊢
  by_cases e : (s && decide (c p = ch)) = true
  · rw [if_pos e]
    obtain ⟨g1, g2⟩ := nx_t e
    exact ⟨g1, rfl, hCT.lt (by omega)⟩
  · rw [if_neg e] at h; cases h
theorem ex_in {c : Nat → Nat} {n ch p : Nat} {s : Bool} (hCT : CT c n) (hch : ch < 200) : (ex c ch p s).2 = true → (ex c ch p s).1 ≤ n := fun h => by
  have := ex_le hCT hch h
  omega
theorem num_le {c : Nat → Nat} {n p q v : Nat} {s s2 : Bool} (hCT : CT c n) (h : rd s (pNum c) p = (q, if s2 = true then some v else none)) (hs : s2 = true) : s = true ∧ p < q ∧ q ≤ n := by
  rw [if_pos hs] at h
  cases s with
  | false => cases h
  | true =>
    have := pNum_some hCT (show pNum c p = (q, some v) from h)
    exact ⟨rfl, this.1, this.2.1⟩
/-- what a clause leaves but its own places -/
def CLW (I I2 : Nat → Nat → Int32) (b k : Nat) : Prop := (∀ x, x ≤ b ∨ b + 6 ≤ x → I2 x = I x) ∧ ∀ x i, i ≠ k → I2 x i = I x i
theorem CLW.refl (I : Nat → Nat → Int32) (b k : Nat) : CLW I I b k := ⟨fun _ _ => rfl, fun _ _ _ => rfl⟩
theorem CLW.st {I I2 : Nat → Nat → Int32} {b k j : Nat} (h : CLW I I2 b k) (hj : 1 ≤ j ∧ j ≤ 5) (v : Int32) : CLW I (s1 I2 (b + j) k v) b k := by
  refine ⟨fun x hx => (s1_o (by omega)).trans (h.1 x hx), fun x i hi => ?_⟩
  by_cases e : x = b + j
  · subst e; rw [s1_k hi]; exact h.2 _ i hi
  · rw [s1_o e]; exact h.2 x i hi
/-- a clause as it stands at place k -/
def CLD (I : Nat → Nat → Int32) (b k m m2 : Nat) (cl : xCl) : Prop := I (b + 1) k = nI cl.1 ∧ I (b + 2) k = nI cl.2.1 ∧ (cl.1 = 3 → I (b + 3) k = nI cl.2.2.1) ∧ (cl.1 < 2 → I (b + 4) k = nI m ∧ I (b + 5) k = nI m2)
def CQ (I : Nat → Nat → Int32) (J : Nat → Nat → Int64) (K : Nat → Nat → Option Nat) (h : List xSh) (b k : Nat) (r : Nat × Option xCl) (m : Nat) (cd : Nat → Int32) (t : xMem) : Prop := ∃ I2 m2 cd2, t = (PS I2 b m2 r.1 r.2.isSome cd2, J, K, h) ∧ CLW I I2 b k ∧ PC (r.2.map (fun x => x.2.2.2)) m cd m2 cd2 ∧ ∀ cl, r.2 = some cl → CLD I2 b k m m2 cl
theorem CQ.mk {I I2 : Nat → Nat → Int32} {J : Nat → Nat → Int64} {K : Nat → Nat → Option Nat} {h : List xSh} {b k q m m2 : Nat} {s : Bool} {r : Nat × Option xCl} {cd cd2 : Nat → Int32} (h1 : r.1 = q) (h2 : r.2.isSome = s) (h3 : CLW I I2 b k) (hP : PC (r.2.map (fun x => x.2.2.2)) m cd m2 cd2) (h4 : ∀ cl, r.2 = some cl → CLD I2 b k m m2 cl) : CQ I J K h b k r m cd (PS I2 b m2 q s cd2, J, K, h) := ⟨I2, m2, cd2, by rw [h1, h2], h3, hP, h4⟩
theorem lit_le {c : Nat → Nat} {n p p5 j : Nat} {s : Bool} (hCT : CT c n) (h : exL c (ltr4 j) p s = (p5, true)) : s = true ∧ p5 = p + 3 ∧ p5 ≤ n := by
  cases s with
  | false => rw [exL_f] at h; cases h
  | true =>
    rw [exL_t] at h
    unfold ltr4 pLit at h
    by_cases e1 : c p = (strN 3).getD (j * 4 + 1) 0
    · rw [if_pos e1] at h
      unfold pLit at h
      by_cases e2 : c (p + 1) = (strN 3).getD (j * 4 + 2) 0
      · rw [if_pos e2] at h
        unfold pLit at h
        by_cases e3 : c (p + 1 + 1) = (strN 3).getD (j * 4 + 3) 0
        · rw [if_pos e3] at h
          unfold pLit at h
          cases h
          have hb : (strN 3).getD (j * 4 + 3) 0 < 128 := by
            by_cases e4 : j * 4 + 3 < 16
            · exact (xs_nI (k := 3) (by decide) e4).2
            · rw [List.getD_eq_getElem?_getD, List.getElem?_eq_none (show (strN 3).length ≤ j * 4 + 3 by show 16 ≤ _; omega)]
              decide
          have := hCT.lt (p := p + 1 + 1) (by omega)
          exact ⟨rfl, rfl, by omega⟩
        · rw [if_neg e3] at h; cases h
      · rw [if_neg e2] at h; cases h
    · rw [if_neg e1] at h; cases h
theorem OFQ.li {c : Nat → Nat} {n k p p1 j : Nat} {s s1 : Bool} (hCT : CT c n) (h : OFQ c k p s j p1 s1) (e : s1 = true) : s = true ∧ p1 = p + 1 := by
  rcases h.2 with ⟨e1, e2, e3, e4⟩ | ⟨e1, _⟩
  · exact ⟨e1, e3⟩
  · rw [e1] at e; cases e
set_option maxRecDepth 100000 in
set_option maxHeartbeats 4000000 in
theorem C_parseClause {d : Nat} {I : Nat → Nat → Int32} {J : Nat → Nat → Int64} {K : Nat → Nat → Option Nat} {h : List xSh} (S : St K h) {b n : Nat} {c : Nat → Nat} (P : PAR I K h b c n) {m p : Nat} {s : Bool} {cd : Nat → Int32} {k : Nat} (hk10 : k < 10) (hm : m ≤ 100) (hl : s = true → m ≤ p ∧ p ≤ n) : EvP (d + 16) 40 0 [(0, .ref (b)), (1, .int (nI (k)))] [] (PS I b m p s cd, J, K, h) (QV (CQ I J K h b k (rd s (pCl c n) p) m cd)) := by
  have P0 := P
  obtain ⟨⟨hTS, hb29, hK8⟩, h9, hn100, hCT, htx⟩ := P
  refine p_aload_n k40_0 rfl ?_
  refine p_getRv k40_1 hTS.1.1 f_8_15_8 hTS.2.1 ?_
  refine p_iload_n k40_4 rfl ?_
  refine p_aload_n k40_5 rfl ?_
  refine p_ldcs (k := 2) k40_6 (by decide) ?_
  refine p_cV1i k40_8 hTS.1.1 c_8_90_8 rfl (Nat.le_of_ble_eq_true rfl) (C_oneOf S P0 (fun e => (hl e).2) (k := 2) (by decide)) (fun x1 m1 hq => ?_)
  obtain ⟨j1, p1, x1, rfl, rfl, h1⟩ := hq
  refine p_iastN k40_11 hTS.1.2.1 (by omega) (by decide) ?_
  rw [PS_a (by omega) (by omega)]
  have hj1 : j1 < 4 := h1.1
  have hn1 : x1 = true → p1 ≤ n := OFQ.le (by decide) hCT h1
  obtain ⟨I1, hI1⟩ : ∃ X, X = (s1 I (b + 1) k (nI j1)) := ⟨_, rfl⟩
  have P1 : PAR I1 K h b c n := by rw [hI1]; exact (P0.ar (j := 1) (by omega) (nI j1))
  have hw : I1 (b + 1) k = nI j1 := by rw [hI1]; exact s1_e
  have hC1 : CLW I I1 b k := by rw [hI1]; exact (CLW.refl I b k).st (j := 1) (by omega) _
  rw [← hI1]
  refine p_iconst (v := nI 1) k40_12 (by decide) ?_
  refine p_istore_n (ls' := [(0, _), (1, _), (2, _)]) k40_13 rfl ?_
  have C51 : ∀ (i5 p5 : Nat) (s5 : Bool), exL c (ltr4 j1) p1 x1 = (p5, s5) → EvP (d + 16) 40 51 [(0, .ref (b)), (1, .int (nI (k))), (2, .int (nI (i5)))] [] (PS I1 b m p5 s5 cd, J, K, h) (QV (CQ I J K h b k (rd s (pCl c n) p) m cd)) := by
    intro i5 p5 s5 h5
    have h5n : s5 = true → p5 ≤ n := fun e => by
      rw [e] at h5
      exact (lit_le hCT h5).2.2
    have h5l : s5 = true → m ≤ p5 ∧ 1 ≤ p5 := fun e => by
      rw [e] at h5
      have h8 := lit_le hCT h5
      have h9 := (OFQ.li hCT h1 h8.1)
      have := hl h9.1
      omega
    refine p_aload_n k40_51 rfl ?_
    refine p_bipush (v := nI 32) k40_52 (by decide) ?_
    refine p_cV1v k40_54 hTS.1.1 c_8_80_8 rfl (Nat.le_of_ble_eq_true rfl) (C_expect S P1 (fun e => h5n e) (ch := 32) (by omega)) (fun m1 hq => ?_)
    obtain rfl := hq
    obtain ⟨p6, hp6⟩ : ∃ X, X = (ex c 32 p5 s5).1 := ⟨_, rfl⟩
    obtain ⟨s6, hs6⟩ : ∃ X, X = (ex c 32 p5 s5).2 := ⟨_, rfl⟩
    have hin6 : s6 = true → p6 ≤ n := fun e => by rw [hp6]; exact ex_in hCT (by decide) (by rw [← hs6]; exact e)
    have h6 : exL c (ltr4 j1 ++ [32]) p1 x1 = (p6, s6) := by rw [exL_app, h5, hp6, hs6]
    have hle6 : s6 = true → s5 = true ∧ p6 = p5 + 1 := fun e => by have := ex_le hCT (by decide) (show (ex c 32 p5 s5).2 = true by rw [← hs6]; exact e); exact ⟨this.1, hp6.trans this.2.1⟩
    rw [← hp6, ← hs6]
    refine p_aload_n k40_57 rfl ?_
    refine p_getRv k40_58 hTS.1.1 f_8_19_8 hTS.2.2.1 ?_
    refine p_iload_n k40_61 rfl ?_
    refine p_aload_n k40_62 rfl ?_
    refine p_cV0i k40_63 hTS.1.1 c_8_100_8 (Nat.le_of_ble_eq_true rfl) (C_parseNumber S P1 hin6) (fun x1 m1 hq => ?_)
    obtain ⟨v, p7, s7, rfl, hv, rfl, h7⟩ := hq
    have hle7 := fun e => num_le hCT h7 (show s7 = true from e)
    refine p_iastN k40_66 hTS.1.2.2.1 (by omega) (by decide) ?_
    rw [PS_a (by omega) (by omega)]
    refine p_aload_n k40_67 rfl ?_
    refine p_getRv k40_68 hTS.1.1 f_8_25_8 hTS.2.2.2.2.1 ?_
    refine p_iload_n k40_71 rfl ?_
    refine p_aload_n k40_72 rfl ?_
    refine p_getIv k40_73 hTS.1.1 f_8_31_8 PS_f6 ?_
    refine p_iastN k40_76 hTS.1.2.2.2.2.1 (by omega) (by decide) ?_
    rw [PS_a (by omega) (by omega)]
    refine p_aload_n k40_77 rfl ?_
    refine p_getRv k40_78 hTS.1.1 f_8_15_8 hTS.2.1 ?_
    refine p_iload_n k40_81 rfl ?_
    refine p_ialdN k40_82 hTS.1.2.1 (by omega) (by decide) ((congrFun (PS_o (by omega) (by omega)) _).trans ((congrFun (s1_o (by omega)) _).trans ((congrFun (s1_o (by omega)) _).trans hw))) ?_
    refine p_if_eqN (tgt := 96) k40_83 (by decide) (by omega) (fun cq83 => ?_) (fun cq83 => ?_)
    · skip
      refine p_aload_n k40_96 rfl ?_
      refine p_bipush (v := nI 32) k40_97 (by decide) ?_
      refine p_cV1v k40_99 hTS.1.1 c_8_80_8 rfl (Nat.le_of_ble_eq_true rfl) (C_expect S ((P1.ar (j := 2) (by omega) (nI v)).ar (j := 4) (by omega) (nI m)) (fun e => (hle7 e).2.2) (ch := 32) (by omega)) (fun m1 hq => ?_)
      obtain rfl := hq
      obtain ⟨p8, hp8⟩ : ∃ X, X = (ex c 32 p7 s7).1 := ⟨_, rfl⟩
      obtain ⟨s8, hs8⟩ : ∃ X, X = (ex c 32 p7 s7).2 := ⟨_, rfl⟩
      have hin8 : s8 = true → p8 ≤ n := fun e => by rw [hp8]; exact ex_in hCT (by decide) (by rw [← hs8]; exact e)
      have hle8 : s8 = true → s7 = true ∧ p8 = p7 + 1 := fun e => by have := ex_le hCT (by decide) (show (ex c 32 p7 s7).2 = true by rw [← hs8]; exact e); exact ⟨this.1, hp8.trans this.2.1⟩
      rw [← hp8, ← hs8]
      refine p_aload_n k40_102 rfl ?_
      refine p_iconst (v := nI 0) k40_103 (by decide) ?_
      refine p_cV1v k40_104 hTS.1.1 c_8_103_8 rfl (Nat.le_of_ble_eq_true rfl) (C_eith4 S ((P1.ar (j := 2) (by omega) (nI v)).ar (j := 4) (by omega) (nI m)) (m := m) (p := p8) (s := s8) (cd := cd) hm (fun e => by have := hle8 e; have h9 := hle7 this.1; have ha := hle6 h9.1; have hb := h5l ha.1; exact ⟨by omega, by omega, hin8 e⟩)) (fun m1 hq => ?_)
      obtain ⟨m9, cd9, rfl, hp9⟩ := hq
      refine p_goto (tgt := 136) k40_107 (by decide) ?_
      refine p_aload_n k40_136 rfl ?_
      refine p_getRv k40_137 hTS.1.1 f_8_28_8 hTS.2.2.2.2.2.1 ?_
      refine p_iload_n k40_140 rfl ?_
      refine p_aload_n k40_141 rfl ?_
      refine p_getIv k40_142 hTS.1.1 f_8_31_8 PS_f6 ?_
      refine p_iastN k40_145 hTS.1.2.2.2.2.2.1 (by omega) (by decide) ?_
      rw [PS_a (by omega) (by omega)]
      refine p_return k40_146 rt_40 ?_
      have hA := cl_A (n := n) h1 h6
      have hB := cl_B (n := n) (j := j1) h7
      rw [hA, hB]
      rw [cl_D (show j1 < 2 by omega)]
      rw [← hp8, ← hs8]
      refine CQ.mk rfl Option.isSome_map ?_ (hp9.to ?_) (fun cl hcl => ?_)
      · exact ((hC1.st (j := 2) (by omega) _).st (j := 4) (by omega) _).st (j := 5) (by omega) _
      · cases (rd s8 (pE c (pF c n 4) n) p8).2 <;> rfl
      · obtain ⟨L, hL, hcl2⟩ : ∃ L, (rd s8 (pE c (pF c n 4) n) p8).2 = some L ∧ cl = (j1, v, 0, L) := by
          cases ho : (rd s8 (pE c (pF c n 4) n) p8).2 with
          | none => rw [ho] at hcl; cases hcl
          | some L => rw [ho] at hcl; exact ⟨L, rfl, (Option.some.inj hcl).symm⟩
        subst hcl2
        refine ⟨?_, ?_, fun e => ?_, fun _ => ⟨?_, ?_⟩⟩
        · rw [s1_o (by omega), s1_o (by omega), s1_o (by omega)]; exact hw
        · rw [s1_o (by omega), s1_o (by omega), s1_e]
        · exact absurd (show j1 = 3 from e) (by omega)
        · rw [s1_o (by omega), s1_e]
        · rw [s1_e]
    · skip
      refine p_aload_n k40_86 rfl ?_
      refine p_getRv k40_87 hTS.1.1 f_8_15_8 hTS.2.1 ?_
      refine p_iload_n k40_90 rfl ?_
      refine p_ialdN k40_91 hTS.1.2.1 (by omega) (by decide) ((congrFun (PS_o (by omega) (by omega)) _).trans ((congrFun (s1_o (by omega)) _).trans ((congrFun (s1_o (by omega)) _).trans hw))) ?_
      refine p_iconst (v := nI 1) k40_92 (by decide) ?_
      refine p_icmp_neN (tgt := 110) k40_93 (by decide) (by omega) (by omega) (fun cq93 => ?_) (fun cq93 => ?_)
      · skip
        refine p_aload_n k40_110 rfl ?_
        refine p_getRv k40_111 hTS.1.1 f_8_15_8 hTS.2.1 ?_
        refine p_iload_n k40_114 rfl ?_
        refine p_ialdN k40_115 hTS.1.2.1 (by omega) (by decide) ((congrFun (PS_o (by omega) (by omega)) _).trans ((congrFun (s1_o (by omega)) _).trans ((congrFun (s1_o (by omega)) _).trans hw))) ?_
        refine p_iconst (v := nI 3) k40_116 (by decide) ?_
        refine p_icmp_neN (tgt := 136) k40_117 (by decide) (by omega) (by omega) (fun cq117 => ?_) (fun cq117 => ?_)
        · skip
          refine p_aload_n k40_136 rfl ?_
          refine p_getRv k40_137 hTS.1.1 f_8_28_8 hTS.2.2.2.2.2.1 ?_
          refine p_iload_n k40_140 rfl ?_
          refine p_aload_n k40_141 rfl ?_
          refine p_getIv k40_142 hTS.1.1 f_8_31_8 PS_f6 ?_
          refine p_iastN k40_145 hTS.1.2.2.2.2.2.1 (by omega) (by decide) ?_
          rw [PS_a (by omega) (by omega)]
          refine p_return k40_146 rt_40 ?_
          have hA := cl_A (n := n) h1 h6
          have hB := cl_B (n := n) (j := j1) h7
          rw [hA, hB]
          have hj2 : j1 = 2 := by omega
          subst hj2
          rw [cl_C]
          refine CQ.mk rfl (by cases s7 <;> rfl) ?_ ?_ (fun cl hcl => ?_)
          · exact ((hC1.st (j := 2) (by omega) _).st (j := 4) (by omega) _).st (j := 5) (by omega) _
          · cases s7
            · exact (PC.refl hm).no
            · exact PC.refl hm
          · cases s7 with
            | false => cases hcl
            | true =>
              cases hcl
              refine ⟨?_, ?_, fun e => absurd (show 2 = 3 from e) (by decide), fun e => absurd (show 2 < 2 from e) (by decide)⟩
              · rw [s1_o (by omega), s1_o (by omega), s1_o (by omega)]; exact hw
              · rw [s1_o (by omega), s1_o (by omega), s1_e]
        · skip
          refine p_aload_n k40_120 rfl ?_
          refine p_bipush (v := nI 32) k40_121 (by decide) ?_
          refine p_cV1v k40_123 hTS.1.1 c_8_80_8 rfl (Nat.le_of_ble_eq_true rfl) (C_expect S ((P1.ar (j := 2) (by omega) (nI v)).ar (j := 4) (by omega) (nI m)) (fun e => (hle7 e).2.2) (ch := 32) (by omega)) (fun m1 hq => ?_)
          obtain rfl := hq
          obtain ⟨p8, hp8⟩ : ∃ X, X = (ex c 32 p7 s7).1 := ⟨_, rfl⟩
          obtain ⟨s8, hs8⟩ : ∃ X, X = (ex c 32 p7 s7).2 := ⟨_, rfl⟩
          have hin8 : s8 = true → p8 ≤ n := fun e => by rw [hp8]; exact ex_in hCT (by decide) (by rw [← hs8]; exact e)
          have hle8 : s8 = true → s7 = true ∧ p8 = p7 + 1 := fun e => by have := ex_le hCT (by decide) (show (ex c 32 p7 s7).2 = true by rw [← hs8]; exact e); exact ⟨this.1, hp8.trans this.2.1⟩
          rw [← hp8, ← hs8]
          refine p_aload_n k40_126 rfl ?_
          refine p_getRv k40_127 hTS.1.1 f_8_22_8 hTS.2.2.2.1 ?_
          refine p_iload_n k40_130 rfl ?_
          refine p_aload_n k40_131 rfl ?_
          refine p_cV0i k40_132 hTS.1.1 c_8_100_8 (Nat.le_of_ble_eq_true rfl) (C_parseNumber S ((P1.ar (j := 2) (by omega) (nI v)).ar (j := 4) (by omega) (nI m)) hin8) (fun x1 m1 hq => ?_)
          obtain ⟨w9, p9, s9, rfl, hw9, rfl, h9n⟩ := hq
          refine p_iastN k40_135 hTS.1.2.2.2.1 (by omega) (by decide) ?_
          rw [PS_a (by omega) (by omega)]
          refine p_aload_n k40_136 rfl ?_
          refine p_getRv k40_137 hTS.1.1 f_8_28_8 hTS.2.2.2.2.2.1 ?_
          refine p_iload_n k40_140 rfl ?_
          refine p_aload_n k40_141 rfl ?_
          refine p_getIv k40_142 hTS.1.1 f_8_31_8 PS_f6 ?_
          refine p_iastN k40_145 hTS.1.2.2.2.2.2.1 (by omega) (by decide) ?_
          rw [PS_a (by omega) (by omega)]
          refine p_return k40_146 rt_40 ?_
          have hA := cl_A (n := n) h1 h6
          have hB := cl_B (n := n) (j := j1) h7
          rw [hA, hB]
          have hj3 : j1 = 3 := by omega
          subst hj3
          rw [cl_E (s9 := s9) (w := w9) (by rw [← hp8, ← hs8]; exact h9n)]
          refine CQ.mk rfl (by cases s9 <;> rfl) ?_ ?_ (fun cl hcl => ?_)
          · exact (((hC1.st (j := 2) (by omega) _).st (j := 4) (by omega) _).st (j := 3) (by omega) _).st (j := 5) (by omega) _
          · cases s9
            · exact (PC.refl hm).no
            · exact PC.refl hm
          · cases s9 with
            | false => cases hcl
            | true =>
              cases hcl
              refine ⟨?_, ?_, fun e => ?_, fun e => absurd (show 3 < 2 from e) (by decide)⟩
              · rw [s1_o (by omega), s1_o (by omega), s1_o (by omega), s1_o (by omega)]; exact hw
              · rw [s1_o (by omega), s1_o (by omega), s1_o (by omega), s1_e]
              · rw [s1_o (by omega), s1_e]
      · skip
        refine p_aload_n k40_96 rfl ?_
        refine p_bipush (v := nI 32) k40_97 (by decide) ?_
        refine p_cV1v k40_99 hTS.1.1 c_8_80_8 rfl (Nat.le_of_ble_eq_true rfl) (C_expect S ((P1.ar (j := 2) (by omega) (nI v)).ar (j := 4) (by omega) (nI m)) (fun e => (hle7 e).2.2) (ch := 32) (by omega)) (fun m1 hq => ?_)
        obtain rfl := hq
        obtain ⟨p8, hp8⟩ : ∃ X, X = (ex c 32 p7 s7).1 := ⟨_, rfl⟩
        obtain ⟨s8, hs8⟩ : ∃ X, X = (ex c 32 p7 s7).2 := ⟨_, rfl⟩
        have hin8 : s8 = true → p8 ≤ n := fun e => by rw [hp8]; exact ex_in hCT (by decide) (by rw [← hs8]; exact e)
        have hle8 : s8 = true → s7 = true ∧ p8 = p7 + 1 := fun e => by have := ex_le hCT (by decide) (show (ex c 32 p7 s7).2 = true by rw [← hs8]; exact e); exact ⟨this.1, hp8.trans this.2.1⟩
        rw [← hp8, ← hs8]
        refine p_aload_n k40_102 rfl ?_
        refine p_iconst (v := nI 0) k40_103 (by decide) ?_
        refine p_cV1v k40_104 hTS.1.1 c_8_103_8 rfl (Nat.le_of_ble_eq_true rfl) (C_eith4 S ((P1.ar (j := 2) (by omega) (nI v)).ar (j := 4) (by omega) (nI m)) (m := m) (p := p8) (s := s8) (cd := cd) hm (fun e => by have := hle8 e; have h9 := hle7 this.1; have ha := hle6 h9.1; have hb := h5l ha.1; exact ⟨by omega, by omega, hin8 e⟩)) (fun m1 hq => ?_)
        obtain ⟨m9, cd9, rfl, hp9⟩ := hq
        refine p_goto (tgt := 136) k40_107 (by decide) ?_
        refine p_aload_n k40_136 rfl ?_
        refine p_getRv k40_137 hTS.1.1 f_8_28_8 hTS.2.2.2.2.2.1 ?_
        refine p_iload_n k40_140 rfl ?_
        refine p_aload_n k40_141 rfl ?_
        refine p_getIv k40_142 hTS.1.1 f_8_31_8 PS_f6 ?_
        refine p_iastN k40_145 hTS.1.2.2.2.2.2.1 (by omega) (by decide) ?_
        rw [PS_a (by omega) (by omega)]
        refine p_return k40_146 rt_40 ?_
        have hA := cl_A (n := n) h1 h6
        have hB := cl_B (n := n) (j := j1) h7
        rw [hA, hB]
        rw [cl_D (show j1 < 2 by omega)]
        rw [← hp8, ← hs8]
        refine CQ.mk rfl Option.isSome_map ?_ (hp9.to ?_) (fun cl hcl => ?_)
        · exact ((hC1.st (j := 2) (by omega) _).st (j := 4) (by omega) _).st (j := 5) (by omega) _
        · cases (rd s8 (pE c (pF c n 4) n) p8).2 <;> rfl
        · obtain ⟨L, hL, hcl2⟩ : ∃ L, (rd s8 (pE c (pF c n 4) n) p8).2 = some L ∧ cl = (j1, v, 0, L) := by
            cases ho : (rd s8 (pE c (pF c n 4) n) p8).2 with
            | none => rw [ho] at hcl; cases hcl
            | some L => rw [ho] at hcl; exact ⟨L, rfl, (Option.some.inj hcl).symm⟩
          subst hcl2
          refine ⟨?_, ?_, fun e => ?_, fun _ => ⟨?_, ?_⟩⟩
          · rw [s1_o (by omega), s1_o (by omega), s1_o (by omega)]; exact hw
          · rw [s1_o (by omega), s1_o (by omega), s1_e]
          · exact absurd (show j1 = 3 from e) (by omega)
          · rw [s1_o (by omega), s1_e]
          · rw [s1_e]
  refine p_iload_n k40_14 rfl ?_
  refine p_iconst (v := nI 4) k40_15 (by decide) ?_
  refine p_icmp_geN (tgt := 51) k40_16 (by decide) (by omega) (by omega) (fun c => False.elim (by omega)) (fun _ => ?_)
  refine p_aload_n k40_19 rfl ?_
  refine p_getIv k40_20 hTS.1.1 f_8_50_8 PS_f11 ?_
  refine p_if_eqB (tgt := 51) k40_23 (by decide) (fun cq23 => ?_) (fun cq23 => ?_)
  · skip
    exact C51 1 p1 x1 (by rw [cq23]; exact exL_f)
  · skip
    refine p_aload_n k40_26 rfl ?_
    refine p_ldcs (k := 3) k40_27 (by decide) ?_
    refine p_aload_n k40_29 rfl ?_
    refine p_getRv k40_30 hTS.1.1 f_8_15_8 hTS.2.1 ?_
    refine p_iload_n k40_33 rfl ?_
    refine p_ialdN k40_34 hTS.1.2.1 (by omega) (by decide) ((congrFun (PS_o (by omega) (by omega)) _).trans hw) ?_
    refine p_iconst (v := nI 4) k40_35 (by decide) ?_
    refine p_imulN k40_36 ?_
    refine p_iload_n k40_37 rfl ?_
    refine p_iaddN k40_38 ?_
    refine p_cT1i k40_39 (by omega) c_8_96 rfl (Nat.le_of_ble_eq_true rfl) (C_charAt S (k := 3) (j := j1 * 4 + 1) (by decide) (by rw [(xs_ln (k := 3) (by decide)).1]; show j1 * 4 + 1 < 16; omega)) (fun x1 m1 hq => ?_)
    obtain ⟨rfl, rfl⟩ := hq
    obtain ⟨hxa, hxb⟩ := xs_nI (k := 3) (j := j1 * 4 + 1) (by decide) (by show j1 * 4 + 1 < 16; omega)
    rw [hxa]
    refine p_cV1v k40_42 hTS.1.1 c_8_80_8 rfl (Nat.le_of_ble_eq_true rfl) (C_expect S P1 hn1 (ch := ((strN 3).getD (j1 * 4 + 1) 0)) hxb) (fun m1 hq => ?_)
    obtain rfl := hq
    obtain ⟨p2, hp2⟩ : ∃ X, X = (ex c ((strN 3).getD (j1 * 4 + 1) 0) p1 x1).1 := ⟨_, rfl⟩
    obtain ⟨s2, hs2⟩ : ∃ X, X = (ex c ((strN 3).getD (j1 * 4 + 1) 0) p1 x1).2 := ⟨_, rfl⟩
    rw [← hp2, ← hs2]
    have hn2 : s2 = true → p2 ≤ n := fun e => by rw [hp2]; exact ex_in hCT (by omega) (by rw [← hs2]; exact e)
    have h12 : exL c [((strN 3).getD (j1 * 4 + 1) 0), ((strN 3).getD (j1 * 4 + 2) 0), ((strN 3).getD (j1 * 4 + 3) 0)] p1 x1 = exL c [((strN 3).getD (j1 * 4 + 2) 0), ((strN 3).getD (j1 * 4 + 3) 0)] p2 s2 := by show exL c _ (ex c _ _ _).1 (ex c _ _ _).2 = _; rw [← hp2, ← hs2]
    refine p_iincN (ls1 := [(0, _), (1, _), (2, _)]) k40_45 rfl rfl ?_
    refine p_goto (tgt := 14) k40_48 (by decide) ?_
    refine p_iload_n k40_14 rfl ?_
    refine p_iconst (v := nI 4) k40_15 (by decide) ?_
    refine p_icmp_geN (tgt := 51) k40_16 (by decide) (by omega) (by omega) (fun c => False.elim (by omega)) (fun _ => ?_)
    refine p_aload_n k40_19 rfl ?_
    refine p_getIv k40_20 hTS.1.1 f_8_50_8 PS_f11 ?_
    refine p_if_eqB (tgt := 51) k40_23 (by decide) (fun cq23 => ?_) (fun cq23 => ?_)
    · skip
      exact C51 2 p2 s2 (h12.trans (by rw [cq23]; exact exL_f))
    · skip
      refine p_aload_n k40_26 rfl ?_
      refine p_ldcs (k := 3) k40_27 (by decide) ?_
      refine p_aload_n k40_29 rfl ?_
      refine p_getRv k40_30 hTS.1.1 f_8_15_8 hTS.2.1 ?_
      refine p_iload_n k40_33 rfl ?_
      refine p_ialdN k40_34 hTS.1.2.1 (by omega) (by decide) ((congrFun (PS_o (by omega) (by omega)) _).trans hw) ?_
      refine p_iconst (v := nI 4) k40_35 (by decide) ?_
      refine p_imulN k40_36 ?_
      refine p_iload_n k40_37 rfl ?_
      refine p_iaddN k40_38 ?_
      refine p_cT1i k40_39 (by omega) c_8_96 rfl (Nat.le_of_ble_eq_true rfl) (C_charAt S (k := 3) (j := j1 * 4 + 2) (by decide) (by rw [(xs_ln (k := 3) (by decide)).1]; show j1 * 4 + 2 < 16; omega)) (fun x1 m1 hq => ?_)
      obtain ⟨rfl, rfl⟩ := hq
      obtain ⟨hxa, hxb⟩ := xs_nI (k := 3) (j := j1 * 4 + 2) (by decide) (by show j1 * 4 + 2 < 16; omega)
      rw [hxa]
      refine p_cV1v k40_42 hTS.1.1 c_8_80_8 rfl (Nat.le_of_ble_eq_true rfl) (C_expect S P1 hn2 (ch := ((strN 3).getD (j1 * 4 + 2) 0)) hxb) (fun m1 hq => ?_)
      obtain rfl := hq
      obtain ⟨p3, hp3⟩ : ∃ X, X = (ex c ((strN 3).getD (j1 * 4 + 2) 0) p2 s2).1 := ⟨_, rfl⟩
      obtain ⟨s3, hs3⟩ : ∃ X, X = (ex c ((strN 3).getD (j1 * 4 + 2) 0) p2 s2).2 := ⟨_, rfl⟩
      rw [← hp3, ← hs3]
      have hn3 : s3 = true → p3 ≤ n := fun e => by rw [hp3]; exact ex_in hCT (by omega) (by rw [← hs3]; exact e)
      have h13 : exL c [((strN 3).getD (j1 * 4 + 2) 0), ((strN 3).getD (j1 * 4 + 3) 0)] p2 s2 = exL c [((strN 3).getD (j1 * 4 + 3) 0)] p3 s3 := by show exL c _ (ex c _ _ _).1 (ex c _ _ _).2 = _; rw [← hp3, ← hs3]
      refine p_iincN (ls1 := [(0, _), (1, _), (2, _)]) k40_45 rfl rfl ?_
      refine p_goto (tgt := 14) k40_48 (by decide) ?_
      refine p_iload_n k40_14 rfl ?_
      refine p_iconst (v := nI 4) k40_15 (by decide) ?_
      refine p_icmp_geN (tgt := 51) k40_16 (by decide) (by omega) (by omega) (fun c => False.elim (by omega)) (fun _ => ?_)
      refine p_aload_n k40_19 rfl ?_
      refine p_getIv k40_20 hTS.1.1 f_8_50_8 PS_f11 ?_
      refine p_if_eqB (tgt := 51) k40_23 (by decide) (fun cq23 => ?_) (fun cq23 => ?_)
      · skip
        exact C51 3 p3 s3 (h12.trans (h13.trans (by rw [cq23]; exact exL_f)))
      · skip
        refine p_aload_n k40_26 rfl ?_
        refine p_ldcs (k := 3) k40_27 (by decide) ?_
        refine p_aload_n k40_29 rfl ?_
        refine p_getRv k40_30 hTS.1.1 f_8_15_8 hTS.2.1 ?_
        refine p_iload_n k40_33 rfl ?_
        refine p_ialdN k40_34 hTS.1.2.1 (by omega) (by decide) ((congrFun (PS_o (by omega) (by omega)) _).trans hw) ?_
        refine p_iconst (v := nI 4) k40_35 (by decide) ?_
        refine p_imulN k40_36 ?_
        refine p_iload_n k40_37 rfl ?_
        refine p_iaddN k40_38 ?_
        refine p_cT1i k40_39 (by omega) c_8_96 rfl (Nat.le_of_ble_eq_true rfl) (C_charAt S (k := 3) (j := j1 * 4 + 3) (by decide) (by rw [(xs_ln (k := 3) (by decide)).1]; show j1 * 4 + 3 < 16; omega)) (fun x1 m1 hq => ?_)
        obtain ⟨rfl, rfl⟩ := hq
        obtain ⟨hxa, hxb⟩ := xs_nI (k := 3) (j := j1 * 4 + 3) (by decide) (by show j1 * 4 + 3 < 16; omega)
        rw [hxa]
        refine p_cV1v k40_42 hTS.1.1 c_8_80_8 rfl (Nat.le_of_ble_eq_true rfl) (C_expect S P1 hn3 (ch := ((strN 3).getD (j1 * 4 + 3) 0)) hxb) (fun m1 hq => ?_)
        obtain rfl := hq
        obtain ⟨p4, hp4⟩ : ∃ X, X = (ex c ((strN 3).getD (j1 * 4 + 3) 0) p3 s3).1 := ⟨_, rfl⟩
        obtain ⟨s4, hs4⟩ : ∃ X, X = (ex c ((strN 3).getD (j1 * 4 + 3) 0) p3 s3).2 := ⟨_, rfl⟩
        rw [← hp4, ← hs4]
        have hn4 : s4 = true → p4 ≤ n := fun e => by rw [hp4]; exact ex_in hCT (by omega) (by rw [← hs4]; exact e)
        have h14 : exL c [((strN 3).getD (j1 * 4 + 3) 0)] p3 s3 = exL c [] p4 s4 := by show exL c _ (ex c _ _ _).1 (ex c _ _ _).2 = _; rw [← hp4, ← hs4]
        refine p_iincN (ls1 := [(0, _), (1, _), (2, _)]) k40_45 rfl rfl ?_
        refine p_goto (tgt := 14) k40_48 (by decide) ?_
        refine p_iload_n k40_14 rfl ?_
        refine p_iconst (v := nI 4) k40_15 (by decide) ?_
        refine p_icmp_geN (tgt := 51) k40_16 (by decide) (by omega) (by omega) (fun _ => ?_) (fun c => False.elim (by omega))
        exact C51 4 p4 s4 (h12.trans (h13.trans h14))

