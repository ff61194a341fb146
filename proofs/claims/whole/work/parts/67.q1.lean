/-! the class reads a text: signs, numbers, codes -/
/-- a town while it reads: so many codes, at this place, sound or not -/
def pB (f : Nat → Int32) (m p : Nat) (s : Bool) : Nat → Int32 := upc (upc (upc f 6 (nI m)) 10 (nI p)) 11 (bI s)
def PS (I : Nat → Nat → Int32) (b m p : Nat) (s : Bool) (cd : Nat → Int32) : Nat → Nat → Int32 := upc (upc I (b + 6) cd) b (pB (I b) m p s)
theorem PS_b {I : Nat → Nat → Int32} {b m p : Nat} {s : Bool} {cd : Nat → Int32} : PS I b m p s cd b = pB (I b) m p s := upc_eq _ _ _
theorem PS_f6 {I : Nat → Nat → Int32} {b m p : Nat} {s : Bool} {cd : Nat → Int32} : PS I b m p s cd b 6 = nI m := by rw [PS_b]; rfl
theorem PS_f10 {I : Nat → Nat → Int32} {b m p : Nat} {s : Bool} {cd : Nat → Int32} : PS I b m p s cd b 10 = nI p := by rw [PS_b]; rfl
theorem PS_f11 {I : Nat → Nat → Int32} {b m p : Nat} {s : Bool} {cd : Nat → Int32} : PS I b m p s cd b 11 = bI s := by rw [PS_b]; rfl
theorem PS_fo {I : Nat → Nat → Int32} {b m p k : Nat} {s : Bool} {cd : Nat → Int32} (hk : k ≠ 6 ∧ k ≠ 10 ∧ k ≠ 11) : PS I b m p s cd b k = I b k := by
  rw [PS_b]
  unfold pB
  rw [upc_ne _ _ hk.2.2, upc_ne _ _ hk.2.1, upc_ne _ _ hk.1]
theorem PS_cd {I : Nat → Nat → Int32} {b m p : Nat} {s : Bool} {cd : Nat → Int32} : PS I b m p s cd (b + 6) = cd := (upc_ne _ _ (by omega)).trans (upc_eq _ _ _)
theorem PS_o {I : Nat → Nat → Int32} {b m p x : Nat} {s : Bool} {cd : Nat → Int32} (h1 : x ≠ b) (h2 : x ≠ b + 6) : PS I b m p s cd x = I x := (upc_ne _ _ h1).trans (upc_ne _ _ h2)
theorem upc_ss {α : Type} (f : Nat → α) {a b : Nat} (x y z : α) (h : a ≠ b) : upc (upc (upc f a x) b y) a z = upc (upc f a z) b y := by rw [upc_sw _ (Ne.symm h), upc_uu]
theorem pB_6 {f : Nat → Int32} {m p m2 : Nat} {s : Bool} : upc (pB f m p s) 6 (nI m2) = pB f m2 p s := by
  unfold pB
  rw [upc_sw _ (show 11 ≠ 6 by decide), upc_ss _ _ _ _ (show 6 ≠ 10 by decide)]
theorem pB_10 {f : Nat → Int32} {m p p2 : Nat} {s : Bool} : upc (pB f m p s) 10 (nI p2) = pB f m p2 s := by
  unfold pB
  rw [upc_ss _ _ _ _ (show 10 ≠ 11 by decide)]
theorem pB_11 {f : Nat → Int32} {m p : Nat} {s s2 : Bool} : upc (pB f m p s) 11 (bI s2) = pB f m p s2 := by
  unfold pB
  rw [upc_uu]
theorem PS_6 {I : Nat → Nat → Int32} {b m p m2 : Nat} {s : Bool} {cd : Nat → Int32} : upc (PS I b m p s cd) b (upc (PS I b m p s cd b) 6 (nI m2)) = PS I b m2 p s cd := by
  rw [PS_b, pB_6]
  exact upc_uu _ _ _ _
theorem PS_10 {I : Nat → Nat → Int32} {b m p p2 : Nat} {s : Bool} {cd : Nat → Int32} : upc (PS I b m p s cd) b (upc (PS I b m p s cd b) 10 (nI p2)) = PS I b m p2 s cd := by
  rw [PS_b, pB_10]
  exact upc_uu _ _ _ _
theorem PS_11 {I : Nat → Nat → Int32} {b m p : Nat} {s s2 : Bool} {cd : Nat → Int32} : upc (PS I b m p s cd) b (upc (PS I b m p s cd b) 11 (bI s2)) = PS I b m p s2 cd := by
  rw [PS_b, pB_11]
  exact upc_uu _ _ _ _
theorem PS_c {I : Nat → Nat → Int32} {b m p i : Nat} {s : Bool} {cd : Nat → Int32} {v : Int32} : upc (PS I b m p s cd) (b + 6) (upc (PS I b m p s cd (b + 6)) i v) = PS I b m p s (upc cd i v) := by
  rw [PS_cd]
  unfold PS
  rw [upc_ss _ _ _ _ (show b + 6 ≠ b by omega)]
/-- a town at b about to read the text c of n bytes -/
def PAR (I : Nat → Nat → Int32) (K : Nat → Nat → Option Nat) (h : List xSh) (b : Nat) (c : Nat → Nat) (n : Nat) : Prop := (TS K h b ∧ (b = 29 ∨ 44 ≤ b) ∧ K b 8 = some 27) ∧ I b 9 = nI n ∧ n ≤ 100 ∧ CT c n ∧ ∀ p, p < n → I 27 p = nI (c p)
/-- reading goes on only while all was sound -/
def rd {α : Type} (s : Bool) (f : Nat → Nat × Option α) (p : Nat) : Nat × Option α := if s = true then f p else (p, none)
def ex (c : Nat → Nat) (ch p : Nat) (s : Bool) : Nat × Bool := if (s && decide (c p = ch)) = true then (p + 1, true) else (p, false)
def strN (k : Nat) : List Nat := match k with
  | 0 => [97, 101, 107, 116, 117, 100]
  | 1 => [60, 61, 62]
  | 2 => [115, 103, 109, 119]
  | 3 => [115, 117, 105, 116, 103, 97, 108, 108, 109, 111, 116, 104, 119, 111, 114, 107]
  | _ => [48, 49, 50, 51, 52, 53, 54, 55, 56, 57]
theorem xs_ln {k : Nat} (hk : k < 5) : (xStr k).length = (strN k).length ∧ (strN k).length ≤ 16 := by
  rcases (show k = 0 ∨ k = 1 ∨ k = 2 ∨ k = 3 ∨ k = 4 by omega) with rfl | rfl | rfl | rfl | rfl <;> decide
theorem xs_nI {k j : Nat} (hk : k < 5) (hj : j < (strN k).length) : (xStr k).getD j 0 = nI ((strN k).getD j 0) ∧ (strN k).getD j 0 < 128 := by
  have H : ∀ k : Fin 5, ∀ j : Fin 16, j.val < (strN k.val).length → (xStr k.val).getD j.val 0 = nI ((strN k.val).getD j.val 0) ∧ (strN k.val).getD j.val 0 < 128 := by decide +kernel
  exact H ⟨k, hk⟩ ⟨j, by have := (xs_ln hk).2; omega⟩ hj
theorem st_dig {j : Nat} (hj : j < 10) : (strN 4).getD j 0 = 48 + j := by
  have H : ∀ j : Fin 10, (strN 4).getD j.val 0 = 48 + j.val := by decide
  exact H ⟨j, hj⟩
set_option maxRecDepth 100000 in
set_option maxHeartbeats 4000000 in
theorem C_isNext {d : Nat} {I : Nat → Nat → Int32} {J : Nat → Nat → Int64} {K : Nat → Nat → Option Nat} {h : List xSh} (S : St K h) {b n : Nat} {c : Nat → Nat} (P : PAR I K h b c n) {m p : Nat} {s : Bool} {cd : Nat → Int32} (hp : s = true → p ≤ n) {ch : Nat} (hch : ch < 128) : EvP d 45 0 [(0, .ref (b)), (1, .int (nI (ch)))] [] (PS I b m p s cd, J, K, h) (QI (fun x t => x = bI (s && decide (c p = ch)) ∧ t = (PS I b m p s cd, J, K, h))) := by
  have P0 := P
  obtain ⟨⟨hTS, hb29, hK8⟩, h9, hn100, hCT, htx⟩ := P
  refine p_aload_n k45_0 rfl ?_
  refine p_getIv k45_1 hTS.1.1 f_8_50_8 PS_f11 ?_
  refine p_if_eqB (tgt := 35) k45_4 (by decide) (fun cq4 => ?_) (fun cq4 => ?_)
  · skip
    refine p_iconst (v := bI false) k45_35 (by decide) ?_
    refine p_returnB k45_36 rt_45 ?_
    first | exact ⟨by rw [cq4]; rfl, rfl⟩ | exact ⟨by rw [cq4, (hCT p).1 (by omega), decide_eq_false (show ¬ 200 = ch by omega)]; rfl, rfl⟩ | exact ⟨by rw [cq4, decide_eq_true cq28]; rfl, rfl⟩ | exact ⟨by rw [cq4, decide_eq_false cq28]; rfl, rfl⟩
  · skip
    have hp2 := hp cq4
    refine p_aload_n k45_7 rfl ?_
    refine p_getIv k45_8 hTS.1.1 f_8_47_8 PS_f10 ?_
    refine p_aload_n k45_11 rfl ?_
    refine p_getIv k45_12 hTS.1.1 f_8_44_8 ((PS_fo (by decide)).trans h9) ?_
    refine p_icmp_geN (tgt := 35) k45_15 (by decide) (by omega) (by omega) (fun cq15 => ?_) (fun cq15 => ?_)
    · skip
      refine p_iconst (v := bI false) k45_35 (by decide) ?_
      refine p_returnB k45_36 rt_45 ?_
      first | exact ⟨by rw [cq4]; rfl, rfl⟩ | exact ⟨by rw [cq4, (hCT p).1 (by omega), decide_eq_false (show ¬ 200 = ch by omega)]; rfl, rfl⟩ | exact ⟨by rw [cq4, decide_eq_true cq28]; rfl, rfl⟩ | exact ⟨by rw [cq4, decide_eq_false cq28]; rfl, rfl⟩
    · skip
      have hcp := (hCT p).2 (by omega)
      refine p_aload_n k45_18 rfl ?_
      refine p_getRv k45_19 hTS.1.1 f_8_41_8 hK8 ?_
      refine p_aload_n k45_22 rfl ?_
      refine p_getIv k45_23 hTS.1.1 f_8_47_8 PS_f10 ?_
      refine p_baldN k45_26 (s_27 S) (by omega) (by decide) ((congrFun (PS_o (by omega) (by omega)) _).trans (htx _ (by omega))) ?_
      refine p_iload_n k45_27 rfl ?_
      refine p_icmp_neN (tgt := 35) k45_28 (by decide) (by omega) (by omega) (fun cq28 => ?_) (fun cq28 => ?_)
      · skip
        refine p_iconst (v := bI false) k45_35 (by decide) ?_
        refine p_returnB k45_36 rt_45 ?_
        first | exact ⟨by rw [cq4]; rfl, rfl⟩ | exact ⟨by rw [cq4, (hCT p).1 (by omega), decide_eq_false (show ¬ 200 = ch by omega)]; rfl, rfl⟩ | exact ⟨by rw [cq4, decide_eq_true cq28]; rfl, rfl⟩ | exact ⟨by rw [cq4, decide_eq_false cq28]; rfl, rfl⟩
      · skip
        refine p_iconst (v := bI true) k45_31 (by decide) ?_
        refine p_goto (tgt := 36) k45_32 (by decide) ?_
        refine p_returnB k45_36 rt_45 ?_
        first | exact ⟨by rw [cq4]; rfl, rfl⟩ | exact ⟨by rw [cq4, (hCT p).1 (by omega), decide_eq_false (show ¬ 200 = ch by omega)]; rfl, rfl⟩ | exact ⟨by rw [cq4, decide_eq_true cq28]; rfl, rfl⟩ | exact ⟨by rw [cq4, decide_eq_false cq28]; rfl, rfl⟩

set_option maxRecDepth 100000 in
set_option maxHeartbeats 4000000 in
theorem C_expect {d : Nat} {I : Nat → Nat → Int32} {J : Nat → Nat → Int64} {K : Nat → Nat → Option Nat} {h : List xSh} (S : St K h) {b n : Nat} {c : Nat → Nat} (P : PAR I K h b c n) {m p : Nat} {s : Bool} {cd : Nat → Int32} (hp : s = true → p ≤ n) {ch : Nat} (hch : ch < 128) : EvP (d + 1) 46 0 [(0, .ref (b)), (1, .int (nI (ch)))] [] (PS I b m p s cd, J, K, h) (QV (fun t => t = (PS I b m (ex c ch p s).1 (ex c ch p s).2 cd, J, K, h))) := by
  have P0 := P
  obtain ⟨⟨hTS, hb29, hK8⟩, h9, hn100, hCT, htx⟩ := P
  refine p_aload_n k46_0 rfl ?_
  refine p_iload_n k46_1 rfl ?_
  refine p_cV1i k46_2 hTS.1.1 c_8_109_8 rfl (Nat.le_of_ble_eq_true rfl) (C_isNext S P0 hp (ch := ch) (by omega)) (fun x1 m1 hq => ?_)
  obtain ⟨rfl, rfl⟩ := hq
  refine p_if_eqB (tgt := 21) k46_5 (by decide) (fun cq5 => ?_) (fun cq5 => ?_)
  · skip
    refine p_aload_n k46_21 rfl ?_
    refine p_iconst (v := bI false) k46_22 (by decide) ?_
    refine p_putZv k46_23 hTS.1.1 g_8_50_8 n_46_8_11 (bI_01 _) ?_
    rw [PS_11]
    refine p_return k46_26 rt_46 ?_
    unfold ex
    rw [if_neg (show ¬ (s && decide (c p = ch)) = true by rw [cq5]; decide)]
  · skip
    refine p_aload_n k46_8 rfl ?_
    refine p_dup k46_9 rfl ?_
    refine p_getIv k46_10 hTS.1.1 f_8_47_8 PS_f10 ?_
    refine p_iconst (v := nI 1) k46_13 (by decide) ?_
    refine p_iaddN k46_14 ?_
    refine p_putIv k46_15 hTS.1.1 g_8_47_8 n_46_8_10 ?_
    rw [PS_10]
    refine p_goto (tgt := 26) k46_18 (by decide) ?_
    refine p_return k46_26 rt_46 ?_
    unfold ex
    have hs1 : s = true := by
      cases s
      · cases cq5
      · rfl
    rw [if_pos cq5, hs1]

/-- one of the signs of a text was read, or none of them was there -/
def OFQ (c : Nat → Nat) (k p : Nat) (s : Bool) (j p1 : Nat) (s1 : Bool) : Prop := j < (strN k).length ∧ ((s = true ∧ s1 = true ∧ p1 = p + 1 ∧ c p = (strN k).getD j 0) ∨ (s1 = false ∧ p1 = p ∧ j = 0 ∧ (s = true → ∀ i, i < (strN k).length → c p ≠ (strN k).getD i 0)))
set_option maxRecDepth 100000 in
set_option maxHeartbeats 4000000 in
theorem C_oneOf {d : Nat} {I : Nat → Nat → Int32} {J : Nat → Nat → Int64} {K : Nat → Nat → Option Nat} {h : List xSh} (S : St K h) {b n : Nat} {c : Nat → Nat} (P : PAR I K h b c n) {m p : Nat} {s : Bool} {cd : Nat → Int32} (hp : s = true → p ≤ n) {k : Nat} (hk5 : k < 5) : EvP (d + 4) 47 0 [(0, .ref (b)), (1, .ref (1000001 + k))] [] (PS I b m p s cd, J, K, h) (QI (fun x t => ∃ j p1 s1, x = nI j ∧ t = (PS I b m p1 s1 cd, J, K, h) ∧ OFQ c k p s j p1 s1)) := by
  have P0 := P
  obtain ⟨⟨hTS, hb29, hK8⟩, h9, hn100, hCT, htx⟩ := P
  have hl16 := (xs_ln hk5).2
  have hl0 : 0 < (strN k).length := by rcases (show k = 0 ∨ k = 1 ∨ k = 2 ∨ k = 3 ∨ k = 4 by omega) with rfl | rfl | rfl | rfl | rfl <;> decide
  refine p_iconst (v := nI 0) k47_0 (by decide) ?_
  refine p_istore_n (ls' := [(0, _), (1, _), (2, _)]) k47_1 rfl ?_
  have L : ∀ (j : Nat) (i : Nat), i + j = (strN k).length → (∀ z, z < i → (s && decide (c p = (strN k).getD z 0)) = false) → EvP (d + 4) 47 2 [(0, .ref (b)), (1, .ref (1000001 + k)), (2, .int (nI (i)))] [] (PS I b m p s cd, J, K, h) (QI (fun x t => ∃ j p1 s1, x = nI j ∧ t = (PS I b m p1 s1 cd, J, K, h) ∧ OFQ c k p s j p1 s1)) := by
    intro j
    induction j with
    | zero =>
      intro i hk
      intro hs
      refine p_iload_n k47_2 rfl ?_
      refine p_aload_n k47_3 rfl ?_
      refine p_cT0i k47_4 (by omega) c_8_63 (Nat.le_of_ble_eq_true rfl) (C_length S (k := k) hk5) (fun x1 m1 hq => ?_)
      obtain ⟨rfl, rfl⟩ := hq
      rw [(xs_ln hk5).1]
      refine p_icmp_geN (tgt := 40) k47_7 (by decide) (by omega) (by omega) (fun _ => ?_) (fun c => False.elim (by omega))
      refine p_aload_n k47_40 rfl ?_
      refine p_iconst (v := bI false) k47_41 (by decide) ?_
      refine p_putZv k47_42 hTS.1.1 g_8_50_8 n_47_8_11 (bI_01 _) ?_
      rw [PS_11]
      refine p_iconst (v := nI 0) k47_45 (by decide) ?_
      refine p_ireturn k47_46 rt_47 ?_
      refine ⟨0, p, false, rfl, rfl, by omega, Or.inr ⟨rfl, rfl, rfl, fun e z hz he => ?_⟩⟩
      have h8 := hs z (by omega)
      rw [e, he, decide_eq_true rfl] at h8
      cases h8
    | succ j ih =>
      intro i hk
      intro hs
      refine p_iload_n k47_2 rfl ?_
      refine p_aload_n k47_3 rfl ?_
      refine p_cT0i k47_4 (by omega) c_8_63 (Nat.le_of_ble_eq_true rfl) (C_length S (k := k) hk5) (fun x1 m1 hq => ?_)
      obtain ⟨rfl, rfl⟩ := hq
      rw [(xs_ln hk5).1]
      refine p_icmp_geN (tgt := 40) k47_7 (by decide) (by omega) (by omega) (fun c => False.elim (by omega)) (fun _ => ?_)
      refine p_aload_n k47_10 rfl ?_
      refine p_aload_n k47_11 rfl ?_
      refine p_iload_n k47_12 rfl ?_
      refine p_cT1i k47_13 (by omega) c_8_96 rfl (Nat.le_of_ble_eq_true rfl) (C_charAt S (k := k) (j := i) hk5 (by rw [(xs_ln hk5).1]; omega)) (fun x1 m1 hq => ?_)
      obtain ⟨rfl, rfl⟩ := hq
      obtain ⟨hxa, hxb⟩ := xs_nI (k := k) (j := i) hk5 (by omega)
      rw [hxa]
      refine p_cV1i k47_16 hTS.1.1 c_8_109_8 rfl (Nat.le_of_ble_eq_true rfl) (C_isNext S P0 hp hxb) (fun x1 m1 hq => ?_)
      obtain ⟨rfl, rfl⟩ := hq
      refine p_if_eqB (tgt := 34) k47_19 (by decide) (fun cq19 => ?_) (fun cq19 => ?_)
      · skip
        refine p_iincN (ls1 := [(0, _), (1, _), (2, _)]) k47_34 rfl rfl ?_
        refine p_goto (tgt := 2) k47_37 (by decide) ?_
        refine ih (i + 1) (by omega) (fun z hz => ?_)
        by_cases e : z = i
        · subst e; exact cq19
        · exact hs z (by omega)
      · skip
        refine p_aload_n k47_22 rfl ?_
        refine p_dup k47_23 rfl ?_
        refine p_getIv k47_24 hTS.1.1 f_8_47_8 PS_f10 ?_
        refine p_iconst (v := nI 1) k47_27 (by decide) ?_
        refine p_iaddN k47_28 ?_
        refine p_putIv k47_29 hTS.1.1 g_8_47_8 n_47_8_10 ?_
        rw [PS_10]
        refine p_iload_n k47_32 rfl ?_
        refine p_ireturn k47_33 rt_47 ?_
        have hs1 : s = true := by cases s with | true => rfl | false => cases cq19
        have hc1 : c p = (strN k).getD i 0 := by rw [hs1, Bool.true_and] at cq19; exact of_decide_eq_true cq19
        exact ⟨i, p + 1, s, rfl, rfl, by omega, Or.inl ⟨hs1, hs1, rfl, hc1⟩⟩
  exact L (strN k).length 0 (by omega) (fun z hz => absurd hz (Nat.not_lt_zero _))

theorem rd_t {α : Type} {s : Bool} {f : Nat → Nat × Option α} {p : Nat} (h : s = true) : rd s f p = f p := if_pos h
theorem rd_f {α : Type} {s : Bool} {f : Nat → Nat × Option α} {p : Nat} (h : s = false) : rd s f p = (p, none) := if_neg (by rw [h]; decide)
theorem num_A {c : Nat → Nat} {n p p1 j : Nat} {s s1 : Bool} (hCT : CT c n) (h : OFQ c 4 p s j p1 s1) (hn : s1 = true → isD (c p1) = false) : rd s (pNum c) p = (p1, if s1 = true then some j else none) := by
  obtain ⟨hj, ⟨e1, e2, e3, e4⟩ | ⟨e1, e2, e3, e4⟩⟩ := h
  · rw [st_dig hj] at e4
    have h1 := hn e2
    rw [rd_t e1, if_pos e2]
    unfold pNum
    rw [e3] at h1 ⊢
    have hj2 : j < 10 := hj
    rw [if_pos (by rw [isD_iff]; omega), if_neg (by rw [h1]; decide), e4, show 48 + j - 48 = j by omega]
  · rw [e1, e2]
    cases hs : s with
    | false => rw [rd_f rfl]; rfl
    | true =>
      rw [rd_t rfl]
      unfold pNum
      rw [if_neg]
      · rfl
      · rw [isD_iff]
        intro z
        have h2 := e4 hs (c p - 48) (show c p - 48 < 10 by omega)
        rw [st_dig (by omega)] at h2
        omega
theorem num_B {c : Nat → Nat} {p p1 p2 j j2 : Nat} {s s1 s2 : Bool} (h : OFQ c 4 p s j p1 s1) (h2 : OFQ c 4 p1 s1 j2 p2 s2) (hs : s1 = true) (hd : isD (c p1) = true) : rd s (pNum c) p = (p2, if s2 = true then some (j * 10 + j2) else none) := by
  obtain ⟨hj, ⟨e1, e2, e3, e4⟩ | ⟨e1, e2, e3, e4⟩⟩ := h
  · obtain ⟨hj2, ⟨f1, f2, f3, f4⟩ | ⟨f1, f2, f3, f4⟩⟩ := h2
    · rw [st_dig hj] at e4
      rw [st_dig hj2] at f4
      have hj9 : j < 10 := hj
      subst e3
      rw [rd_t e1, if_pos f2]
      unfold pNum
      rw [if_pos (by rw [isD_iff]; omega), if_pos hd, e4, f4, f3, show 48 + j - 48 = j by omega, show 48 + j2 - 48 = j2 by omega, Nat.mul_comm]
    · rw [isD_iff] at hd
      have h3 := f4 hs (c p1 - 48) (show c p1 - 48 < 10 by omega)
      rw [st_dig (by omega)] at h3
      omega
  · rw [hs] at e1; cases e1
theorem isD_in {x : Nat} (hx : x < 2000) : isD x = inB (nI x) (nI 48) (nI 57) := by
  unfold isD inB
  refine decide_eq_decide.mpr ?_
  rw [i_le, i_le, nI_t (by omega), nI_t (by omega), nI_t (by omega)]
  omega
set_option maxRecDepth 100000 in
set_option maxHeartbeats 4000000 in
theorem C_parseNumber {d : Nat} {I : Nat → Nat → Int32} {J : Nat → Nat → Int64} {K : Nat → Nat → Option Nat} {h : List xSh} (S : St K h) {b n : Nat} {c : Nat → Nat} (P : PAR I K h b c n) {m p : Nat} {s : Bool} {cd : Nat → Int32} (hp : s = true → p ≤ n)  : EvP (d + 5) 43 0 [(0, .ref (b))] [] (PS I b m p s cd, J, K, h) (QI (fun x t => ∃ v p1 s1, x = nI v ∧ v < 100 ∧ t = (PS I b m p1 s1 cd, J, K, h) ∧ rd s (pNum c) p = (p1, if s1 = true then some v else none))) := by
  have P0 := P
  obtain ⟨⟨hTS, hb29, hK8⟩, h9, hn100, hCT, htx⟩ := P
  refine p_aload_n k43_0 rfl ?_
  refine p_ldcs (k := 4) k43_1 (by decide) ?_
  refine p_cV1i k43_3 hTS.1.1 c_8_90_8 rfl (Nat.le_of_ble_eq_true rfl) (C_oneOf S P0 hp (k := 4) (by decide)) (fun x1 m1 hq => ?_)
  obtain ⟨j1, p1, s1, rfl, rfl, h1⟩ := hq
  have hj1 : j1 < 10 := h1.1
  refine p_istore_n (ls' := [(0, _), (1, _)]) k43_6 rfl ?_
  refine p_aload_n k43_7 rfl ?_
  refine p_getIv k43_8 hTS.1.1 f_8_50_8 PS_f11 ?_
  refine p_if_eqB (tgt := 48) k43_11 (by decide) (fun cq11 => ?_) (fun cq11 => ?_)
  · skip
    refine p_iconst (v := nI 0) k43_48 (by decide) ?_
    refine p_istore_n (ls' := [(0, _), (1, _), (2, _)]) k43_49 rfl ?_
    refine p_iload_n k43_50 rfl ?_
    refine p_if_eqN (tgt := 68) k43_51 (by decide) (by omega) (fun _ => ?_) (fun c => False.elim (by omega))
    refine p_iload_n k43_68 rfl ?_
    refine p_ireturn k43_69 rt_43 ?_
    refine ⟨j1, p1, s1, rfl, by omega, rfl, num_A hCT h1 (fun e => ?_)⟩
    first | (rw [cq11] at e; cases e; done) | exact (isD_in (by omega)).trans cq41 | (rw [(hCT p1).1 (by omega)]; rfl)
  · skip
    have hp1n : p1 ≤ n := by
      rcases h1.2 with ⟨e1, _, e3, e4⟩ | ⟨e1, _⟩
      · have := hp e1
        have h128 : c p < 128 := by rw [e4]; exact (xs_nI (k := 4) (by decide) h1.1).2
        have := hCT.lt (p := p) (by omega)
        omega
      · rw [cq11] at e1; cases e1
    refine p_aload_n k43_14 rfl ?_
    refine p_getIv k43_15 hTS.1.1 f_8_47_8 PS_f10 ?_
    refine p_aload_n k43_18 rfl ?_
    refine p_getIv k43_19 hTS.1.1 f_8_44_8 ((PS_fo (by decide)).trans h9) ?_
    refine p_icmp_geN (tgt := 48) k43_22 (by decide) (by omega) (by omega) (fun cq22 => ?_) (fun cq22 => ?_)
    · skip
      refine p_iconst (v := nI 0) k43_48 (by decide) ?_
      refine p_istore_n (ls' := [(0, _), (1, _), (2, _)]) k43_49 rfl ?_
      refine p_iload_n k43_50 rfl ?_
      refine p_if_eqN (tgt := 68) k43_51 (by decide) (by omega) (fun _ => ?_) (fun c => False.elim (by omega))
      refine p_iload_n k43_68 rfl ?_
      refine p_ireturn k43_69 rt_43 ?_
      refine ⟨j1, p1, s1, rfl, by omega, rfl, num_A hCT h1 (fun e => ?_)⟩
      first | (rw [cq11] at e; cases e; done) | exact (isD_in (by omega)).trans cq41 | (rw [(hCT p1).1 (by omega)]; rfl)
    · skip
      refine p_aload_n k43_25 rfl ?_
      refine p_getRv k43_26 hTS.1.1 f_8_41_8 hK8 ?_
      refine p_aload_n k43_29 rfl ?_
      refine p_getIv k43_30 hTS.1.1 f_8_47_8 PS_f10 ?_
      have hc128 := (hCT p1).2 (by omega)
      refine p_baldN k43_33 (s_27 S) (by omega) (by decide) ((congrFun (PS_o (by omega) (by omega)) _).trans (htx _ (by omega))) ?_
      refine p_bipush (v := nI 48) k43_34 (by decide) ?_
      refine p_bipush (v := nI 57) k43_36 (by decide) ?_
      refine p_cS3i k43_38 c_8_124 rfl rfl rfl (Nat.le_of_ble_eq_true rfl) (C_within S (nI (c p1)) (nI (48)) (nI (57))) (fun x1 m1 hq => ?_)
      obtain ⟨rfl, rfl⟩ := hq
      refine p_if_eqB (tgt := 48) k43_41 (by decide) (fun cq41 => ?_) (fun cq41 => ?_)
      · skip
        refine p_iconst (v := nI 0) k43_48 (by decide) ?_
        refine p_istore_n (ls' := [(0, _), (1, _), (2, _)]) k43_49 rfl ?_
        refine p_iload_n k43_50 rfl ?_
        refine p_if_eqN (tgt := 68) k43_51 (by decide) (by omega) (fun _ => ?_) (fun c => False.elim (by omega))
        refine p_iload_n k43_68 rfl ?_
        refine p_ireturn k43_69 rt_43 ?_
        refine ⟨j1, p1, s1, rfl, by omega, rfl, num_A hCT h1 (fun e => ?_)⟩
        first | (rw [cq11] at e; cases e; done) | exact (isD_in (by omega)).trans cq41 | (rw [(hCT p1).1 (by omega)]; rfl)
      · skip
        refine p_iconst (v := nI 1) k43_44 (by decide) ?_
        refine p_goto (tgt := 49) k43_45 (by decide) ?_
        refine p_istore_n (ls' := [(0, _), (1, _), (2, _)]) k43_49 rfl ?_
        refine p_iload_n k43_50 rfl ?_
        refine p_if_eqN (tgt := 68) k43_51 (by decide) (by omega) (fun c => False.elim (by omega)) (fun _ => ?_)
        refine p_iload_n k43_54 rfl ?_
        refine p_bipush (v := nI 10) k43_55 (by decide) ?_
        refine p_imulN k43_57 ?_
        refine p_aload_n k43_58 rfl ?_
        refine p_ldcs (k := 4) k43_59 (by decide) ?_
        refine p_cV1i k43_61 hTS.1.1 c_8_90_8 rfl (Nat.le_of_ble_eq_true rfl) (C_oneOf S P0 (fun _ => by omega) (k := 4) (by decide)) (fun x1 m1 hq => ?_)
        obtain ⟨j2, p2, s2, rfl, rfl, h2⟩ := hq
        have hj2 : j2 < 10 := h2.1
        refine p_iaddN k43_64 ?_
        refine p_goto (tgt := 69) k43_65 (by decide) ?_
        refine p_ireturn k43_69 rt_43 ?_
        exact ⟨j1 * 10 + j2, p2, s2, rfl, by omega, rfl, num_B h1 h2 cq11 ((isD_in (by omega)).trans cq41)⟩

set_option maxRecDepth 100000 in
set_option maxHeartbeats 4000000 in
theorem C_addCode {d : Nat} {I : Nat → Nat → Int32} {J : Nat → Nat → Int64} {K : Nat → Nat → Option Nat} {h : List xSh} (S : St K h) {b n : Nat} {c : Nat → Nat} (P : PAR I K h b c n) {m p : Nat} {s : Bool} {cd : Nat → Int32} (hm : m ≤ 100) (v : Int32) : EvP d 44 0 [(0, .ref (b)), (1, .int (v))] [] (PS I b m p s cd, J, K, h) (QV (fun t => t = (PS I b (if m < 100 then m + 1 else m) p s (if m < 100 then upc cd m v else cd), J, K, h))) := by
  have P0 := P
  obtain ⟨⟨hTS, hb29, hK8⟩, h9, hn100, hCT, htx⟩ := P
  refine p_aload_n k44_0 rfl ?_
  refine p_getIv k44_1 hTS.1.1 f_8_31_8 PS_f6 ?_
  refine p_aload_n k44_4 rfl ?_
  refine p_getRv k44_5 hTS.1.1 f_8_34_8 hTS.2.2.2.2.2.2 ?_
  refine p_alen k44_8 hTS.1.2.2.2.2.2.2 (Or.inl (Or.inl rfl)) ?_
  refine p_icmp_geN (tgt := 32) k44_9 (by decide) (by omega) (by omega) (fun cq9 => ?_) (fun cq9 => ?_)
  · skip
    refine p_return k44_32 rt_44 ?_
    first | (rw [if_pos (show m < 100 by omega), if_pos (show m < 100 by omega)]; done) | (rw [if_neg (show ¬ m < 100 by omega), if_neg (show ¬ m < 100 by omega)]; done)
  · skip
    refine p_aload_n k44_12 rfl ?_
    refine p_getRv k44_13 hTS.1.1 f_8_34_8 hTS.2.2.2.2.2.2 ?_
    refine p_aload_n k44_16 rfl ?_
    refine p_getIv k44_17 hTS.1.1 f_8_31_8 PS_f6 ?_
    refine p_iload_n k44_20 rfl ?_
    refine p_iastN k44_21 hTS.1.2.2.2.2.2.2 (by omega) (by decide) ?_
    rw [PS_c]
    refine p_aload_n k44_22 rfl ?_
    refine p_dup k44_23 rfl ?_
    refine p_getIv k44_24 hTS.1.1 f_8_31_8 PS_f6 ?_
    refine p_iconst (v := nI 1) k44_27 (by decide) ?_
    refine p_iaddN k44_28 ?_
    refine p_putIv k44_29 hTS.1.1 g_8_31_8 n_44_8_6 ?_
    rw [PS_6]
    refine p_return k44_32 rt_44 ?_
    first | (rw [if_pos (show m < 100 by omega), if_pos (show m < 100 by omega)]; done) | (rw [if_neg (show ¬ m < 100 by omega), if_neg (show ¬ m < 100 by omega)]; done)

set_option maxRecDepth 100000 in
set_option maxHeartbeats 4000000 in
theorem C_codeOf {d : Nat} {I : Nat → Nat → Int32} {J : Nat → Nat → Int64} {K : Nat → Nat → Option Nat} {h : List xSh} (S : St K h) {f g v : Nat} : EvP (d + 2) 37 0 [(0, .int (nI (f))), (1, .int (nI (g))), (2, .int (nI (v)))] [] (I, J, K, h) (QI (fun x t => x = nI ((f * 3 + g) * 100 + v) ∧ t = (I, J, K, h))) := by
  refine p_iload_n k37_0 rfl ?_
  refine p_ldcs (k := 1) k37_1 (by decide) ?_
  refine p_cT0i k37_3 (by omega) c_8_63 (Nat.le_of_ble_eq_true rfl) (C_length S (k := 1) (by decide)) (fun x1 m1 hq => ?_)
  obtain ⟨rfl, rfl⟩ := hq
  refine p_imulN k37_6 ?_
  refine p_iload_n k37_7 rfl ?_
  refine p_iaddN k37_8 ?_
  refine p_bipush (v := nI 100) k37_9 (by decide) ?_
  refine p_imulN k37_11 ?_
  refine p_iload_n k37_12 rfl ?_
  refine p_iaddN k37_13 ?_
  refine p_ireturn k37_14 rt_37 ?_
  exact ⟨rfl, rfl⟩

