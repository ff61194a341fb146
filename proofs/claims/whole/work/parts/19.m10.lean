/-! the reference: on, lasts -/
/-- the state after days ahead -/
def dS (I : Nat → Nat → Int32) (nh : Nat) : Nat → (Nat → Nat → Int32)
  | 0 => svI I
  | k + 1 => goI (dS I nh k) nh
theorem goU_hi {w : Nat → Int32} {mu : Int32} {nh na : Nat} (h6 : na ≤ 6) (hw : ∀ k, k < nh → w k = -1 ∨ ∃ a, a < na ∧ w k = nI a) : ∀ (j k : Nat) (u : Nat → Int32), k + j = nh → ∀ m, 6 ≤ m → fld (fGo w mu) j k u m = u m := by
  intro j
  induction j with
  | zero => intro k u _ m _; rfl
  | succ j ih =>
    intro k u hk m hm
    show fld (fGo w mu) j (k + 1) (fGo w mu k u) m = u m
    rw [ih (k + 1) _ (by omega) m hm]
    unfold fGo
    rcases hw k (by omega) with e | ⟨a, ha, e⟩
    · rw [if_pos (by rw [e]; decide)]
    · rw [if_neg (by rw [e, i_lt, nI_t (by omega)]; show ¬ (a : Int) < 0; omega), e, nI_clamp (by omega), upc_ne _ _ (by omega)]
theorem MI_go {I : Nat → Nat → Int32} {nh na dd cb ce : Nat} (M : MI I nh na dd cb ce) (h : dd + 1 < 20000) : MI (goI I nh) nh na (dd + 1) cb ce := by
  refine ⟨M.nh, M.nh6, M.na, M.na6, ?_, h, M.th, M.wf, M.worn, M.kind⟩
  show I 98 2 + nI 1 = nI (dd + 1)
  rw [M.dd, show nI (dd + 1) = nI dd + 1 from by rw [nI_succ]]
  rfl
theorem dS_facts {I : Nat → Nat → Int32} {nh na dd cb ce : Nat} (M : MI I nh na dd cb ce) : ∀ n, dd + n < 20000 → MI (dS I nh n) nh na (dd + n) cb ce ∧ (∀ c, c ≠ 98 → c ≠ 107 → dS I nh n c = svI I c) ∧ (∀ k, k ≠ 2 → dS I nh n 98 k = svI I 98 k) ∧ (∀ k, 6 ≤ k → dS I nh n 107 k = I 107 k) := by
  intro n
  induction n with
  | zero => intro h; exact ⟨M, fun _ _ _ => rfl, fun _ _ => rfl, fun _ _ => rfl⟩
  | succ n ih =>
    intro h
    obtain ⟨h1, h2, h3, h4⟩ := ih (by omega)
    refine ⟨MI_go h1 (by omega), fun c c1 c2 => ?_, fun k hk => ?_, fun k hk => ?_⟩
    · rw [← h2 c c1 c2]
      show goI (dS I nh n) nh c = _
      unfold goI s1
      simp only [upc, c1, c2, if_false]
    · rw [← h3 k hk]
      exact upc_ne _ _ hk
    · rw [← h4 k hk]
      exact goU_hi h1.na6 h1.worn nh 0 _ (by omega) k hk
theorem dS_AG {I : Nat → Nat → Int32} {nh na dd cb ce : Nat} (M : MI I nh na dd cb ce) (hmu : I 98 33 = nI 9999) {n : Nat} (h : dd + n < 20000) (g : Nat → Int32) : AG I (pbI (upc (dS I nh n) 120 g)) := by
  obtain ⟨h1, h2, h3, h4⟩ := dS_facts M n h
  refine AG.back hmu (fun c q1 q2 q3 q4 q5 => ?_) (fun k hk => h3 k hk) (fun k hk => h4 k hk) (fun k hk => ?_)
  · rw [upc_ne _ _ q4]; exact h2 c q1 q3
  · exact congrFun (h2 101 (by decide) (by decide)) k
theorem dS_work {I : Nat → Nat → Int32} {nh na dd cb ce : Nat} (M : MI I nh na dd cb ce) {n : Nat} (h : dd + n < 20000) (t : Int32) : workF (dS I nh n) cb ce t = workF I cb ce t := by
  obtain ⟨h1, h2, h3, h4⟩ := dS_facts M n h
  unfold workF
  rw [h2 112 (by decide) (by decide), h2 113 (by decide) (by decide), h2 114 (by decide) (by decide)]
  rfl
def fOn (I : Nat → Nat → Int32) (nh cb ce : Nat) (t : Int32) (k : Nat) (s : Int32) : Int32 := s + todM (dS I nh k) cb ce nh t
def onM (I : Nat → Nat → Int32) (nh cb ce : Nat) (t n : Int32) : Int32 := if ixB t 5 = false then -1 else if inB n (nI 0) (nI 30) = false then -2 else fld (fOn I nh cb ce t) n.toNatClampNeg 0 (nI 0)
def lasM (I : Nat → Nat → Int32) (nh cb ce : Nat) (t : Int32) : Int32 := if ixB t 5 = false then -1 else optI (-5) (fnd (fun k => decide (todM (dS I nh k) cb ce nh t < workF I cb ce t)) 31 0)
set_option maxRecDepth 100000 in
set_option maxHeartbeats 4000000 in
theorem M_on {d : Nat} {I : Nat → Nat → Int32} {J : Nat → Nat → Int64} {K : Nat → Nat → Option Nat} {h : List xSh} (S : St K h) {nh na dd cb ce : Nat} (M : MI I nh na dd cb ce) (hmu : I 98 33 = nI 9999) (hd9 : dd ≤ 9999) (q w : Int32) : EvP (d + 5) 183 0 [(0, .ref (98)), (1, .int (q)), (2, .int (w))] [] (I, J, K, h) (QI (fun x t => x = onM I nh cb ce q w ∧ ∃ I', t = (I', J, K, h) ∧ AG I I')) := by
  have hnh := M.nh
  have hnh6 := M.nh6
  have hna := M.na
  have hna6 := M.na6
  refine p_aload_n k183_0 rfl ?_
  refine p_iload_n k183_1 rfl ?_
  refine p_cV1i k183_2 (s_98 S) c_12_252_12 rfl (Nat.le_of_ble_eq_true rfl) (M_isTrade S (q)) (fun x1 m1 hq => ?_)
  obtain ⟨rfl, rfl⟩ := hq
  refine p_if_neB (tgt := 10) k183_5 (by decide) (fun c5 => ?_) (fun c5 => ?_)
  · skip
    refine p_aload_n k183_10 rfl ?_
    refine p_iload_n k183_11 rfl ?_
    refine p_iconst (v := nI 0) k183_12 (by decide) ?_
    refine p_bipush (v := nI 30) k183_13 (by decide) ?_
    refine p_cV3i k183_15 (s_98 S) c_12_248_12 rfl rfl rfl (Nat.le_of_ble_eq_true rfl) (M_in S (w) (nI (0)) (nI (30))) (fun x1 m1 hq => ?_)
    obtain ⟨rfl, rfl⟩ := hq
    refine p_if_neB (tgt := 24) k183_18 (by decide) (fun c18 => ?_) (fun c18 => ?_)
    · skip
      obtain ⟨n, hn, rfl⟩ := inB_of (by decide) (by decide) c18
      rw [Nat.zero_add] at *
      have hcn := nI_clamp (n := n) (by omega)
      refine p_aload_n k183_24 rfl ?_
      refine p_cV0v k183_25 (s_98 S) c_12_362_12 (Nat.le_of_ble_eq_true rfl) (M_save S) (fun m1 hq => ?_)
      obtain rfl := hq
      refine p_iconst (v := nI 0) k183_28 (by decide) ?_
      refine p_istore_n (ls' := [(0, _), (1, _), (2, _), (3, _)]) k183_29 rfl ?_
      refine p_iconst (v := nI 0) k183_30 (by decide) ?_
      refine p_istore (ls' := [(0, _), (1, _), (2, _), (3, _), (4, _)]) k183_31 rfl ?_
      have L : ∀ (j : Nat) (k : Nat) (s : Int32) (g : Nat → Int32), k + j = n → fld (fOn I nh cb ce q) j k s = fld (fOn I nh cb ce q) n 0 (nI 0) → EvP (d + 5) 183 33 [(0, .ref (98)), (1, .int (q)), (2, .int (nI (n))), (3, .int (s)), (4, .int (nI (k)))] [] (upc (dS I nh k) 120 g, J, K, h) (QI (fun x t => x = onM I nh cb ce q (nI n) ∧ ∃ I', t = (I', J, K, h) ∧ AG I I')) := by
        intro j
        induction j with
        | zero =>
          intro k s g hk
          intro hs
          replace hs : s = _ := hs
          refine p_iload k183_33 rfl ?_
          refine p_iload_n k183_35 rfl ?_
          refine p_icmp_geN (tgt := 57) k183_36 (by decide) (by omega) (by omega) (fun _ => ?_) (fun c => False.elim (by omega))
          refine p_aload_n k183_57 rfl ?_
          refine p_cV0v k183_58 (s_98 S) c_12_365_12 (Nat.le_of_ble_eq_true rfl) (M_putBack S) (fun m1 hq => ?_)
          obtain rfl := hq
          refine p_iload_n k183_61 rfl ?_
          refine p_ireturn k183_62 rt_183 ?_
          refine ⟨?_, _, rfl, dS_AG M hmu (n := k) (by omega) g⟩
          unfold onM
          rw [if_neg (by rw [c5]; decide), if_neg (by rw [c18]; decide), hcn]
          exact hs
        | succ j ih =>
          intro k s g hk
          intro hs
          refine p_iload k183_33 rfl ?_
          refine p_iload_n k183_35 rfl ?_
          refine p_icmp_geN (tgt := 57) k183_36 (by decide) (by omega) (by omega) (fun c => False.elim (by omega)) (fun _ => ?_)
          refine p_iload_n k183_39 rfl ?_
          refine p_aload_n k183_40 rfl ?_
          refine p_iload_n k183_41 rfl ?_
          refine p_cV1i k183_42 (s_98 S) c_12_347_12 rfl (Nat.le_of_ble_eq_true rfl) (M_today S (dS_facts M k (by omega)).1 g q) (fun x1 m1 hq => ?_)
          obtain ⟨rfl, g, rfl⟩ := hq
          refine p_iadd k183_45 ?_
          refine p_istore_n (ls' := [(0, _), (1, _), (2, _), (3, _), (4, _)]) k183_46 rfl ?_
          refine p_aload_n k183_47 rfl ?_
          refine p_cV0v k183_48 (s_98 S) c_12_351_12 (Nat.le_of_ble_eq_true rfl) (M_goDay S ((dS_facts M k (by omega)).1.up g)) (fun m1 hq => ?_)
          obtain rfl := hq
          rw [goI_up]
          refine p_iincN (ls1 := [(0, _), (1, _), (2, _), (3, _), (4, _)]) k183_51 rfl rfl ?_
          refine p_goto (tgt := 33) k183_54 (by decide) ?_
          exact ih (k + 1) _ g (by omega) (by rw [← hs]; rfl)
      refine p_self 120 ?_
      exact L n 0 _ _ (by omega) rfl
    · skip
      refine p_bipush (v := (-2)) k183_21 (by decide) ?_
      refine p_ireturn k183_23 rt_183 ?_
      exact ⟨by unfold onM; first | rw [if_pos c5] | rw [if_neg (by rw [c5]; decide), if_pos c18], I, rfl, AG.refl I⟩
  · skip
    refine p_iconst (v := (-1)) k183_8 (by decide) ?_
    refine p_ireturn k183_9 rt_183 ?_
    exact ⟨by unfold onM; first | rw [if_pos c5] | rw [if_neg (by rw [c5]; decide), if_pos c18], I, rfl, AG.refl I⟩

set_option maxRecDepth 100000 in
set_option maxHeartbeats 4000000 in
theorem M_lasts {d : Nat} {I : Nat → Nat → Int32} {J : Nat → Nat → Int64} {K : Nat → Nat → Option Nat} {h : List xSh} (S : St K h) {nh na dd cb ce : Nat} (M : MI I nh na dd cb ce) (hmu : I 98 33 = nI 9999) (hd9 : dd ≤ 9999) (q : Int32) : EvP (d + 5) 184 0 [(0, .ref (98)), (1, .int (q))] [] (I, J, K, h) (QI (fun x t => x = lasM I nh cb ce q ∧ ∃ I', t = (I', J, K, h) ∧ AG I I')) := by
  have hnh := M.nh
  have hnh6 := M.nh6
  have hna := M.na
  have hna6 := M.na6
  refine p_aload_n k184_0 rfl ?_
  refine p_iload_n k184_1 rfl ?_
  refine p_cV1i k184_2 (s_98 S) c_12_252_12 rfl (Nat.le_of_ble_eq_true rfl) (M_isTrade S (q)) (fun x1 m1 hq => ?_)
  obtain ⟨rfl, rfl⟩ := hq
  refine p_if_neB (tgt := 10) k184_5 (by decide) (fun c5 => ?_) (fun c5 => ?_)
  · skip
    refine p_aload_n k184_10 rfl ?_
    refine p_cV0v k184_11 (s_98 S) c_12_362_12 (Nat.le_of_ble_eq_true rfl) (M_save S) (fun m1 hq => ?_)
    obtain rfl := hq
    refine p_iconst (v := nI 0) k184_14 (by decide) ?_
    refine p_istore_n (ls' := [(0, _), (1, _), (2, _)]) k184_15 rfl ?_
    have L : ∀ (j : Nat) (k : Nat) (g : Nat → Int32), k + j = 31 → lasM I nh cb ce q = optI (-5) (fnd (fun k => decide (todM (dS I nh k) cb ce nh q < workF I cb ce q)) j k) → EvP (d + 5) 184 16 [(0, .ref (98)), (1, .int (q)), (2, .int (nI (k)))] [] (upc (dS I nh k) 120 g, J, K, h) (QI (fun x t => x = lasM I nh cb ce q ∧ ∃ I', t = (I', J, K, h) ∧ AG I I')) := by
      intro j
      induction j with
      | zero =>
        intro k g hk
        intro hs
        refine p_iload_n k184_16 rfl ?_
        refine p_bipush (v := nI 31) k184_17 (by decide) ?_
        refine p_icmp_geN (tgt := 45) k184_19 (by decide) (by omega) (by omega) (fun _ => ?_) (fun c => False.elim (by omega))
        refine p_aload_n k184_45 rfl ?_
        refine p_cV0v k184_46 (s_98 S) c_12_365_12 (Nat.le_of_ble_eq_true rfl) (M_putBack S) (fun m1 hq => ?_)
        obtain rfl := hq
        refine p_iload_n k184_49 rfl ?_
        refine p_bipush (v := nI 31) k184_50 (by decide) ?_
        refine p_icmp_geN (tgt := 59) k184_52 (by decide) (by omega) (by omega) (fun _ => ?_) (fun c => False.elim (by omega))
        refine p_bipush (v := (-5)) k184_59 (by decide) ?_
        refine p_ireturn k184_61 rt_184 ?_
        exact ⟨hs.symm, _, rfl, dS_AG M hmu (n := k) (by omega) g⟩
      | succ j ih =>
        intro k g hk
        intro hs
        refine p_iload_n k184_16 rfl ?_
        refine p_bipush (v := nI 31) k184_17 (by decide) ?_
        refine p_icmp_geN (tgt := 45) k184_19 (by decide) (by omega) (by omega) (fun c => False.elim (by omega)) (fun _ => ?_)
        refine p_aload_n k184_22 rfl ?_
        refine p_iload_n k184_23 rfl ?_
        refine p_cV1i k184_24 (s_98 S) c_12_347_12 rfl (Nat.le_of_ble_eq_true rfl) (M_today S (dS_facts M k (by omega)).1 g q) (fun x1 m1 hq => ?_)
        obtain ⟨rfl, g, rfl⟩ := hq
        refine p_aload_n k184_27 rfl ?_
        refine p_iload_n k184_28 rfl ?_
        refine p_cV1i k184_29 (s_98 S) c_12_344_12 rfl (Nat.le_of_ble_eq_true rfl) (M_work S (((dS_facts M k (by omega)).1.up g).th) q) (fun x1 m1 hq => ?_)
        obtain ⟨rfl, rfl⟩ := hq
        rw [show workF (upc (dS I nh k) 120 g) cb ce q = workF (dS I nh k) cb ce q from rfl, dS_work M (by omega)]
        refine p_icmp_lt (tgt := 45) k184_32 (by decide) (fun c32 => ?_) (fun c32 => ?_)
        · skip
          refine p_aload_n k184_45 rfl ?_
          refine p_cV0v k184_46 (s_98 S) c_12_365_12 (Nat.le_of_ble_eq_true rfl) (M_putBack S) (fun m1 hq => ?_)
          obtain rfl := hq
          refine p_iload_n k184_49 rfl ?_
          refine p_bipush (v := nI 31) k184_50 (by decide) ?_
          refine p_icmp_geN (tgt := 59) k184_52 (by decide) (by omega) (by omega) (fun c => False.elim (by omega)) (fun _ => ?_)
          refine p_iload_n k184_55 rfl ?_
          refine p_goto (tgt := 61) k184_56 (by decide) ?_
          refine p_ireturn k184_61 rt_184 ?_
          exact ⟨by rw [hs, show fnd (fun k => decide (todM (dS I nh k) cb ce nh q < workF I cb ce q)) (j + 1) k = some k from if_pos (by rw [decide_eq_true_iff]; exact c32)]; rfl, _, rfl, dS_AG M hmu (n := k) (by omega) g⟩
        · skip
          refine p_aload_n k184_35 rfl ?_
          refine p_cV0v k184_36 (s_98 S) c_12_351_12 (Nat.le_of_ble_eq_true rfl) (M_goDay S ((dS_facts M k (by omega)).1.up g)) (fun m1 hq => ?_)
          obtain rfl := hq
          rw [goI_up]
          refine p_iincN (ls1 := [(0, _), (1, _), (2, _)]) k184_39 rfl rfl ?_
          refine p_goto (tgt := 16) k184_42 (by decide) ?_
          exact ih (k + 1) g (by omega) (by rw [hs]; congr 1; exact if_neg (by rw [decide_eq_true_iff]; exact c32))
    refine p_self 120 ?_
    exact L 31 0 _ (by omega) (by unfold lasM; rw [if_neg (by rw [c5]; decide)])
  · skip
    refine p_iconst (v := (-1)) k184_8 (by decide) ?_
    refine p_ireturn k184_9 rt_184 ?_
    exact ⟨by unfold lasM; rw [if_pos c5], I, rfl, AG.refl I⟩

