/-! the reference: E, fits, deed, today -/
def remI (x y : Int32) : Int32 := x - x / y * y
/-- the number of a letter -/
def facM (I : Nat → Nat → Int32) (a k : Nat) (f : Nat) : Int32 := match f with
  | 0 => nI a
  | 1 => nI k
  | 2 => I 102 a
  | 3 => I 106 a
  | 4 => remI (I 107 a) (nI 10)
  | _ => remI (I 98 2) (nI 7)
set_option maxRecDepth 100000 in
set_option maxHeartbeats 4000000 in
theorem M_factOf {d : Nat} {I : Nat → Nat → Int32} {J : Nat → Nat → Int64} {K : Nat → Nat → Option Nat} {h : List xSh} (S : St K h) {f a k : Nat} (hf : f < 1000) (ha : a < 6) : EvP d 163 0 [(0, .ref (98)), (1, .int (nI (f))), (2, .int (nI (a))), (3, .int (nI (k)))] [] (I, J, K, h) (QI (fun x t => x = facM I a k f ∧ t = (I, J, K, h))) := by
  refine p_iload_n k163_0 rfl ?_
  rcases (show f = 0 ∨ f = 1 ∨ f = 2 ∨ f = 3 ∨ f = 4 ∨ 5 ≤ f by omega) with rfl | rfl | rfl | rfl | rfl | hf5
  · skip
    refine p_tswI (tgt := 36) k163_1 (by decide) (by decide) (by decide) rfl (by decide) ?_
    refine p_iload_n k163_36 rfl ?_
    refine p_ireturn k163_37 rt_163 ?_
    exact ⟨rfl, rfl⟩
  · skip
    refine p_tswI (tgt := 38) k163_1 (by decide) (by decide) (by decide) rfl (by decide) ?_
    refine p_iload_n k163_38 rfl ?_
    refine p_ireturn k163_39 rt_163 ?_
    exact ⟨rfl, rfl⟩
  · skip
    refine p_tswI (tgt := 40) k163_1 (by decide) (by decide) (by decide) rfl (by decide) ?_
    refine p_aload_n k163_40 rfl ?_
    refine p_getRv k163_41 (s_98 S) f_12_29_12 (r_98_6 S) ?_
    refine p_iload_n k163_44 rfl ?_
    refine p_ialdN k163_45 (s_102 S) (by omega) (by decide) rfl ?_
    refine p_ireturn k163_46 rt_163 ?_
    exact ⟨rfl, rfl⟩
  · skip
    refine p_tswI (tgt := 47) k163_1 (by decide) (by decide) (by decide) rfl (by decide) ?_
    refine p_aload_n k163_47 rfl ?_
    refine p_getRv k163_48 (s_98 S) f_12_41_12 (r_98_10 S) ?_
    refine p_iload_n k163_51 rfl ?_
    refine p_ialdN k163_52 (s_106 S) (by omega) (by decide) rfl ?_
    refine p_ireturn k163_53 rt_163 ?_
    exact ⟨rfl, rfl⟩
  · skip
    refine p_tswI (tgt := 54) k163_1 (by decide) (by decide) (by decide) rfl (by decide) ?_
    refine p_aload_n k163_54 rfl ?_
    refine p_getRv k163_55 (s_98 S) f_12_44_12 (r_98_11 S) ?_
    refine p_iload_n k163_58 rfl ?_
    refine p_ialdN k163_59 (s_107 S) (by omega) (by decide) rfl ?_
    refine p_bipush (v := nI 10) k163_60 (by decide) ?_
    refine p_irem k163_62 (by decide) ?_
    refine p_ireturn k163_63 rt_163 ?_
    exact ⟨rfl, rfl⟩
  · skip
    refine p_tswO (tgt := 64) k163_1 (by omega) (by omega) (by decide) ?_
    refine p_aload_n k163_64 rfl ?_
    refine p_getIv k163_65 (s_98 S) f_12_16_12 rfl ?_
    refine p_bipush (v := nI 7) k163_68 (by decide) ?_
    refine p_irem k163_70 (by decide) ?_
    refine p_ireturn k163_71 rt_163 ?_
    exact ⟨by unfold facM remI; split <;> first | rfl | omega, rfl⟩

/-- a test: letter, sign, number in one -/
def tstV (fac : Nat → Int32) (v : Nat) : Bool := if v / 100 % 10 = 0 then decide (fac (v / 1000) < nI (v % 100)) else if v / 100 % 10 = 1 then decide (fac (v / 1000) = nI (v % 100)) else decide (nI (v % 100) < fac (v / 1000))
def tokOK (t : Int32) : Prop := t = -33 ∨ t = -38 ∨ t = -124 ∨ ∃ v, v < 6000 ∧ t = nI v
/-- one token over a row of truth values, the latest first -/
def stp (tst : Nat → Bool) (t : Int32) (st : List Bool) : Option (List Bool) :=
  if t = -33 then (match st with
    | b :: r => some ((!b) :: r)
    | [] => none)
  else if t < 0 then (match st with
    | b2 :: b1 :: r => some ((if t = -38 then b1 && b2 else b1 || b2) :: r)
    | _ => none)
  else some (tst t.toNatClampNeg :: st)
def evs (sg : Nat → Int32) (tst : Nat → Bool) : Nat → Nat → List Bool → Option (List Bool)
  | 0, _, st => some st
  | j + 1, k, st => match stp tst (sg k) st with
    | none => none
    | some st1 => evs sg tst j (k + 1) st1
def evB (sg : Nat → Int32) (tst : Nat → Bool) (f0 f1 : Nat) : Bool := match evs sg tst (f1 - f0) f0 [] with
  | some (b :: _) => b
  | _ => false
/-- what the row of places holds of a row of truth values -/
def pk (g : Nat → Int32) : List Bool → Prop
  | [] => True
  | b :: r => g r.length = bI b ∧ pk g r
theorem pk_up {g : Nat → Int32} {n : Nat} {x : Int32} : ∀ {st : List Bool}, st.length ≤ n → pk g st → pk (upc g n x) st := by
  intro st
  induction st with
  | nil => intro _ _; trivial
  | cons b r ih =>
    intro h1 h2
    have h3 : r.length + 1 ≤ n := h1
    exact ⟨by rw [upc_ne _ _ (by omega)]; exact h2.1, ih (by omega) h2.2⟩
theorem bI_inj {a b : Bool} (h : bI a = bI b) : a = b := by cases a <;> cases b <;> first | rfl | exact absurd h (by decide)
theorem m33 : ∀ {v : Nat}, v < 6000 → nI v ≠ -33 := fun h => nI_neg (by omega) (by decide)
theorem m0 {v : Nat} (h : v < 6000) : ¬ nI v < 0 := by rw [i_lt, nI_t (by omega)]; show ¬ (v : Int) < 0; omega
/-- a token's step on the row of places: the top two become one, or the top one another, or one comes -/
theorem pk_set1 {g : Nat → Int32} {b c : Bool} {r : List Bool} {m : Nat} (hm : r.length = m) (h : pk g (b :: r)) : pk (upc g m (bI c)) (c :: r) := ⟨by rw [hm]; exact upc_eq _ _ _, pk_up (by omega) h.2⟩
theorem pk_set2 {g : Nat → Int32} {b2 b1 c : Bool} {r : List Bool} {m : Nat} (hm : r.length = m) (h : pk g (b2 :: b1 :: r)) : pk (upc g m (bI c)) (c :: r) := pk_set1 hm h.2
theorem pk_push {g : Nat → Int32} {c : Bool} {r : List Bool} {m : Nat} (hm : r.length = m) (h : pk g r) : pk (upc g m (bI c)) (c :: r) := ⟨by rw [hm]; exact upc_eq _ _ _, pk_up (by omega) h⟩
theorem evs_not {sg : Nat → Int32} {tst : Nat → Bool} {j k : Nat} {st z : List Bool} (ht : sg k = -33) (h : evs sg tst (j + 1) k st = some z) : ∃ b r, st = b :: r ∧ evs sg tst j (k + 1) ((!b) :: r) = some z := by
  unfold evs at h
  rw [ht] at h
  cases st with
  | nil => cases h
  | cons b r => exact ⟨b, r, rfl, h⟩
theorem evs_and {sg : Nat → Int32} {tst : Nat → Bool} {j k : Nat} {st z : List Bool} (ht : sg k = -38) (h : evs sg tst (j + 1) k st = some z) : ∃ b2 b1 r, st = b2 :: b1 :: r ∧ evs sg tst j (k + 1) ((b1 && b2) :: r) = some z := by
  unfold evs at h
  rw [ht] at h
  match st, h with
  | [], h => cases h
  | [_], h => cases h
  | b2 :: b1 :: r, h => exact ⟨b2, b1, r, rfl, h⟩
theorem evs_or {sg : Nat → Int32} {tst : Nat → Bool} {j k : Nat} {st z : List Bool} (ht : sg k = -124) (h : evs sg tst (j + 1) k st = some z) : ∃ b2 b1 r, st = b2 :: b1 :: r ∧ evs sg tst j (k + 1) ((b1 || b2) :: r) = some z := by
  unfold evs at h
  rw [ht] at h
  match st, h with
  | [], h => cases h
  | [_], h => cases h
  | b2 :: b1 :: r, h => exact ⟨b2, b1, r, rfl, h⟩
theorem evs_v {sg : Nat → Int32} {tst : Nat → Bool} {j k v : Nat} {st z : List Bool} (hv : v < 6000) (ht : sg k = nI v) (h : evs sg tst (j + 1) k st = some z) : evs sg tst j (k + 1) (tst v :: st) = some z := by
  unfold evs at h
  rw [ht, show stp tst (nI v) st = some (tst v :: st) from by unfold stp; rw [if_neg (m33 hv), if_neg (m0 hv), nI_clamp (by omega)]] at h
  exact h
theorem facM_upc {I : Nat → Nat → Int32} {g : Nat → Int32} : facM (upc I 120 g) = facM I := by
  funext a k f
  unfold facM
  split <;> rfl
set_option maxRecDepth 100000 in
set_option maxHeartbeats 4000000 in
theorem M_holds {d : Nat} {I : Nat → Nat → Int32} {J : Nat → Nat → Int64} {K : Nat → Nat → Option Nat} {h : List xSh} (S : St K h) {c f0 f1 a hh : Nat} (hc : c < 60) (hf0 : I 115 c = nI f0) (hf1 : I 116 c = nI f1) (h01 : f0 ≤ f1) (h16 : f1 ≤ 600) (h17 : f1 ≤ f0 + 100) (ha : a < 6) (htok : ∀ k, f0 ≤ k → k < f1 → tokOK (I 117 k)) {b0 : Bool} (hev0 : evs (I 117) (tstV (facM I a hh)) (f1 - f0) f0 [] = some [b0]) : EvP (d + 1) 164 0 [(0, .ref (98)), (1, .int (nI (c))), (2, .int (nI (a))), (3, .int (nI (hh)))] [] (I, J, K, h) (QI (fun x t => x = bI b0 ∧ ∃ g, t = (upc I 120 g, J, K, h))) := by
  refine p_iconst (v := nI 0) k164_0 (by decide) ?_
  refine p_istore (ls' := [(0, _), (1, _), (2, _), (3, _), (4, _)]) k164_1 rfl ?_
  refine p_aload_n k164_3 rfl ?_
  refine p_getRv k164_4 (s_98 S) f_12_83_12 (r_98_24 S) ?_
  refine p_iload_n k164_7 rfl ?_
  refine p_ialdN k164_8 (s_115 S) (by omega) (by decide) hf0 ?_
  refine p_istore (ls' := [(0, _), (1, _), (2, _), (3, _), (4, _), (5, _)]) k164_9 rfl ?_
  have L : ∀ (j : Nat) (k n : Nat) (st : List Bool) (g : Nat → Int32), k + j = f1 → f0 ≤ k → st.length = n → n ≤ k - f0 → pk g st → evs (I 117) (tstV (facM I a hh)) j k st = some [b0] → EvP (d + 1) 164 11 [(0, .ref (98)), (1, .int (nI (c))), (2, .int (nI (a))), (3, .int (nI (hh))), (4, .int (nI (n))), (5, .int (nI (k)))] [] (upc I 120 g, J, K, h) (QI (fun x t => x = bI b0 ∧ ∃ g, t = (upc I 120 g, J, K, h))) := by
    intro j
    induction j with
    | zero =>
      intro k n st g hk
      intro hk0 hn hnk hp hev
      simp only [evs, Option.some.injEq] at hev
      subst hev
      have hp0 : g 0 = bI b0 := hp.1
      refine p_iload k164_11 rfl ?_
      refine p_aload_n k164_13 rfl ?_
      refine p_getRv k164_14 (s_98 S) f_12_86_12 (r_98_25 S) ?_
      refine p_iload_n k164_17 rfl ?_
      refine p_ialdN k164_18 (s_116 S) (by omega) (by decide) hf1 ?_
      refine p_icmp_geN (tgt := 253) k164_19 (by decide) (by omega) (by omega) (fun _ => ?_) (fun c => False.elim (by omega))
      refine p_aload_n k164_253 rfl ?_
      refine p_getRv k164_254 (s_98 S) f_12_107_12 (r_98_32 S) ?_
      refine p_iconst (v := nI 0) k164_257 (by decide) ?_
      refine p_zaldN k164_258 (s_120 S) (by omega) (by decide) hp0 ?_
      refine p_returnB k164_259 rt_164 ?_
      exact ⟨rfl, g, rfl⟩
    | succ j ih =>
      intro k n st g hk
      intro hk0 hn hnk hp hev
      rcases htok k (by omega) (by omega) with ht9 | ht9 | ht9 | ⟨v, hv9, ht9⟩
      · skip
        have hE := evs_not ht9 hev
        clear hev
        obtain ⟨bb, rr, rfl, hev⟩ := hE
        have hn1 : n = rr.length + 1 := hn.symm
        subst hn1
        have hgm : g (rr.length + 1 - 1) = bI bb := hp.1
        refine p_iload k164_11 rfl ?_
        refine p_aload_n k164_13 rfl ?_
        refine p_getRv k164_14 (s_98 S) f_12_86_12 (r_98_25 S) ?_
        refine p_iload_n k164_17 rfl ?_
        refine p_ialdN k164_18 (s_116 S) (by omega) (by decide) hf1 ?_
        refine p_icmp_geN (tgt := 253) k164_19 (by decide) (by omega) (by omega) (fun c => False.elim (by omega)) (fun _ => ?_)
        refine p_aload_n k164_22 rfl ?_
        refine p_getRv k164_23 (s_98 S) f_12_89_12 (r_98_26 S) ?_
        refine p_iload k164_26 rfl ?_
        refine p_ialdN k164_28 (s_117 S) (by omega) (by decide) ht9 ?_
        refine p_istore (ls' := [(0, _), (1, _), (2, _), (3, _), (4, _), (5, _), (6, _)]) k164_29 rfl ?_
        refine p_iload k164_31 rfl ?_
        refine p_bipush (v := (-33)) k164_33 (by decide) ?_
        refine p_icmp_ne (tgt := 67) k164_35 (by decide) (fun c => False.elim (by exact c rfl)) (fun _ => ?_)
        refine p_aload_n k164_38 rfl ?_
        refine p_getRv k164_39 (s_98 S) f_12_107_12 (r_98_32 S) ?_
        refine p_iload k164_42 rfl ?_
        refine p_iconst (v := nI 1) k164_44 (by decide) ?_
        refine p_isubN (by omega) k164_45 ?_
        refine p_aload_n k164_46 rfl ?_
        refine p_getRv k164_47 (s_98 S) f_12_107_12 (r_98_32 S) ?_
        refine p_iload k164_50 rfl ?_
        refine p_iconst (v := nI 1) k164_52 (by decide) ?_
        refine p_isubN (by omega) k164_53 ?_
        refine p_zaldN k164_54 (s_120 S) (by omega) (by decide) hgm ?_
        refine p_if_neB (tgt := 62) k164_55 (by decide) (fun c55 => ?_) (fun c55 => ?_)
        · skip
          subst c55
          refine p_iconst (v := bI false) k164_62 (by decide) ?_
          refine p_zastN k164_63 (s_120 S) (by omega) (by decide) ?_
          refine p_goto (tgt := 247) k164_64 (by decide) ?_
          refine p_iincN (ls1 := [(0, _), (1, _), (2, _), (3, _), (4, _), (5, _), (6, _)]) k164_247 rfl rfl ?_
          refine p_goto (tgt := 11) k164_250 (by decide) ?_
          refine p_drop [0, 1, 2, 3, 4, 5] rfl ?_
          try rw [Nat.add_sub_cancel]
          rw [upc_uu, upc_eq]
          exact ih (k + 1) (rr.length + 1) (_ :: rr) _ (by omega) (by omega) (by first | (simp; done) | (simp; exact hn)) (by omega) (pk_set1 rfl hp) hev
        · skip
          subst c55
          refine p_iconst (v := bI true) k164_58 (by decide) ?_
          refine p_goto (tgt := 63) k164_59 (by decide) ?_
          refine p_zastN k164_63 (s_120 S) (by omega) (by decide) ?_
          refine p_goto (tgt := 247) k164_64 (by decide) ?_
          refine p_iincN (ls1 := [(0, _), (1, _), (2, _), (3, _), (4, _), (5, _), (6, _)]) k164_247 rfl rfl ?_
          refine p_goto (tgt := 11) k164_250 (by decide) ?_
          refine p_drop [0, 1, 2, 3, 4, 5] rfl ?_
          try rw [Nat.add_sub_cancel]
          rw [upc_uu, upc_eq]
          exact ih (k + 1) (rr.length + 1) (_ :: rr) _ (by omega) (by omega) (by first | (simp; done) | (simp; exact hn)) (by omega) (pk_set1 rfl hp) hev
      · skip
        have hE := evs_and ht9 hev
        clear hev
        obtain ⟨b2, b1, rr, rfl, hev⟩ := hE
        have hn1 : n = rr.length + 1 + 1 := hn.symm
        subst hn1
        have hg1 : g (rr.length + 1 - 1) = bI b1 := hp.2.1
        have hg2 : g (rr.length + 1) = bI b2 := hp.1
        refine p_iload k164_11 rfl ?_
        refine p_aload_n k164_13 rfl ?_
        refine p_getRv k164_14 (s_98 S) f_12_86_12 (r_98_25 S) ?_
        refine p_iload_n k164_17 rfl ?_
        refine p_ialdN k164_18 (s_116 S) (by omega) (by decide) hf1 ?_
        refine p_icmp_geN (tgt := 253) k164_19 (by decide) (by omega) (by omega) (fun c => False.elim (by omega)) (fun _ => ?_)
        refine p_aload_n k164_22 rfl ?_
        refine p_getRv k164_23 (s_98 S) f_12_89_12 (r_98_26 S) ?_
        refine p_iload k164_26 rfl ?_
        refine p_ialdN k164_28 (s_117 S) (by omega) (by decide) ht9 ?_
        refine p_istore (ls' := [(0, _), (1, _), (2, _), (3, _), (4, _), (5, _), (6, _)]) k164_29 rfl ?_
        refine p_iload k164_31 rfl ?_
        refine p_bipush (v := (-33)) k164_33 (by decide) ?_
        refine p_icmp_ne (tgt := 67) k164_35 (by decide) (fun _ => ?_) (fun c => False.elim (by exact absurd c (by decide)))
        refine p_iload k164_67 rfl ?_
        refine p_if_ge (tgt := 151) k164_69 (by decide) (fun c => False.elim (by exact absurd c (by decide))) (fun _ => ?_)
        refine p_iincD (ls1 := [(0, _), (1, _), (2, _), (3, _), (4, _), (5, _), (6, _)]) k164_72 rfl rfl ?_
        refine p_aload_n k164_75 rfl ?_
        refine p_getRv k164_76 (s_98 S) f_12_107_12 (r_98_32 S) ?_
        refine p_iload k164_79 rfl ?_
        refine p_iconst (v := nI 1) k164_81 (by decide) ?_
        refine p_isubN (by omega) k164_82 ?_
        refine p_iload k164_83 rfl ?_
        refine p_bipush (v := (-38)) k164_85 (by decide) ?_
        refine p_icmp_ne (tgt := 120) k164_87 (by decide) (fun c => False.elim (by exact c rfl)) (fun _ => ?_)
        refine p_aload_n k164_90 rfl ?_
        refine p_getRv k164_91 (s_98 S) f_12_107_12 (r_98_32 S) ?_
        refine p_iload k164_94 rfl ?_
        refine p_iconst (v := nI 1) k164_96 (by decide) ?_
        refine p_isubN (by omega) k164_97 ?_
        refine p_zaldN k164_98 (s_120 S) (by omega) (by decide) hg1 ?_
        refine p_if_eqB (tgt := 116) k164_99 (by decide) (fun c99 => ?_) (fun c99 => ?_)
        · skip
          first | (subst c99; subst c109) | subst c99
          try rw [Bool.false_and] at hev
          try rw [Bool.true_and] at hev
          refine p_iconst (v := bI false) k164_116 (by decide) ?_
          refine p_goto (tgt := 147) k164_117 (by decide) ?_
          refine p_zastN k164_147 (s_120 S) (by omega) (by decide) ?_
          refine p_goto (tgt := 247) k164_148 (by decide) ?_
          refine p_iincN (ls1 := [(0, _), (1, _), (2, _), (3, _), (4, _), (5, _), (6, _)]) k164_247 rfl rfl ?_
          refine p_goto (tgt := 11) k164_250 (by decide) ?_
          refine p_drop [0, 1, 2, 3, 4, 5] rfl ?_
          try rw [Nat.add_sub_cancel]
          rw [upc_uu, upc_eq]
          exact ih (k + 1) (rr.length + 1) (_ :: rr) _ (by omega) (by omega) (by first | (simp; done) | (simp; exact hn)) (by omega) (pk_set2 rfl hp) hev
        · skip
          refine p_aload_n k164_102 rfl ?_
          refine p_getRv k164_103 (s_98 S) f_12_107_12 (r_98_32 S) ?_
          refine p_iload k164_106 rfl ?_
          refine p_zaldN k164_108 (s_120 S) (by omega) (by decide) hg2 ?_
          refine p_if_eqB (tgt := 116) k164_109 (by decide) (fun c109 => ?_) (fun c109 => ?_)
          · skip
            first | (subst c99; subst c109) | subst c99
            try rw [Bool.false_and] at hev
            try rw [Bool.true_and] at hev
            refine p_iconst (v := bI false) k164_116 (by decide) ?_
            refine p_goto (tgt := 147) k164_117 (by decide) ?_
            refine p_zastN k164_147 (s_120 S) (by omega) (by decide) ?_
            refine p_goto (tgt := 247) k164_148 (by decide) ?_
            refine p_iincN (ls1 := [(0, _), (1, _), (2, _), (3, _), (4, _), (5, _), (6, _)]) k164_247 rfl rfl ?_
            refine p_goto (tgt := 11) k164_250 (by decide) ?_
            refine p_drop [0, 1, 2, 3, 4, 5] rfl ?_
            try rw [Nat.add_sub_cancel]
            rw [upc_uu, upc_eq]
            exact ih (k + 1) (rr.length + 1) (_ :: rr) _ (by omega) (by omega) (by first | (simp; done) | (simp; exact hn)) (by omega) (pk_set2 rfl hp) hev
          · skip
            subst c99
            subst c109
            refine p_iconst (v := bI true) k164_112 (by decide) ?_
            refine p_goto (tgt := 147) k164_113 (by decide) ?_
            refine p_zastN k164_147 (s_120 S) (by omega) (by decide) ?_
            refine p_goto (tgt := 247) k164_148 (by decide) ?_
            refine p_iincN (ls1 := [(0, _), (1, _), (2, _), (3, _), (4, _), (5, _), (6, _)]) k164_247 rfl rfl ?_
            refine p_goto (tgt := 11) k164_250 (by decide) ?_
            refine p_drop [0, 1, 2, 3, 4, 5] rfl ?_
            try rw [Nat.add_sub_cancel]
            rw [upc_uu, upc_eq]
            exact ih (k + 1) (rr.length + 1) (_ :: rr) _ (by omega) (by omega) (by first | (simp; done) | (simp; exact hn)) (by omega) (pk_set2 rfl hp) hev
      · skip
        have hE := evs_or ht9 hev
        clear hev
        obtain ⟨b2, b1, rr, rfl, hev⟩ := hE
        have hn1 : n = rr.length + 1 + 1 := hn.symm
        subst hn1
        have hg1 : g (rr.length + 1 - 1) = bI b1 := hp.2.1
        have hg2 : g (rr.length + 1) = bI b2 := hp.1
        refine p_iload k164_11 rfl ?_
        refine p_aload_n k164_13 rfl ?_
        refine p_getRv k164_14 (s_98 S) f_12_86_12 (r_98_25 S) ?_
        refine p_iload_n k164_17 rfl ?_
        refine p_ialdN k164_18 (s_116 S) (by omega) (by decide) hf1 ?_
        refine p_icmp_geN (tgt := 253) k164_19 (by decide) (by omega) (by omega) (fun c => False.elim (by omega)) (fun _ => ?_)
        refine p_aload_n k164_22 rfl ?_
        refine p_getRv k164_23 (s_98 S) f_12_89_12 (r_98_26 S) ?_
        refine p_iload k164_26 rfl ?_
        refine p_ialdN k164_28 (s_117 S) (by omega) (by decide) ht9 ?_
        refine p_istore (ls' := [(0, _), (1, _), (2, _), (3, _), (4, _), (5, _), (6, _)]) k164_29 rfl ?_
        refine p_iload k164_31 rfl ?_
        refine p_bipush (v := (-33)) k164_33 (by decide) ?_
        refine p_icmp_ne (tgt := 67) k164_35 (by decide) (fun _ => ?_) (fun c => False.elim (by exact absurd c (by decide)))
        refine p_iload k164_67 rfl ?_
        refine p_if_ge (tgt := 151) k164_69 (by decide) (fun c => False.elim (by exact absurd c (by decide))) (fun _ => ?_)
        refine p_iincD (ls1 := [(0, _), (1, _), (2, _), (3, _), (4, _), (5, _), (6, _)]) k164_72 rfl rfl ?_
        refine p_aload_n k164_75 rfl ?_
        refine p_getRv k164_76 (s_98 S) f_12_107_12 (r_98_32 S) ?_
        refine p_iload k164_79 rfl ?_
        refine p_iconst (v := nI 1) k164_81 (by decide) ?_
        refine p_isubN (by omega) k164_82 ?_
        refine p_iload k164_83 rfl ?_
        refine p_bipush (v := (-38)) k164_85 (by decide) ?_
        refine p_icmp_ne (tgt := 120) k164_87 (by decide) (fun _ => ?_) (fun c => False.elim (by exact absurd c (by decide)))
        refine p_aload_n k164_120 rfl ?_
        refine p_getRv k164_121 (s_98 S) f_12_107_12 (r_98_32 S) ?_
        refine p_iload k164_124 rfl ?_
        refine p_iconst (v := nI 1) k164_126 (by decide) ?_
        refine p_isubN (by omega) k164_127 ?_
        refine p_zaldN k164_128 (s_120 S) (by omega) (by decide) hg1 ?_
        refine p_if_neB (tgt := 142) k164_129 (by decide) (fun c129 => ?_) (fun c129 => ?_)
        · skip
          first | (subst c129; subst c139) | subst c129
          try rw [Bool.true_or] at hev
          try rw [Bool.false_or] at hev
          refine p_iconst (v := bI true) k164_142 (by decide) ?_
          refine p_goto (tgt := 147) k164_143 (by decide) ?_
          refine p_zastN k164_147 (s_120 S) (by omega) (by decide) ?_
          refine p_goto (tgt := 247) k164_148 (by decide) ?_
          refine p_iincN (ls1 := [(0, _), (1, _), (2, _), (3, _), (4, _), (5, _), (6, _)]) k164_247 rfl rfl ?_
          refine p_goto (tgt := 11) k164_250 (by decide) ?_
          refine p_drop [0, 1, 2, 3, 4, 5] rfl ?_
          try rw [Nat.add_sub_cancel]
          rw [upc_uu, upc_eq]
          exact ih (k + 1) (rr.length + 1) (_ :: rr) _ (by omega) (by omega) (by first | (simp; done) | (simp; exact hn)) (by omega) (pk_set2 rfl hp) hev
        · skip
          refine p_aload_n k164_132 rfl ?_
          refine p_getRv k164_133 (s_98 S) f_12_107_12 (r_98_32 S) ?_
          refine p_iload k164_136 rfl ?_
          refine p_zaldN k164_138 (s_120 S) (by omega) (by decide) hg2 ?_
          refine p_if_eqB (tgt := 146) k164_139 (by decide) (fun c139 => ?_) (fun c139 => ?_)
          · skip
            subst c129
            subst c139
            refine p_iconst (v := bI false) k164_146 (by decide) ?_
            refine p_zastN k164_147 (s_120 S) (by omega) (by decide) ?_
            refine p_goto (tgt := 247) k164_148 (by decide) ?_
            refine p_iincN (ls1 := [(0, _), (1, _), (2, _), (3, _), (4, _), (5, _), (6, _)]) k164_247 rfl rfl ?_
            refine p_goto (tgt := 11) k164_250 (by decide) ?_
            refine p_drop [0, 1, 2, 3, 4, 5] rfl ?_
            try rw [Nat.add_sub_cancel]
            rw [upc_uu, upc_eq]
            exact ih (k + 1) (rr.length + 1) (_ :: rr) _ (by omega) (by omega) (by first | (simp; done) | (simp; exact hn)) (by omega) (pk_set2 rfl hp) hev
          · skip
            first | (subst c129; subst c139) | subst c129
            try rw [Bool.true_or] at hev
            try rw [Bool.false_or] at hev
            refine p_iconst (v := bI true) k164_142 (by decide) ?_
            refine p_goto (tgt := 147) k164_143 (by decide) ?_
            refine p_zastN k164_147 (s_120 S) (by omega) (by decide) ?_
            refine p_goto (tgt := 247) k164_148 (by decide) ?_
            refine p_iincN (ls1 := [(0, _), (1, _), (2, _), (3, _), (4, _), (5, _), (6, _)]) k164_247 rfl rfl ?_
            refine p_goto (tgt := 11) k164_250 (by decide) ?_
            refine p_drop [0, 1, 2, 3, 4, 5] rfl ?_
            try rw [Nat.add_sub_cancel]
            rw [upc_uu, upc_eq]
            exact ih (k + 1) (rr.length + 1) (_ :: rr) _ (by omega) (by omega) (by first | (simp; done) | (simp; exact hn)) (by omega) (pk_set2 rfl hp) hev
      · skip
        replace hev := evs_v hv9 ht9 hev
        have hvm : v % 100 < 100 := Nat.mod_lt _ (by decide)
        have hvm2 : v / 100 % 10 < 10 := Nat.mod_lt _ (by decide)
        refine p_iload k164_11 rfl ?_
        refine p_aload_n k164_13 rfl ?_
        refine p_getRv k164_14 (s_98 S) f_12_86_12 (r_98_25 S) ?_
        refine p_iload_n k164_17 rfl ?_
        refine p_ialdN k164_18 (s_116 S) (by omega) (by decide) hf1 ?_
        refine p_icmp_geN (tgt := 253) k164_19 (by decide) (by omega) (by omega) (fun c => False.elim (by omega)) (fun _ => ?_)
        refine p_aload_n k164_22 rfl ?_
        refine p_getRv k164_23 (s_98 S) f_12_89_12 (r_98_26 S) ?_
        refine p_iload k164_26 rfl ?_
        refine p_ialdN k164_28 (s_117 S) (by omega) (by decide) ht9 ?_
        refine p_istore (ls' := [(0, _), (1, _), (2, _), (3, _), (4, _), (5, _), (6, _)]) k164_29 rfl ?_
        refine p_iload k164_31 rfl ?_
        refine p_bipush (v := (-33)) k164_33 (by decide) ?_
        refine p_icmp_ne (tgt := 67) k164_35 (by decide) (fun _ => ?_) (fun c => False.elim (by exact m33 hv9 c))
        refine p_iload k164_67 rfl ?_
        refine p_if_geN (tgt := 151) k164_69 (by decide) (by omega) ?_
        refine p_aload_n k164_151 rfl ?_
        refine p_iload k164_152 rfl ?_
        refine p_sipush (v := nI 1000) k164_154 (by decide) ?_
        refine p_idivN (by omega) (by omega) (by omega) k164_157 ?_
        refine p_iload_n k164_158 rfl ?_
        refine p_iload_n k164_159 rfl ?_
        refine p_cV3i k164_160 (s_98 S) c_12_321_12 rfl rfl rfl (Nat.le_of_ble_eq_true rfl) (M_factOf S (f := v / 1000) (a := a) (k := hh) (by omega) ha) (fun x1 m1 hq => ?_)
        rw [facM_upc] at hq
        obtain ⟨rfl, rfl⟩ := hq
        refine p_istore (ls' := [(0, _), (1, _), (2, _), (3, _), (4, _), (5, _), (6, _), (7, _)]) k164_163 rfl ?_
        refine p_iload k164_165 rfl ?_
        refine p_bipush (v := nI 100) k164_167 (by decide) ?_
        refine p_idivN (by omega) (by omega) (by omega) k164_169 ?_
        refine p_bipush (v := nI 10) k164_170 (by decide) ?_
        refine p_iremN (by omega) (by omega) (by omega) k164_172 ?_
        refine p_istore (ls' := [(0, _), (1, _), (2, _), (3, _), (4, _), (5, _), (6, _), (7, _), (8, _)]) k164_173 rfl ?_
        refine p_aload_n k164_175 rfl ?_
        refine p_getRv k164_176 (s_98 S) f_12_107_12 (r_98_32 S) ?_
        refine p_iload k164_179 rfl ?_
        refine p_iload k164_181 rfl ?_
        refine p_if_neN (tgt := 204) k164_183 (by decide) (by omega) (fun c183 => ?_) (fun c183 => ?_)
        · skip
          refine p_iload k164_204 rfl ?_
          refine p_iconst (v := nI 1) k164_206 (by decide) ?_
          refine p_icmp_neN (tgt := 228) k164_207 (by decide) (by omega) (by omega) (fun c207 => ?_) (fun c207 => ?_)
          · skip
            refine p_iload k164_228 rfl ?_
            refine p_iload k164_230 rfl ?_
            refine p_bipush (v := nI 100) k164_232 (by decide) ?_
            refine p_iremN (by omega) (by omega) (by omega) k164_234 ?_
            refine p_icmp_le (tgt := 242) k164_235 (by decide) (fun c235 => ?_) (fun c235 => ?_)
            · skip
              have ev9 : tstV (facM I a hh) v = false := by
                unfold tstV
                rw [if_neg c183, if_neg c207]; exact decide_eq_false (by rw [i_lt]; rw [i_le] at c235; omega)
              rw [ev9] at hev
              refine p_iconst (v := bI false) k164_242 (by decide) ?_
              refine p_zastN k164_243 (s_120 S) (by omega) (by decide) ?_
              refine p_iincN (ls1 := [(0, _), (1, _), (2, _), (3, _), (4, _), (5, _), (6, _), (7, _), (8, _)]) k164_244 rfl rfl ?_
              refine p_iincN (ls1 := [(0, _), (1, _), (2, _), (3, _), (4, _), (5, _), (6, _), (7, _), (8, _)]) k164_247 rfl rfl ?_
              refine p_goto (tgt := 11) k164_250 (by decide) ?_
              refine p_drop [0, 1, 2, 3, 4, 5] rfl ?_
              try rw [Nat.add_sub_cancel]
              rw [upc_uu, upc_eq]
              exact ih (k + 1) (n + 1) (_ :: st) _ (by omega) (by omega) (by first | (simp; done) | (simp; exact hn)) (by omega) (pk_push hn hp) hev
            · skip
              have ev9 : tstV (facM I a hh) v = true := by
                unfold tstV
                rw [if_neg c183, if_neg c207]; exact decide_eq_true (by rw [i_lt]; rw [i_le] at c235; omega)
              rw [ev9] at hev
              refine p_iconst (v := bI true) k164_238 (by decide) ?_
              refine p_goto (tgt := 243) k164_239 (by decide) ?_
              refine p_zastN k164_243 (s_120 S) (by omega) (by decide) ?_
              refine p_iincN (ls1 := [(0, _), (1, _), (2, _), (3, _), (4, _), (5, _), (6, _), (7, _), (8, _)]) k164_244 rfl rfl ?_
              refine p_iincN (ls1 := [(0, _), (1, _), (2, _), (3, _), (4, _), (5, _), (6, _), (7, _), (8, _)]) k164_247 rfl rfl ?_
              refine p_goto (tgt := 11) k164_250 (by decide) ?_
              refine p_drop [0, 1, 2, 3, 4, 5] rfl ?_
              try rw [Nat.add_sub_cancel]
              rw [upc_uu, upc_eq]
              exact ih (k + 1) (n + 1) (_ :: st) _ (by omega) (by omega) (by first | (simp; done) | (simp; exact hn)) (by omega) (pk_push hn hp) hev
          · skip
            refine p_iload k164_210 rfl ?_
            refine p_iload k164_212 rfl ?_
            refine p_bipush (v := nI 100) k164_214 (by decide) ?_
            refine p_iremN (by omega) (by omega) (by omega) k164_216 ?_
            refine p_icmp_ne (tgt := 224) k164_217 (by decide) (fun c217 => ?_) (fun c217 => ?_)
            · skip
              have ev9 : tstV (facM I a hh) v = false := by
                unfold tstV
                rw [if_neg c183, if_pos c207]; exact decide_eq_false c217
              rw [ev9] at hev
              refine p_iconst (v := bI false) k164_224 (by decide) ?_
              refine p_goto (tgt := 243) k164_225 (by decide) ?_
              refine p_zastN k164_243 (s_120 S) (by omega) (by decide) ?_
              refine p_iincN (ls1 := [(0, _), (1, _), (2, _), (3, _), (4, _), (5, _), (6, _), (7, _), (8, _)]) k164_244 rfl rfl ?_
              refine p_iincN (ls1 := [(0, _), (1, _), (2, _), (3, _), (4, _), (5, _), (6, _), (7, _), (8, _)]) k164_247 rfl rfl ?_
              refine p_goto (tgt := 11) k164_250 (by decide) ?_
              refine p_drop [0, 1, 2, 3, 4, 5] rfl ?_
              try rw [Nat.add_sub_cancel]
              rw [upc_uu, upc_eq]
              exact ih (k + 1) (n + 1) (_ :: st) _ (by omega) (by omega) (by first | (simp; done) | (simp; exact hn)) (by omega) (pk_push hn hp) hev
            · skip
              have ev9 : tstV (facM I a hh) v = true := by
                unfold tstV
                rw [if_neg c183, if_pos c207]; exact decide_eq_true c217
              rw [ev9] at hev
              refine p_iconst (v := bI true) k164_220 (by decide) ?_
              refine p_goto (tgt := 243) k164_221 (by decide) ?_
              refine p_zastN k164_243 (s_120 S) (by omega) (by decide) ?_
              refine p_iincN (ls1 := [(0, _), (1, _), (2, _), (3, _), (4, _), (5, _), (6, _), (7, _), (8, _)]) k164_244 rfl rfl ?_
              refine p_iincN (ls1 := [(0, _), (1, _), (2, _), (3, _), (4, _), (5, _), (6, _), (7, _), (8, _)]) k164_247 rfl rfl ?_
              refine p_goto (tgt := 11) k164_250 (by decide) ?_
              refine p_drop [0, 1, 2, 3, 4, 5] rfl ?_
              try rw [Nat.add_sub_cancel]
              rw [upc_uu, upc_eq]
              exact ih (k + 1) (n + 1) (_ :: st) _ (by omega) (by omega) (by first | (simp; done) | (simp; exact hn)) (by omega) (pk_push hn hp) hev
        · skip
          refine p_iload k164_186 rfl ?_
          refine p_iload k164_188 rfl ?_
          refine p_bipush (v := nI 100) k164_190 (by decide) ?_
          refine p_iremN (by omega) (by omega) (by omega) k164_192 ?_
          refine p_icmp_ge (tgt := 200) k164_193 (by decide) (fun c193 => ?_) (fun c193 => ?_)
          · skip
            have ev9 : tstV (facM I a hh) v = false := by
              unfold tstV
              rw [if_pos c183]; exact decide_eq_false (by rw [i_lt]; rw [i_le] at c193; omega)
            rw [ev9] at hev
            refine p_iconst (v := bI false) k164_200 (by decide) ?_
            refine p_goto (tgt := 243) k164_201 (by decide) ?_
            refine p_zastN k164_243 (s_120 S) (by omega) (by decide) ?_
            refine p_iincN (ls1 := [(0, _), (1, _), (2, _), (3, _), (4, _), (5, _), (6, _), (7, _), (8, _)]) k164_244 rfl rfl ?_
            refine p_iincN (ls1 := [(0, _), (1, _), (2, _), (3, _), (4, _), (5, _), (6, _), (7, _), (8, _)]) k164_247 rfl rfl ?_
            refine p_goto (tgt := 11) k164_250 (by decide) ?_
            refine p_drop [0, 1, 2, 3, 4, 5] rfl ?_
            try rw [Nat.add_sub_cancel]
            rw [upc_uu, upc_eq]
            exact ih (k + 1) (n + 1) (_ :: st) _ (by omega) (by omega) (by first | (simp; done) | (simp; exact hn)) (by omega) (pk_push hn hp) hev
          · skip
            have ev9 : tstV (facM I a hh) v = true := by
              unfold tstV
              rw [if_pos c183]; exact decide_eq_true (by rw [i_lt]; rw [i_le] at c193; omega)
            rw [ev9] at hev
            refine p_iconst (v := bI true) k164_196 (by decide) ?_
            refine p_goto (tgt := 243) k164_197 (by decide) ?_
            refine p_zastN k164_243 (s_120 S) (by omega) (by decide) ?_
            refine p_iincN (ls1 := [(0, _), (1, _), (2, _), (3, _), (4, _), (5, _), (6, _), (7, _), (8, _)]) k164_244 rfl rfl ?_
            refine p_iincN (ls1 := [(0, _), (1, _), (2, _), (3, _), (4, _), (5, _), (6, _), (7, _), (8, _)]) k164_247 rfl rfl ?_
            refine p_goto (tgt := 11) k164_250 (by decide) ?_
            refine p_drop [0, 1, 2, 3, 4, 5] rfl ?_
            try rw [Nat.add_sub_cancel]
            rw [upc_uu, upc_eq]
            exact ih (k + 1) (n + 1) (_ :: st) _ (by omega) (by omega) (by first | (simp; done) | (simp; exact hn)) (by omega) (pk_push hn hp) hev
  have h9 := L (f1 - f0) f0 0 [] (I 120) (by omega) (Nat.le_refl _) rfl (by omega) trivial hev0
  rw [upc_self] at h9
  exact h9

def apartI (I : Nat → Nat → Int32) (a k : Nat) : Int32 := if I 104 a < I 99 k then I 99 k - I 104 a else I 104 a - I 99 k
set_option maxRecDepth 100000 in
set_option maxHeartbeats 4000000 in
theorem M_apart {d : Nat} {I : Nat → Nat → Int32} {J : Nat → Nat → Int64} {K : Nat → Nat → Option Nat} {h : List xSh} (S : St K h) {a k : Nat} (ha : a < 6) (hk : k < 6) : EvP d 166 0 [(0, .ref (98)), (1, .int (nI (a))), (2, .int (nI (k)))] [] (I, J, K, h) (QI (fun x t => x = apartI I a k ∧ t = (I, J, K, h))) := by
  refine p_aload_n k166_0 rfl ?_
  refine p_getRv k166_1 (s_98 S) f_12_35_12 (r_98_8 S) ?_
  refine p_iload_n k166_4 rfl ?_
  refine p_ialdN k166_5 (s_104 S) (by omega) (by decide) rfl ?_
  refine p_aload_n k166_6 rfl ?_
  refine p_getRv k166_7 (s_98 S) f_12_19_12 (r_98_3 S) ?_
  refine p_iload_n k166_10 rfl ?_
  refine p_ialdN k166_11 (s_99 S) (by omega) (by decide) rfl ?_
  refine p_icmp_ge (tgt := 31) k166_12 (by decide) (fun c12 => ?_) (fun c12 => ?_)
  · skip
    refine p_aload_n k166_31 rfl ?_
    refine p_getRv k166_32 (s_98 S) f_12_35_12 (r_98_8 S) ?_
    refine p_iload_n k166_35 rfl ?_
    refine p_ialdN k166_36 (s_104 S) (by omega) (by decide) rfl ?_
    refine p_aload_n k166_37 rfl ?_
    refine p_getRv k166_38 (s_98 S) f_12_19_12 (r_98_3 S) ?_
    refine p_iload_n k166_41 rfl ?_
    refine p_ialdN k166_42 (s_99 S) (by omega) (by decide) rfl ?_
    refine p_isub k166_43 ?_
    refine p_ireturn k166_44 rt_166 ?_
    exact ⟨by unfold apartI; first | rw [if_pos (by first | assumption | (rw [i_lt]; rw [i_le] at *; omega))] | rw [if_neg (by first | assumption | (rw [i_lt]; rw [i_le] at *; omega))], rfl⟩
  · skip
    refine p_aload_n k166_15 rfl ?_
    refine p_getRv k166_16 (s_98 S) f_12_19_12 (r_98_3 S) ?_
    refine p_iload_n k166_19 rfl ?_
    refine p_ialdN k166_20 (s_99 S) (by omega) (by decide) rfl ?_
    refine p_aload_n k166_21 rfl ?_
    refine p_getRv k166_22 (s_98 S) f_12_35_12 (r_98_8 S) ?_
    refine p_iload_n k166_25 rfl ?_
    refine p_ialdN k166_26 (s_104 S) (by omega) (by decide) rfl ?_
    refine p_isub k166_27 ?_
    refine p_goto (tgt := 44) k166_28 (by decide) ?_
    refine p_ireturn k166_44 rt_166 ?_
    exact ⟨by unfold apartI; first | rw [if_pos (by first | assumption | (rw [i_lt]; rw [i_le] at *; omega))] | rw [if_neg (by first | assumption | (rw [i_lt]; rw [i_le] at *; omega))], rfl⟩

