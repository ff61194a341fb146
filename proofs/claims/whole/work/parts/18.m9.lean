/-! what is only scratch; the reference: gusted, lucky, swap, on, lasts -/
/-- cells and fields that a call of the reference may leave as it likes -/
def xsc (c k : Nat) : Bool := match c with
  | 120 => true
  | 121 => true
  | 122 => true
  | 123 => true
  | 124 => true
  | 125 => true
  | 126 => true
  | 127 => true
  | 130 => true
  | 98 => (match k with
    | 17 => true
    | 18 => true
    | 35 => true
    | 40 => true
    | _ => false)
  | _ => false
def msk (I : Nat → Nat → Int32) : Nat → Nat → Int32 := fun c k => if xsc c k = true then 0 else I c k
def AG (I I' : Nat → Nat → Int32) : Prop := ∀ c k, xsc c k = false → I' c k = I c k
theorem AG.refl (I : Nat → Nat → Int32) : AG I I := fun _ _ _ => rfl
theorem AG.trans {I I' I2 : Nat → Nat → Int32} (h : AG I I') (h2 : AG I' I2) : AG I I2 := fun c k z => (h2 c k z).trans (h c k z)
theorem AG.mk {I I' : Nat → Nat → Int32} (h : AG I I') : msk I' = msk I := by
  funext c k
  unfold msk
  by_cases z : xsc c k = true
  · rw [if_pos z, if_pos z]
  · rw [if_neg z, if_neg z]; exact h c k (Bool.eq_false_iff.mpr z)
theorem AG.up {I : Nat → Nat → Int32} (g : Nat → Int32) : AG I (upc I 120 g) := fun c k z => by
  by_cases hc : c = 120
  · subst hc; cases z
  · rw [upc_ne _ _ hc]
theorem todM_msk {I : Nat → Nat → Int32} {cb ce nh : Nat} {t : Int32} : todM (msk I) cb ce nh t = todM I cb ce nh t := rfl
theorem AG.tod {I I' : Nat → Nat → Int32} (h : AG I I') (cb ce nh : Nat) (t : Int32) : todM I' cb ce nh t = todM I cb ce nh t := by rw [← todM_msk, h.mk, todM_msk]
theorem AG.mi {I I' : Nat → Nat → Int32} (h : AG I I') {nh na dd cb ce : Nat} (M : MI I nh na dd cb ce) : MI I' nh na dd cb ce := by
  have e : MI (msk I') nh na dd cb ce := by rw [h.mk]; exact M
  exact e
theorem fCpy_at (f : Nat → Int32) : ∀ (j k : Nat) (u : Nat → Int32) (m : Nat), fld (fCpy f) j k u m = if k ≤ m ∧ m < k + j then f m else u m := by
  intro j
  induction j with
  | zero => intro k u m; rw [if_neg (by omega)]; rfl
  | succ j ih =>
    intro k u m
    show fld (fCpy f) j (k + 1) (fCpy f k u) m = _
    rw [ih]
    by_cases h1 : k + 1 ≤ m ∧ m < k + 1 + j
    · rw [if_pos h1, if_pos (by omega)]
    · rw [if_neg h1]
      by_cases h2 : m = k
      · subst h2; rw [if_pos (by omega)]; exact upc_eq _ _ _
      · rw [if_neg (by omega)]; exact upc_ne _ _ h2
theorem gu_inj {nh gg m k : Nat} (h6 : nh ≤ 6) (hg : gg < 6) (hm : m < nh) (hk : k < nh) (h : (m + gg) % nh = (k + gg) % nh) : m = k := by
  rcases (show nh = 1 ∨ nh = 2 ∨ nh = 3 ∨ nh = 4 ∨ nh = 5 ∨ nh = 6 by omega) with rfl | rfl | rfl | rfl | rfl | rfl <;> omega
theorem gu_to {nh gg q : Nat} (h6 : nh ≤ 6) (hg : gg < 6) (hq : q < nh) : (q + 6 * nh - gg) % nh < nh ∧ ((q + 6 * nh - gg) % nh + gg) % nh = q := by
  rcases (show nh = 1 ∨ nh = 2 ∨ nh = 3 ∨ nh = 4 ∨ nh = 5 ∨ nh = 6 by omega) with rfl | rfl | rfl | rfl | rfl | rfl <;> omega
theorem fGuB_at {w : Nat → Int32} {gg nh : Nat} (h6 : nh ≤ 6) (hg : gg < 6) : ∀ (j k : Nat) (b : Nat → Int32), k + j = nh → (∀ m, m < k → b ((m + gg) % nh) = w m) → ∀ m, m < nh → fld (fGuB w gg nh) j k b ((m + gg) % nh) = w m := by
  intro j
  induction j with
  | zero => intro k b hk hb m hm; exact hb m (by omega)
  | succ j ih =>
    intro k b hk hb m hm
    refine ih (k + 1) _ (by omega) (fun i hi => ?_) m hm
    by_cases e : i = k
    · subst e; exact upc_eq _ _ _
    · refine Eq.trans (upc_ne _ _ (fun z => e (gu_inj h6 hg (by omega) (by omega) z))) (hb i (by omega))
/-- heads' hats after a gust -/
def gusV (I : Nat → Nat → Int32) (gg nh : Nat) : Nat → Int32 := fun q => if q < nh then I 101 ((q + 6 * nh - gg) % nh) else I 101 q
theorem gusW_V {I : Nat → Nat → Int32} {gg nh : Nat} (h6 : nh ≤ 6) (hg : gg < 6) : gusW I gg nh = gusV I gg nh := by
  funext q
  unfold gusW gusV
  rw [fCpy_at]
  by_cases hq : q < nh
  · rw [if_pos (by omega), if_pos hq]
    obtain ⟨h1, h2⟩ := gu_to h6 hg hq
    have h3 := fGuB_at (w := I 101) h6 hg nh 0 (I 121) (by omega) (fun m hm => by omega) _ h1
    rw [h2] at h3
    exact h3
  · rw [if_neg (by omega), if_neg hq]
/-- what would be done after a gust -/
def gusM (I : Nat → Nat → Int32) (gg nh cb ce : Nat) (t : Int32) : Int32 := todM (upc I 101 (gusV I gg nh)) cb ce nh t
theorem gusM_msk {I : Nat → Nat → Int32} {gg nh cb ce : Nat} {t : Int32} : gusM (msk I) gg nh cb ce t = gusM I gg nh cb ce t := rfl
theorem AG.gus {I I' : Nat → Nat → Int32} (h : AG I I') (gg nh cb ce : Nat) (t : Int32) : gusM I' gg nh cb ce t = gusM I gg nh cb ce t := by rw [← gusM_msk, h.mk, gusM_msk]
theorem MI_gus {I : Nat → Nat → Int32} {gg nh na dd cb ce : Nat} (M : MI I nh na dd cb ce) (hg : gg < 6) : MI (gusI (svI I) gg nh) nh na dd cb ce := by
  refine ⟨M.nh, M.nh6, M.na, M.na6, M.dd, M.dd5, M.th, M.wf, ?_, M.kind⟩
  intro k hk
  have e : gusI (svI I) gg nh 101 k = gusV I gg nh k := congrFun (gusW_V (I := svI I) M.nh6 hg) k
  rw [e]
  unfold gusV
  rw [if_pos hk]
  exact M.worn _ (gu_to M.nh6 hg hk).1
theorem gus_tod {I : Nat → Nat → Int32} {gg nh cb ce : Nat} {t : Int32} (h6 : nh ≤ 6) (hg : gg < 6) : todM (gusI (svI I) gg nh) cb ce nh t = gusM I gg nh cb ce t := by
  unfold gusI
  rw [gusW_V h6 hg]
  rfl
/-- used and worn as they were, all else but scratch too -/
theorem AG.back {I I2 : Nat → Nat → Int32} (hmu : I 98 33 = nI 9999) (h : ∀ c, c ≠ 98 → c ≠ 101 → c ≠ 107 → c ≠ 120 → c ≠ 121 → I2 c = svI I c) (h98 : ∀ k, k ≠ 2 → I2 98 k = svI I 98 k) (hu : ∀ k, 6 ≤ k → I2 107 k = I 107 k) (hw : ∀ k, 6 ≤ k → I2 101 k = I 101 k) : AG I (pbI I2) := by
  intro c k z
  by_cases c1 : c = 101
  · subst c1
    show cpy6 (I2 123) (I2 101) k = I 101 k
    rw [h 123 (by decide) (by decide) (by decide) (by decide) (by decide)]
    show cpy6 (cpy6 (I 101) (I 123)) (I2 101) k = _
    unfold cpy6
    by_cases hk : k < 6
    · rw [if_pos hk, if_pos hk]
    · rw [if_neg hk]; exact hw k (by omega)
  by_cases c2 : c = 107
  · subst c2
    show cpy6 (I2 122) (I2 107) k = I 107 k
    rw [h 122 (by decide) (by decide) (by decide) (by decide) (by decide)]
    show cpy6 (cpy6 (I 107) (I 122)) (I2 107) k = _
    unfold cpy6
    by_cases hk : k < 6
    · rw [if_pos hk, if_pos hk]
    · rw [if_neg hk]; exact hu k (by omega)
  by_cases c3 : c = 98
  · subst c3
    show upc (upc (I2 98) 33 (nI 9999)) 2 (upc (I2 98) 33 (nI 9999) 35) k = I 98 k
    by_cases k1 : k = 2
    · subst k1
      rw [upc_eq, upc_ne _ _ (by decide), h98 35 (by decide)]
      rfl
    · rw [upc_ne _ _ k1]
      by_cases k2 : k = 33
      · subst k2; rw [upc_eq, hmu]
      · rw [upc_ne _ _ k2, h98 k k1]
        have k3 : k ≠ 35 := by intro e; subst e; cases z
        show upc (upc (I 98) 33 2000000000) 35 _ k = _
        rw [upc_ne _ _ k3, upc_ne _ _ k2]
  have n : ∀ y, xsc y k = true → c ≠ y := fun y hy e => by subst e; rw [hy] at z; cases z
  show pbI I2 c k = I c k
  have e1 : pbI I2 c = I2 c := by
    unfold pbI s1
    simp only [upc, c1, c2, c3, if_false]
  rw [e1, h c c3 c1 c2 (n 120 rfl) (n 121 rfl)]
  have n2 := n 122 rfl
  have n3 := n 123 rfl
  unfold svI s1
  simp only [upc, n2, n3, c3, if_false]
set_option maxRecDepth 100000 in
set_option maxHeartbeats 4000000 in
theorem M_gustedBy {d : Nat} {I : Nat → Nat → Int32} {J : Nat → Nat → Int64} {K : Nat → Nat → Option Nat} {h : List xSh} (S : St K h) {nh na dd cb ce : Nat} (M : MI I nh na dd cb ce) {gg : Nat} (hg : gg < 6) (hmu : I 98 33 = nI 9999) : EvP (d + 5) 196 0 [(0, .ref (98)), (1, .int (nI (gg)))] [] (I, J, K, h) (QI (fun x t => x = gusM I gg nh cb ce (-1) ∧ ∃ I', t = (I', J, K, h) ∧ AG I I')) := by
  refine p_aload_n k196_0 rfl ?_
  refine p_cV0v k196_1 (s_98 S) c_12_362_12 (Nat.le_of_ble_eq_true rfl) (M_save S) (fun m1 hq => ?_)
  obtain rfl := hq
  refine p_aload_n k196_4 rfl ?_
  refine p_iload_n k196_5 rfl ?_
  refine p_cV1i k196_6 (s_98 S) c_12_354_12 rfl (Nat.le_of_ble_eq_true rfl) (M_goGust S (show MI (svI I) nh na dd cb ce from M) (gg := gg) hg) (fun x1 m1 hq => ?_)
  obtain ⟨rfl, rfl⟩ := hq
  refine p_self 120 ?_
  refine p_istore_n (ls' := [(0, _), (1, _), (2, _)]) k196_9 rfl ?_
  refine p_aload_n k196_10 rfl ?_
  refine p_iconst (v := (-1)) k196_11 (by decide) ?_
  refine p_cV1i k196_12 (s_98 S) c_12_347_12 rfl (Nat.le_of_ble_eq_true rfl) (M_today S (MI_gus M hg) _ (-1)) (fun x1 m1 hq => ?_)
  obtain ⟨rfl, g, rfl⟩ := hq
  refine p_istore_n (ls' := [(0, _), (1, _), (2, _), (3, _)]) k196_15 rfl ?_
  refine p_aload_n k196_16 rfl ?_
  refine p_cV0v k196_17 (s_98 S) c_12_365_12 (Nat.le_of_ble_eq_true rfl) (M_putBack S) (fun m1 hq => ?_)
  obtain rfl := hq
  refine p_iload_n k196_20 rfl ?_
  refine p_ireturn k196_21 rt_196 ?_
  refine ⟨gus_tod M.nh6 hg, _, rfl, AG.back hmu (fun c q1 q2 q3 q4 q5 => ?_) (fun k hk => rfl) (fun k hk => rfl) (fun k hk => ?_)⟩
  · unfold gusI; simp only [upc, q2, q4, q5, if_false]
  · exact (congrFun (gusW_V (I := svI I) M.nh6 hg) k).trans (if_neg (by have := M.nh6; omega))

def gustedM (I : Nat → Nat → Int32) (nh cb ce : Nat) (v : Int32) : Int32 := if inB v (nI 0) (nI 5) = true then gusM I v.toNatClampNeg nh cb ce (-1) else -2
set_option maxRecDepth 100000 in
set_option maxHeartbeats 4000000 in
theorem M_gusted {d : Nat} {I : Nat → Nat → Int32} {J : Nat → Nat → Int64} {K : Nat → Nat → Option Nat} {h : List xSh} (S : St K h) {nh na dd cb ce : Nat} (M : MI I nh na dd cb ce) (hmu : I 98 33 = nI 9999) (v : Int32) : EvP (d + 6) 197 0 [(0, .ref (98)), (1, .int (v))] [] (I, J, K, h) (QI (fun x t => x = gustedM I nh cb ce v ∧ ∃ I', t = (I', J, K, h) ∧ AG I I')) := by
  refine p_aload_n k197_0 rfl ?_
  refine p_iload_n k197_1 rfl ?_
  refine p_iconst (v := nI 0) k197_2 (by decide) ?_
  refine p_iconst (v := nI 5) k197_3 (by decide) ?_
  refine p_cV3i k197_4 (s_98 S) c_12_248_12 rfl rfl rfl (Nat.le_of_ble_eq_true rfl) (M_in S (v) (nI (0)) (nI (5))) (fun x1 m1 hq => ?_)
  obtain ⟨rfl, rfl⟩ := hq
  refine p_if_eqB (tgt := 18) k197_7 (by decide) (fun c7 => ?_) (fun c7 => ?_)
  · skip
    refine p_bipush (v := (-2)) k197_18 (by decide) ?_
    refine p_ireturn k197_20 rt_197 ?_
    first | exact ⟨by unfold gustedM; rw [if_pos c7, hcg], I2, rfl, hA⟩ | exact ⟨by unfold gustedM; rw [c7, if_neg (by decide)], _, rfl, AG.refl I⟩
  · skip
    obtain ⟨g, hg, rfl⟩ := inB_of (by decide) (by decide) c7
    rw [Nat.zero_add] at *
    have hcg := nI_clamp (n := g) (by omega)
    refine p_aload_n k197_10 rfl ?_
    refine p_iload_n k197_11 rfl ?_
    refine p_cV1i k197_12 (s_98 S) c_12_395_12 rfl (Nat.le_of_ble_eq_true rfl) (M_gustedBy S M (gg := g) (by omega) hmu) (fun x1 m1 hq => ?_)
    obtain ⟨rfl, I2, rfl, hA⟩ := hq
    refine p_goto (tgt := 20) k197_15 (by decide) ?_
    refine p_ireturn k197_20 rt_197 ?_
    first | exact ⟨by unfold gustedM; rw [if_pos c7, hcg], I2, rfl, hA⟩ | exact ⟨by unfold gustedM; rw [c7, if_neg (by decide)], _, rfl, AG.refl I⟩

def fLuc (I : Nat → Nat → Int32) (nh cb ce : Nat) (k : Nat) (s : Int32 × Int32) : Int32 × Int32 := if s.2 < gusM I k nh cb ce (-1) then (nI k, gusM I k nh cb ce (-1)) else s
def luckyM (I : Nat → Nat → Int32) (nh cb ce : Nat) : Int32 := (fld (fLuc I nh cb ce) nh 0 (-5, -1)).1
set_option maxRecDepth 100000 in
set_option maxHeartbeats 4000000 in
theorem M_lucky {d : Nat} {I : Nat → Nat → Int32} {J : Nat → Nat → Int64} {K : Nat → Nat → Option Nat} {h : List xSh} (S : St K h) {nh na dd cb ce : Nat} (M : MI I nh na dd cb ce) (hmu : I 98 33 = nI 9999) : EvP (d + 6) 198 0 [(0, .ref (98))] [] (I, J, K, h) (QI (fun x t => x = luckyM I nh cb ce ∧ ∃ I', t = (I', J, K, h) ∧ AG I I')) := by
  have hnh6 := M.nh6
  refine p_bipush (v := (-5)) k198_0 (by decide) ?_
  refine p_istore_n (ls' := [(0, _), (1, _)]) k198_2 rfl ?_
  refine p_iconst (v := (-1)) k198_3 (by decide) ?_
  refine p_istore_n (ls' := [(0, _), (1, _), (2, _)]) k198_4 rfl ?_
  refine p_iconst (v := nI 0) k198_5 (by decide) ?_
  refine p_istore_n (ls' := [(0, _), (1, _), (2, _), (3, _)]) k198_6 rfl ?_
  have L : ∀ (j : Nat) (k : Nat) (s1 s2 : Int32) (I' : Nat → Nat → Int32), k + j = nh → AG I I' → (fld (fLuc I nh cb ce) j k (s1, s2)).1 = luckyM I nh cb ce → EvP (d + 6) 198 7 [(0, .ref (98)), (1, .int (s1)), (2, .int (s2)), (3, .int (nI (k)))] [] (I', J, K, h) (QI (fun x t => x = luckyM I nh cb ce ∧ ∃ I', t = (I', J, K, h) ∧ AG I I')) := by
    intro j
    induction j with
    | zero =>
      intro k s1 s2 I' hk
      intro hA hs
      refine p_iload_n k198_7 rfl ?_
      refine p_aload_n k198_8 rfl ?_
      refine p_getIv k198_9 (s_98 S) f_12_7_12 (hA.mi M).nh ?_
      refine p_icmp_geN (tgt := 42) k198_12 (by decide) (by omega) (by omega) (fun _ => ?_) (fun c => False.elim (by omega))
      refine p_iload_n k198_42 rfl ?_
      refine p_ireturn k198_43 rt_198 ?_
      exact ⟨hs, I', rfl, hA⟩
    | succ j ih =>
      intro k s1 s2 I' hk
      intro hA hs
      refine p_iload_n k198_7 rfl ?_
      refine p_aload_n k198_8 rfl ?_
      refine p_getIv k198_9 (s_98 S) f_12_7_12 (hA.mi M).nh ?_
      refine p_icmp_geN (tgt := 42) k198_12 (by decide) (by omega) (by omega) (fun c => False.elim (by omega)) (fun _ => ?_)
      refine p_aload_n k198_15 rfl ?_
      refine p_iload_n k198_16 rfl ?_
      refine p_cV1i k198_17 (s_98 S) c_12_395_12 rfl (Nat.le_of_ble_eq_true rfl) (M_gustedBy S (hA.mi M) (gg := k) (by omega) ((hA 98 33 rfl).trans hmu)) (fun x1 m1 hq => ?_)
      obtain ⟨rfl, I2, rfl, hA2⟩ := hq
      rw [hA.gus k nh cb ce (-1)]
      replace hA := hA.trans hA2
      refine p_istore (ls' := [(0, _), (1, _), (2, _), (3, _), (4, _)]) k198_20 rfl ?_
      refine p_iload k198_22 rfl ?_
      refine p_iload_n k198_24 rfl ?_
      refine p_icmp_gt (tgt := 31) k198_25 (by decide) (fun c25 => ?_) (fun c25 => ?_)
      · skip
        refine p_iload_n k198_31 rfl ?_
        refine p_istore_n (ls' := [(0, _), (1, _), (2, _), (3, _), (4, _)]) k198_32 rfl ?_
        refine p_iload k198_33 rfl ?_
        refine p_istore_n (ls' := [(0, _), (1, _), (2, _), (3, _), (4, _)]) k198_35 rfl ?_
        refine p_iincN (ls1 := [(0, _), (1, _), (2, _), (3, _), (4, _)]) k198_36 rfl rfl ?_
        refine p_goto (tgt := 7) k198_39 (by decide) ?_
        refine p_drop [0, 1, 2, 3] rfl ?_
        exact ih (k + 1) _ _ _ (by omega) hA (by rw [← hs]; show (fld (fLuc I nh cb ce) j (k + 1) _).1 = (fld (fLuc I nh cb ce) j (k + 1) _).1; congr 2; unfold fLuc; first | rw [if_pos c25] | rw [if_neg c25])
      · skip
        refine p_goto (tgt := 36) k198_28 (by decide) ?_
        refine p_iincN (ls1 := [(0, _), (1, _), (2, _), (3, _), (4, _)]) k198_36 rfl rfl ?_
        refine p_goto (tgt := 7) k198_39 (by decide) ?_
        refine p_drop [0, 1, 2, 3] rfl ?_
        exact ih (k + 1) _ _ _ (by omega) hA (by rw [← hs]; show (fld (fLuc I nh cb ce) j (k + 1) _).1 = (fld (fLuc I nh cb ce) j (k + 1) _).1; congr 2; unfold fLuc; first | rw [if_pos c25] | rw [if_neg c25])
  exact L nh 0 _ _ I (by omega) (AG.refl I) rfl

theorem swI_up {I : Nat → Nat → Int32} {a b : Nat} {g : Nat → Int32} : swI (upc I 120 g) a b = upc (swI I a b) 120 g := by
  funext c
  by_cases h1 : c = 101
  · subst h1; rfl
  by_cases h2 : c = 120
  · subst h2; rfl
  unfold swI s1
  simp only [upc, h1, h2, if_false]
theorem swI_at {I : Nat → Nat → Int32} {a b k : Nat} : swI I a b 101 k = if k = b then I 101 a else if k = a then I 101 b else I 101 k := rfl
theorem swI_sw {I : Nat → Nat → Int32} {a b : Nat} (hab : a < b) : swI (swI I a b) a b = I := by
  funext c k
  by_cases h1 : c = 101
  · subst h1
    rw [swI_at, swI_at, swI_at, swI_at]
    by_cases e1 : k = b
    · subst e1; rw [if_pos rfl, if_neg (by omega), if_pos rfl]
    · rw [if_neg e1]
      by_cases e2 : k = a
      · subst e2; rw [if_pos rfl, if_pos rfl]
      · rw [if_neg e2, if_neg e1, if_neg e2]
  · unfold swI s1
    simp only [upc, h1, if_false]
theorem MI_sw {I : Nat → Nat → Int32} {a b nh na dd cb ce : Nat} (M : MI I nh na dd cb ce) (ha : a < nh) (hb : b < nh) : MI (swI I a b) nh na dd cb ce := by
  refine ⟨M.nh, M.nh6, M.na, M.na6, M.dd, M.dd5, M.th, M.wf, ?_, M.kind⟩
  intro k hk
  rw [swI_at]
  by_cases e1 : k = b
  · rw [if_pos e1]; exact M.worn a ha
  · rw [if_neg e1]
    by_cases e2 : k = a
    · rw [if_pos e2]; exact M.worn b hb
    · rw [if_neg e2]; exact M.worn k hk
def fSwB (I : Nat → Nat → Int32) (nh cb ce a : Nat) (b : Nat) (s : Int32 × Int32) : Int32 × Int32 := if s.2 < todM (swI I a b) cb ce nh (-1) then (nI (10 * a + b), todM (swI I a b) cb ce nh (-1)) else s
def fSwA (I : Nat → Nat → Int32) (nh cb ce : Nat) (a : Nat) (s : Int32 × Int32) : Int32 × Int32 := fld (fSwB I nh cb ce a) (nh - (a + 1)) (a + 1) s
def swapM (I : Nat → Nat → Int32) (nh cb ce : Nat) : Int32 := (fld (fSwA I nh cb ce) nh 0 (-5, todM I cb ce nh (-1))).1
set_option maxRecDepth 100000 in
set_option maxHeartbeats 4000000 in
theorem M_swap {d : Nat} {I : Nat → Nat → Int32} {J : Nat → Nat → Int64} {K : Nat → Nat → Option Nat} {h : List xSh} (S : St K h) {nh na dd cb ce : Nat} (M : MI I nh na dd cb ce) (g : Nat → Int32) : EvP (d + 5) 199 0 [(0, .ref (98))] [] (upc I 120 g, J, K, h) (QI (fun x t => x = swapM I nh cb ce ∧ ∃ g, t = (upc I 120 g, J, K, h))) := by
  have hnh : upc I 120 g 98 0 = nI nh := M.nh
  have hnh6 := M.nh6
  have hna : upc I 120 g 98 1 = nI na := M.na
  have hna6 := M.na6
  refine p_aload_n k199_0 rfl ?_
  refine p_iconst (v := (-1)) k199_1 (by decide) ?_
  refine p_cV1i k199_2 (s_98 S) c_12_347_12 rfl (Nat.le_of_ble_eq_true rfl) (M_today S M g _) (fun x1 m1 hq => ?_)
  obtain ⟨rfl, g, rfl⟩ := hq
  refine p_istore_n (ls' := [(0, _), (1, _)]) k199_5 rfl ?_
  refine p_bipush (v := (-5)) k199_6 (by decide) ?_
  refine p_istore_n (ls' := [(0, _), (1, _), (2, _)]) k199_8 rfl ?_
  refine p_iconst (v := nI 0) k199_9 (by decide) ?_
  refine p_istore_n (ls' := [(0, _), (1, _), (2, _), (3, _)]) k199_10 rfl ?_
  have L : ∀ (j : Nat) (k : Nat) (s1 s2 : Int32) (g : Nat → Int32), k + j = nh → (fld (fSwA I nh cb ce) j k (s1, s2)).1 = swapM I nh cb ce → EvP (d + 5) 199 11 [(0, .ref (98)), (1, .int (s2)), (2, .int (s1)), (3, .int (nI (k)))] [] (upc I 120 g, J, K, h) (QI (fun x t => x = swapM I nh cb ce ∧ ∃ g, t = (upc I 120 g, J, K, h))) := by
    intro j
    induction j with
    | zero =>
      intro k s1 s2 g hk
      intro hs
      refine p_iload_n k199_11 rfl ?_
      refine p_aload_n k199_12 rfl ?_
      refine p_getIv k199_13 (s_98 S) f_12_7_12 M.nh ?_
      refine p_icmp_geN (tgt := 86) k199_16 (by decide) (by omega) (by omega) (fun _ => ?_) (fun c => False.elim (by omega))
      refine p_iload_n k199_86 rfl ?_
      refine p_ireturn k199_87 rt_199 ?_
      exact ⟨hs, g, rfl⟩
    | succ j ih =>
      intro k s1 s2 g hk
      intro hs
      have ih0 := ih
      obtain ⟨j0, hj0⟩ : ∃ j0, j0 = j := ⟨j, rfl⟩
      subst hj0
      refine p_iload_n k199_11 rfl ?_
      refine p_aload_n k199_12 rfl ?_
      refine p_getIv k199_13 (s_98 S) f_12_7_12 M.nh ?_
      refine p_icmp_geN (tgt := 86) k199_16 (by decide) (by omega) (by omega) (fun c => False.elim (by omega)) (fun _ => ?_)
      refine p_iload_n k199_19 rfl ?_
      refine p_iconst (v := nI 1) k199_20 (by decide) ?_
      refine p_iaddN k199_21 ?_
      refine p_istore (ls' := [(0, _), (1, _), (2, _), (3, _), (4, _)]) k199_22 rfl ?_
      have L2 : ∀ (j : Nat) (m : Nat) (s1 s2 : Int32) (g : Nat → Int32), m + j = nh → k < m → (fld (fSwA I nh cb ce) j0 (k + 1) (fld (fSwB I nh cb ce k) j m (s1, s2))).1 = swapM I nh cb ce → EvP (d + 5) 199 24 [(0, .ref (98)), (1, .int (s2)), (2, .int (s1)), (3, .int (nI (k))), (4, .int (nI (m)))] [] (upc I 120 g, J, K, h) (QI (fun x t => x = swapM I nh cb ce ∧ ∃ g, t = (upc I 120 g, J, K, h))) := by
        intro j
        induction j with
        | zero =>
          intro m s1 s2 g hk
          intro hkm hs
          refine p_iload k199_24 rfl ?_
          refine p_aload_n k199_26 rfl ?_
          refine p_getIv k199_27 (s_98 S) f_12_7_12 M.nh ?_
          refine p_icmp_geN (tgt := 80) k199_30 (by decide) (by omega) (by omega) (fun _ => ?_) (fun c => False.elim (by omega))
          refine p_iincN (ls1 := [(0, _), (1, _), (2, _), (3, _), (4, _)]) k199_80 rfl rfl ?_
          refine p_goto (tgt := 11) k199_83 (by decide) ?_
          refine p_drop [0, 1, 2, 3] rfl ?_
          exact ih0 (k + 1) _ _ _ (by omega) hs
        | succ j ih =>
          intro m s1 s2 g hk
          intro hkm hs
          refine p_iload k199_24 rfl ?_
          refine p_aload_n k199_26 rfl ?_
          refine p_getIv k199_27 (s_98 S) f_12_7_12 M.nh ?_
          refine p_icmp_geN (tgt := 80) k199_30 (by decide) (by omega) (by omega) (fun c => False.elim (by omega)) (fun _ => ?_)
          refine p_aload_n k199_33 rfl ?_
          refine p_iload_n k199_34 rfl ?_
          refine p_iload k199_35 rfl ?_
          refine p_cV2v k199_37 (s_98 S) c_12_357_12 rfl rfl (Nat.le_of_ble_eq_true rfl) (M_swaps S (a := k) (b := m) (by omega) (by omega)) (fun m1 hq => ?_)
          obtain rfl := hq
          rw [swI_up]
          refine p_aload_n k199_40 rfl ?_
          refine p_iconst (v := (-1)) k199_41 (by decide) ?_
          refine p_cV1i k199_42 (s_98 S) c_12_347_12 rfl (Nat.le_of_ble_eq_true rfl) (M_today S (MI_sw M (a := k) (b := m) (by omega) (by omega)) _ _) (fun x1 m1 hq => ?_)
          obtain ⟨rfl, g, rfl⟩ := hq
          refine p_istore (ls' := [(0, _), (1, _), (2, _), (3, _), (4, _), (5, _)]) k199_45 rfl ?_
          refine p_aload_n k199_47 rfl ?_
          refine p_iload_n k199_48 rfl ?_
          refine p_iload k199_49 rfl ?_
          refine p_cV2v k199_51 (s_98 S) c_12_357_12 rfl rfl (Nat.le_of_ble_eq_true rfl) (M_swaps S (a := k) (b := m) (by omega) (by omega)) (fun m1 hq => ?_)
          obtain rfl := hq
          rw [swI_up, swI_sw hkm]
          refine p_iload k199_54 rfl ?_
          refine p_iload_n k199_56 rfl ?_
          refine p_icmp_gt (tgt := 63) k199_57 (by decide) (fun c57 => ?_) (fun c57 => ?_)
          · skip
            refine p_bipush (v := nI 10) k199_63 (by decide) ?_
            refine p_iload_n k199_65 rfl ?_
            refine p_imulN k199_66 ?_
            refine p_iload k199_67 rfl ?_
            refine p_iaddN k199_69 ?_
            refine p_istore_n (ls' := [(0, _), (1, _), (2, _), (3, _), (4, _), (5, _)]) k199_70 rfl ?_
            refine p_iload k199_71 rfl ?_
            refine p_istore_n (ls' := [(0, _), (1, _), (2, _), (3, _), (4, _), (5, _)]) k199_73 rfl ?_
            refine p_iincN (ls1 := [(0, _), (1, _), (2, _), (3, _), (4, _), (5, _)]) k199_74 rfl rfl ?_
            refine p_goto (tgt := 24) k199_77 (by decide) ?_
            refine p_drop [0, 1, 2, 3, 4] rfl ?_
            exact ih (m + 1) _ _ _ (by omega) (by omega) (by rw [← hs]; show (fld _ j0 (k + 1) (fld (fSwB I nh cb ce k) j (m + 1) _)).1 = (fld _ j0 (k + 1) (fld (fSwB I nh cb ce k) j (m + 1) _)).1; congr 3; unfold fSwB; first | rw [if_pos c57] | rw [if_neg c57])
          · skip
            refine p_goto (tgt := 74) k199_60 (by decide) ?_
            refine p_iincN (ls1 := [(0, _), (1, _), (2, _), (3, _), (4, _), (5, _)]) k199_74 rfl rfl ?_
            refine p_goto (tgt := 24) k199_77 (by decide) ?_
            refine p_drop [0, 1, 2, 3, 4] rfl ?_
            exact ih (m + 1) _ _ _ (by omega) (by omega) (by rw [← hs]; show (fld _ j0 (k + 1) (fld (fSwB I nh cb ce k) j (m + 1) _)).1 = (fld _ j0 (k + 1) (fld (fSwB I nh cb ce k) j (m + 1) _)).1; congr 3; unfold fSwB; first | rw [if_pos c57] | rw [if_neg c57])
      exact L2 (nh - (k + 1)) (k + 1) _ _ _ (by omega) (by omega) hs
  exact L nh 0 _ _ g (by omega) rfl

