/-! what is only scratch; the reference: gusted, lucky, swap, on, lasts -/
/-- cells and fields that a call of the reference may leave as it likes -/
def xsc (c k : Nat) : Bool := match c with
  | 120 => true
  | 121 => true
  | 122 => true
  | 123 => true
  | 124 => true
  | 125 => true
  | 126 => true
  | 127 => true
  | 130 => true
  | 98 => (match k with
    | 17 => true
    | 18 => true
    | 35 => true
    | 40 => true
    | _ => false)
  | _ => false
def msk (I : Nat → Nat → Int32) : Nat → Nat → Int32 := fun c k => if xsc c k = true then 0 else I c k
def AG (I I' : Nat → Nat → Int32) : Prop := ∀ c k, xsc c k = false → I' c k = I c k
theorem AG.refl (I : Nat → Nat → Int32) : AG I I := fun _ _ _ => rfl
theorem AG.trans {I I' I2 : Nat → Nat → Int32} (h : AG I I') (h2 : AG I' I2) : AG I I2 := fun c k z => (h2 c k z).trans (h c k z)
theorem AG.mk {I I' : Nat → Nat → Int32} (h : AG I I') : msk I' = msk I := by
  funext c k
  unfold msk
  by_cases z : xsc c k = true
  · rw [if_pos z, if_pos z]
  · rw [if_neg z, if_neg z]; exact h c k (Bool.eq_false_iff.mpr z)
theorem AG.up {I : Nat → Nat → Int32} (g : Nat → Int32) : AG I (upc I 120 g) := fun c k z => by
  by_cases hc : c = 120
  · subst hc; cases z
  · rw [upc_ne _ _ hc]
theorem todM_msk {I : Nat → Nat → Int32} {cb ce nh : Nat} {t : Int32} : todM (msk I) cb ce nh t = todM I cb ce nh t := rfl
theorem AG.tod {I I' : Nat → Nat → Int32} (h : AG I I') (cb ce nh : Nat) (t : Int32) : todM I' cb ce nh t = todM I cb ce nh t := by rw [← todM_msk, h.mk, todM_msk]
theorem AG.mi {I I' : Nat → Nat → Int32} (h : AG I I') {nh na dd cb ce : Nat} (M : MI I nh na dd cb ce) : MI I' nh na dd cb ce := by
  have e : MI (msk I') nh na dd cb ce := by rw [h.mk]; exact M
  exact e
theorem fCpy_at (f : Nat → Int32) : ∀ (j k : Nat) (u : Nat → Int32) (m : Nat), fld (fCpy f) j k u m = if k ≤ m ∧ m < k + j then f m else u m := by
  intro j
  induction j with
  | zero => intro k u m; rw [if_neg (by omega)]; rfl
  | succ j ih =>
    intro k u m
    show fld (fCpy f) j (k + 1) (fCpy f k u) m = _
    rw [ih]
    by_cases h1 : k + 1 ≤ m ∧ m < k + 1 + j
    · rw [if_pos h1, if_pos (by omega)]
    · rw [if_neg h1]
      by_cases h2 : m = k
      · subst h2; rw [if_pos (by omega)]; exact upc_eq _ _ _
      · rw [if_neg (by omega)]; exact upc_ne _ _ h2
theorem gu_inj {nh gg m k : Nat} (h6 : nh ≤ 6) (hg : gg < 6) (hm : m < nh) (hk : k < nh) (h : (m + gg) % nh = (k + gg) % nh) : m = k := by
  rcases (show nh = 1 ∨ nh = 2 ∨ nh = 3 ∨ nh = 4 ∨ nh = 5 ∨ nh = 6 by omega) with rfl | rfl | rfl | rfl | rfl | rfl <;> omega
theorem gu_to {nh gg q : Nat} (h6 : nh ≤ 6) (hg : gg < 6) (hq : q < nh) : (q + 6 * nh - gg) % nh < nh ∧ ((q + 6 * nh - gg) % nh + gg) % nh = q := by
  rcases (show nh = 1 ∨ nh = 2 ∨ nh = 3 ∨ nh = 4 ∨ nh = 5 ∨ nh = 6 by omega) with rfl | rfl | rfl | rfl | rfl | rfl <;> omega
theorem fGuB_at {w : Nat → Int32} {gg nh : Nat} (h6 : nh ≤ 6) (hg : gg < 6) : ∀ (j k : Nat) (b : Nat → Int32), k + j = nh → (∀ m, m < k → b ((m + gg) % nh) = w m) → ∀ m, m < nh → fld (fGuB w gg nh) j k b ((m + gg) % nh) = w m := by
  intro j
  induction j with
  | zero => intro k b hk hb m hm; exact hb m (by omega)
  | succ j ih =>
    intro k b hk hb m hm
    refine ih (k + 1) _ (by omega) (fun i hi => ?_) m hm
    by_cases e : i = k
    · subst e; exact upc_eq _ _ _
    · refine Eq.trans (upc_ne _ _ (fun z => e (gu_inj h6 hg (by omega) (by omega) z))) (hb i (by omega))
/-- heads' hats after a gust -/
def gusV (I : Nat → Nat → Int32) (gg nh : Nat) : Nat → Int32 := fun q => if q < nh then I 101 ((q + 6 * nh - gg) % nh) else I 101 q
theorem gusW_V {I : Nat → Nat → Int32} {gg nh : Nat} (h6 : nh ≤ 6) (hg : gg < 6) : gusW I gg nh = gusV I gg nh := by
  funext q
  unfold gusW gusV
  rw [fCpy_at]
  by_cases hq : q < nh
  · rw [if_pos (by omega), if_pos hq]
    obtain ⟨h1, h2⟩ := gu_to h6 hg hq
    have h3 := fGuB_at (w := I 101) h6 hg nh 0 (I 121) (by omega) (fun m hm => by omega) _ h1
    rw [h2] at h3
    exact h3
  · rw [if_neg (by omega), if_neg hq]
/-- what would be done after a gust -/
def gusM (I : Nat → Nat → Int32) (gg nh cb ce : Nat) (t : Int32) : Int32 := todM (upc I 101 (gusV I gg nh)) cb ce nh t
theorem gusM_msk {I : Nat → Nat → Int32} {gg nh cb ce : Nat} {t : Int32} : gusM (msk I) gg nh cb ce t = gusM I gg nh cb ce t := rfl
theorem AG.gus {I I' : Nat → Nat → Int32} (h : AG I I') (gg nh cb ce : Nat) (t : Int32) : gusM I' gg nh cb ce t = gusM I gg nh cb ce t := by rw [← gusM_msk, h.mk, gusM_msk]
theorem MI_gus {I : Nat → Nat → Int32} {gg nh na dd cb ce : Nat} (M : MI I nh na dd cb ce) (hg : gg < 6) : MI (gusI (svI I) gg nh) nh na dd cb ce := by
  refine ⟨M.nh, M.nh6, M.na, M.na6, M.dd, M.dd5, M.th, M.wf, ?_, M.kind⟩
  intro k hk
  have e : gusI (svI I) gg nh 101 k = gusV I gg nh k := congrFun (gusW_V (I := svI I) M.nh6 hg) k
  rw [e]
  unfold gusV
  rw [if_pos hk]
  exact M.worn _ (gu_to M.nh6 hg hk).1
theorem gus_tod {I : Nat → Nat → Int32} {gg nh cb ce : Nat} {t : Int32} (h6 : nh ≤ 6) (hg : gg < 6) : todM (gusI (svI I) gg nh) cb ce nh t = gusM I gg nh cb ce t := by
  unfold gusI
  rw [gusW_V h6 hg]
  rfl
/-- used and worn as they were, all else but scratch too -/
theorem AG.back {I I2 : Nat → Nat → Int32} (hmu : I 98 33 = nI 9999) (h : ∀ c, c ≠ 98 → c ≠ 101 → c ≠ 107 → c ≠ 120 → c ≠ 121 → I2 c = svI I c) (h98 : ∀ k, k ≠ 2 → I2 98 k = svI I 98 k) (hu : ∀ k, 6 ≤ k → I2 107 k = I 107 k) (hw : ∀ k, 6 ≤ k → I2 101 k = I 101 k) : AG I (pbI I2) := by
  intro c k z
  by_cases c1 : c = 101
  · subst c1
    show cpy6 (I2 123) (I2 101) k = I 101 k
    rw [h 123 (by decide) (by decide) (by decide) (by decide) (by decide)]
    show cpy6 (cpy6 (I 101) (I 123)) (I2 101) k = _
    unfold cpy6
    by_cases hk : k < 6
    · rw [if_pos hk, if_pos hk]
    · rw [if_neg hk]; exact hw k (by omega)
  by_cases c2 : c = 107
  · subst c2
    show cpy6 (I2 122) (I2 107) k = I 107 k
    rw [h 122 (by decide) (by decide) (by decide) (by decide) (by decide)]
    show cpy6 (cpy6 (I 107) (I 122)) (I2 107) k = _
    unfold cpy6
    by_cases hk : k < 6
    · rw [if_pos hk, if_pos hk]
    · rw [if_neg hk]; exact hu k (by omega)
  by_cases c3 : c = 98
  · subst c3
    show upc (upc (I2 98) 33 (nI 9999)) 2 (upc (I2 98) 33 (nI 9999) 35) k = I 98 k
    by_cases k1 : k = 2
    · subst k1
      rw [upc_eq, upc_ne _ _ (by decide), h98 35 (by decide)]
      rfl
    · rw [upc_ne _ _ k1]
      by_cases k2 : k = 33
      · subst k2; rw [upc_eq, hmu]
      · rw [upc_ne _ _ k2, h98 k k1]
        have k3 : k ≠ 35 := by intro e; subst e; cases z
        show upc (upc (I 98) 33 2000000000) 35 _ k = _
        rw [upc_ne _ _ k3, upc_ne _ _ k2]
  have n : ∀ y, xsc y k = true → c ≠ y := fun y hy e => by subst e; rw [hy] at z; cases z
  show pbI I2 c k = I c k
  have e1 : pbI I2 c = I2 c := by
    unfold pbI s1
    simp only [upc, c1, c2, c3, if_false]
  rw [e1, h c c3 c1 c2 (n 120 rfl) (n 121 rfl)]
  have n2 := n 122 rfl
  have n3 := n 123 rfl
  unfold svI s1
  simp only [upc, n2, n3, c3, if_false]
set_option maxRecDepth 100000 in
set_option maxHeartbeats 4000000 in
theorem M_gustedBy {d : Nat} {I : Nat → Nat → Int32} {J : Nat → Nat → Int64} {K : Nat → Nat → Option Nat} {h : List xSh} (S : St K h) {nh na dd cb ce : Nat} (M : MI I nh na dd cb ce) {gg : Nat} (hg : gg < 6) (hmu : I 98 33 = nI 9999) : EvP (d + 5) 196 0 [(0, .ref (98)), (1, .int (nI (gg)))] [] (I, J, K, h) (QI (fun x t => x = gusM I gg nh cb ce (-1) ∧ ∃ I', t = (I', J, K, h) ∧ AG I I')) := by
  refine p_aload_n k196_0 rfl ?_
  refine p_cV0v k196_1 (s_98 S) c_12_362_12 (Nat.le_of_ble_eq_true rfl) (M_save S) (fun m1 hq => ?_)
  obtain rfl := hq
  refine p_aload_n k196_4 rfl ?_
  refine p_iload_n k196_5 rfl ?_
  refine p_cV1i k196_6 (s_98 S) c_12_354_12 rfl (Nat.le_of_ble_eq_true rfl) (M_goGust S (show MI (svI I) nh na dd cb ce from M) (gg := gg) hg) (fun x1 m1 hq => ?_)
  obtain ⟨rfl, rfl⟩ := hq
  refine p_self 120 ?_
  refine p_istore_n (ls' := [(0, _), (1, _), (2, _)]) k196_9 rfl ?_
  refine p_aload_n k196_10 rfl ?_
  refine p_iconst (v := (-1)) k196_11 (by decide) ?_
  refine p_cV1i k196_12 (s_98 S) c_12_347_12 rfl (Nat.le_of_ble_eq_true rfl) (M_today S (MI_gus M hg) _ (-1)) (fun x1 m1 hq => ?_)
  obtain ⟨rfl, g, rfl⟩ := hq
  refine p_istore_n (ls' := [(0, _), (1, _), (2, _), (3, _)]) k196_15 rfl ?_
  refine p_aload_n k196_16 rfl ?_
  refine p_cV0v k196_17 (s_98 S) c_12_365_12 (Nat.le_of_ble_eq_true rfl) (M_putBack S) (fun m1 hq => ?_)
  obtain rfl := hq
  refine p_iload_n k196_20 rfl ?_
  refine p_ireturn k196_21 rt_196 ?_
  refine ⟨gus_tod M.nh6 hg, _, rfl, AG.back hmu (fun c q1 q2 q3 q4 q5 => ?_) (fun k hk => rfl) (fun k hk => rfl) (fun k hk => ?_)⟩
  · unfold gusI; simp only [upc, q2, q4, q5, if_false]
  · exact (congrFun (gusW_V (I := svI I) M.nh6 hg) k).trans (if_neg (by have := M.nh6; omega))

