/-! what holds of the scene between calls; that calls keep it -/
/-- what holds of the scene -/
def SV (R : Nat → Nat → Int32) (nh na dd cb ce sn bn : Nat) : Prop := MI R nh na dd cb ce ∧ AR R nh na dd ∧ CN9 R cb ce ∧ (R 98 43 = nI sn ∧ sn ≤ 6) ∧ (R 98 47 = nI bn ∧ bn ≤ 8) ∧ ∀ k, k < bn → (∃ a, a < na ∧ R 131 k = nI a) ∧ ∃ q, q < nh ∧ R 132 k = nI q
/-- only the scene's own places changed -/
def LV (R R2 : Nat → Nat → Int32) : Prop := (∀ c, c < 98 ∨ (110 ≤ c ∧ c ≤ 119) ∨ 133 ≤ c → R2 c = R c) ∧ ∀ k, k ≠ 0 → k ≠ 1 → k ≠ 2 → k ≠ 43 → k ≠ 47 → R2 98 k = R 98 k
theorem LV.refl (R : Nat → Nat → Int32) : LV R R := ⟨fun _ _ => rfl, fun _ _ _ _ _ _ => rfl⟩
theorem LV.ar {R R2 : Nat → Nat → Int32} (h : LV R R2) {c : Nat} (hc : (98 < c ∧ c < 110) ∨ (119 < c ∧ c < 133)) (g : Nat → Int32) : LV R (upc R2 c g) := ⟨fun x hx => (upc_ne _ _ (by omega)).trans (h.1 x hx), fun k a b e f g2 => (congrFun (upc_ne R2 _ (show 98 ≠ c by omega)) k).trans (h.2 k a b e f g2)⟩
theorem LV.sa {R R2 : Nat → Nat → Int32} (h : LV R R2) {c : Nat} (hc : (98 < c ∧ c < 110) ∨ (119 < c ∧ c < 133)) (i : Nat) (v : Int32) : LV R (s1 R2 c i v) := h.ar hc _
theorem LV.f98 {R R2 : Nat → Nat → Int32} (h : LV R R2) {k : Nat} (hk : k = 0 ∨ k = 1 ∨ k = 2 ∨ k = 43 ∨ k = 47) (v : Int32) : LV R (s1 R2 98 k v) := ⟨fun x hx => (s1_o (by omega)).trans (h.1 x hx), fun i a b c d e => (s1_k (by omega)).trans (h.2 i a b c d e)⟩
theorem LV.th {R R2 : Nat → Nat → Int32} (h : LV R R2) {cb ce : Nat} (T : TH R cb ce) : TH R2 cb ce := by
  unfold TH
  rw [h.2 15 (by decide) (by decide) (by decide) (by decide) (by decide), h.1 111 (by omega)]
  exact T
theorem LV.wf {R R2 : Nat → Nat → Int32} (h : LV R R2) {cb ce : Nat} (T : WF R cb ce) : WF R2 cb ce := by
  intro c h1 h2 h3
  rw [h.1 112 (by omega)] at h3
  have h4 := T c h1 h2 h3
  unfold cOK at h4 ⊢
  rw [h.1 115 (by omega), h.1 116 (by omega), h.1 117 (by omega)]
  exact h4
theorem LV.cn {R R2 : Nat → Nat → Int32} (h : LV R R2) {cb ce : Nat} (T : CN9 R cb ce) : CN9 R2 cb ce := by
  unfold CN9
  rw [h.1 113 (by omega)]
  exact T
theorem SV.head {R : Nat → Nat → Int32} {nh na dd cb ce sn bn : Nat} (H : SV R nh na dd cb ce sn bn) (v : Int32) : LV R (headM R nh v).2 ∧ ∃ nh2, SV (headM R nh v).2 nh2 na dd cb ce sn bn := by
  obtain ⟨M, Q, N, s1a, b1, b2⟩ := H
  unfold headM
  by_cases e1 : inB v (nI 0) (nI 9) = false
  · rw [if_pos e1]; exact ⟨LV.refl R, nh, M, Q, N, s1a, b1, b2⟩
  · rw [if_neg e1]
    by_cases e2 : nh = 6
    · rw [if_pos e2]; exact ⟨LV.refl R, nh, M, Q, N, s1a, b1, b2⟩
    · rw [if_neg e2]
      obtain ⟨y, hy, rfl⟩ := inB_of0 (m := 9) (by decide) (by cases z : inB v (nI 0) (nI 9); exact absurd z e1; rfl)
      have h6 := M.nh6
      have L : LV R (s1 (s1 (s1 (s1 R 99 nh (nI y)) 100 nh (-1)) 101 nh (-1)) 98 0 (nI (nh + 1))) := ((((LV.refl R).sa (by decide) _ _).sa (by decide) _ _).sa (by decide) _ _).f98 (by decide) _
      have w : ∀ k, k < nh + 1 → upc (R 101) nh (-1) k = -1 ∨ ∃ a, a < na ∧ upc (R 101) nh (-1) k = nI a := by
        intro k hk
        by_cases e : k = nh
        · subst e; exact Or.inl (upc_eq _ _ _)
        · rw [upc_ne _ _ e]; exact M.worn k (by omega)
      refine ⟨L, nh + 1, ⟨rfl, by omega, M.na, M.na6, M.dd, M.dd5, L.th M.th, L.wf M.wf, w, M.kind⟩, ⟨fun k l a hk hl ha h1 h2 => ?_, Q.used, Q.hsz, fun k hk => ?_, Q.vv, Q.sk, Q.tr, Q.ro, fun k hk => ?_, Q.dd9, Q.mu⟩, L.cn N, s1a, b1, fun k hk => ?_⟩
      · replace h1 : upc (R 101) nh (-1) k = nI a := h1
        replace h2 : upc (R 101) nh (-1) l = nI a := h2
        have n1 : k ≠ nh := fun z => by rw [z, upc_eq] at h1; exact nI_neg (v := a) (by have := M.na6; omega) (by decide) h1.symm
        have n2 : l ≠ nh := fun z => by rw [z, upc_eq] at h2; exact nI_neg (v := a) (by have := M.na6; omega) (by decide) h2.symm
        rw [upc_ne _ _ n1] at h1
        rw [upc_ne _ _ n2] at h2
        exact Q.dist k l a (by omega) (by omega) ha h1 h2
      · show ∃ z, z ≤ 9 ∧ upc (R 99) nh (nI y) k = nI z
        by_cases e : k = nh
        · subst e; exact ⟨y, hy, upc_eq _ _ _⟩
        · rw [upc_ne _ _ e]; exact Q.fsz k (by omega)
      · show upc (R 100) nh (-1) k = -1 ∨ ∃ a, a < na ∧ upc (R 100) nh (-1) k = nI a
        by_cases e : k = nh
        · subst e; exact Or.inl (upc_eq _ _ _)
        · rw [upc_ne _ _ e]; exact Q.own k (by omega)
      · obtain ⟨cq1, q, cq2, cq3⟩ := b2 k hk
        exact ⟨cq1, q, by omega, cq3⟩
theorem SV.own {R : Nat → Nat → Int32} {nh na dd cb ce sn bn : Nat} (H : SV R nh na dd cb ce sn bn) (v w : Int32) : LV R (ownM R nh na v w).2 ∧ SV (ownM R nh na v w).2 nh na dd cb ce sn bn := by
  obtain ⟨M, Q, N, s1a, b1, b2⟩ := H
  unfold ownM
  by_cases e1 : ixB v nh = false
  · rw [if_pos e1]; exact ⟨LV.refl R, M, Q, N, s1a, b1, b2⟩
  · rw [if_neg e1]
    by_cases e2 : w = -1 ∨ ixB w na = true
    · rw [if_pos e2]
      have L : LV R (s1 R 100 v.toNatClampNeg w) := (LV.refl R).sa (by decide) _ _
      refine ⟨L, ⟨M.nh, M.nh6, M.na, M.na6, M.dd, M.dd5, L.th M.th, L.wf M.wf, M.worn, M.kind⟩, ⟨Q.dist, Q.used, Q.hsz, Q.fsz, Q.vv, Q.sk, Q.tr, Q.ro, fun k hk => ?_, Q.dd9, Q.mu⟩, L.cn N, s1a, b1, b2⟩
      show upc (R 100) v.toNatClampNeg w k = -1 ∨ ∃ a, a < na ∧ upc (R 100) v.toNatClampNeg w k = nI a
      by_cases e : k = v.toNatClampNeg
      · rw [e, upc_eq]
        rcases e2 with e2 | e2
        · exact Or.inl e2
        · obtain ⟨a, ha, h3⟩ := ixB_of (by have := M.na6; omega) e2
          exact Or.inr ⟨a, ha, h3⟩
      · rw [upc_ne _ _ e]; exact Q.own k hk
    · rw [if_neg e2]; exact ⟨LV.refl R, M, Q, N, s1a, b1, b2⟩
theorem SV.skill {R : Nat → Nat → Int32} {nh na dd cb ce sn bn : Nat} (H : SV R nh na dd cb ce sn bn) (v w : Int32) : LV R (skillM R na v w).2 ∧ SV (skillM R na v w).2 nh na dd cb ce sn bn := by
  obtain ⟨M, Q, N, s1a, b1, b2⟩ := H
  unfold skillM
  by_cases e1 : ixB v na = false
  · rw [if_pos e1]; exact ⟨LV.refl R, M, Q, N, s1a, b1, b2⟩
  · rw [if_neg e1]
    by_cases e2 : inB w (nI 0) (nI 50) = false
    · rw [if_pos e2]; exact ⟨LV.refl R, M, Q, N, s1a, b1, b2⟩
    · rw [if_neg e2]
      obtain ⟨y, hy, rfl⟩ := inB_of0 (m := 50) (by decide) (by cases z : inB w (nI 0) (nI 50); exact absurd z e2; rfl)
      have L : LV R (s1 R 105 v.toNatClampNeg (nI y)) := (LV.refl R).sa (by decide) _ _
      refine ⟨L, ⟨M.nh, M.nh6, M.na, M.na6, M.dd, M.dd5, L.th M.th, L.wf M.wf, M.worn, M.kind⟩, ⟨Q.dist, Q.used, Q.hsz, Q.fsz, Q.vv, fun a ha => ?_, Q.tr, Q.ro, Q.own, Q.dd9, Q.mu⟩, L.cn N, s1a, b1, b2⟩
      show ∃ s, s ≤ 50 ∧ upc (R 105) v.toNatClampNeg (nI y) a = nI s
      by_cases e : a = v.toNatClampNeg
      · rw [e, upc_eq]; exact ⟨y, hy, rfl⟩
      · rw [upc_ne _ _ e]; exact Q.sk a ha
theorem SV.row {R : Nat → Nat → Int32} {nh na dd cb ce sn bn : Nat} (H : SV R nh na dd cb ce sn bn) (v w n : Int32) : LV R (rowM R na v w n).2 ∧ SV (rowM R na v w n).2 nh na dd cb ce sn bn := by
  obtain ⟨M, Q, N, s1a, b1, b2⟩ := H
  unfold rowM
  by_cases e1 : ixB v na = false ∨ inB w (nI 0) (nI 3) = false
  · rw [if_pos e1]; exact ⟨LV.refl R, M, Q, N, s1a, b1, b2⟩
  · rw [if_neg e1]
    by_cases e2 : inB n (nI 0) (nI 9) = false
    · rw [if_pos e2]; exact ⟨LV.refl R, M, Q, N, s1a, b1, b2⟩
    · rw [if_neg e2]
      by_cases e3 : R 102 v.toNatClampNeg = nI 6
      · rw [if_pos e3]
        obtain ⟨y, hy, rfl⟩ := inB_of0 (m := 9) (by decide) (by cases z : inB n (nI 0) (nI 9); exact absurd z e2; rfl)
        have L : LV R (s1 R 108 (4 * v.toNatClampNeg + w.toNatClampNeg) (nI y)) := (LV.refl R).sa (by decide) _ _
        refine ⟨L, ⟨M.nh, M.nh6, M.na, M.na6, M.dd, M.dd5, L.th M.th, L.wf M.wf, M.worn, M.kind⟩, ⟨Q.dist, Q.used, Q.hsz, Q.fsz, Q.vv, Q.sk, Q.tr, fun a p ha hp => ?_, Q.own, Q.dd9, Q.mu⟩, L.cn N, s1a, b1, b2⟩
        show ∃ r, r ≤ 9 ∧ upc (R 108) (4 * v.toNatClampNeg + w.toNatClampNeg) (nI y) (4 * a + p) = nI r
        by_cases e : 4 * a + p = 4 * v.toNatClampNeg + w.toNatClampNeg
        · rw [e, upc_eq]; exact ⟨y, hy, rfl⟩
        · rw [upc_ne _ _ e]; exact Q.ro a p ha hp
      · rw [if_neg e3]; exact ⟨LV.refl R, M, Q, N, s1a, b1, b2⟩
theorem SV.see {R : Nat → Nat → Int32} {nh na dd cb ce sn bn : Nat} (H : SV R nh na dd cb ce sn bn) (v w : Int32) : LV R (seeM R na sn v w).2 ∧ ∃ sn2, SV (seeM R na sn v w).2 nh na dd cb ce sn2 bn := by
  obtain ⟨M, Q, N, s1a, b1, b2⟩ := H
  have h9 : LV R R ∧ ∃ sn2, SV R nh na dd cb ce sn2 bn := ⟨LV.refl R, sn, M, Q, N, s1a, b1, b2⟩
  unfold seeM
  by_cases e1 : v = -1
  · rw [if_pos e1]
    have L : LV R (s1 R 98 43 (nI 0)) := (LV.refl R).f98 (by decide) _
    exact ⟨L, 0, ⟨M.nh, M.nh6, M.na, M.na6, M.dd, M.dd5, L.th M.th, L.wf M.wf, M.worn, M.kind⟩, ⟨Q.dist, Q.used, Q.hsz, Q.fsz, Q.vv, Q.sk, Q.tr, Q.ro, Q.own, Q.dd9, Q.mu⟩, L.cn N, ⟨rfl, by decide⟩, b1, b2⟩
  · rw [if_neg e1]
    by_cases e2 : ixB v na = false
    · rw [if_pos e2]; exact h9
    · rw [if_neg e2]
      by_cases e3 : inB w (nI 0) (nI 999) = false
      · rw [if_pos e3]; exact h9
      · rw [if_neg e3]
        by_cases e4 : sn = 6
        · rw [if_pos e4]; exact h9
        · rw [if_neg e4]
          have L : LV R (s1 (s1 (s1 R 128 sn v) 129 sn w) 98 43 (nI (sn + 1))) := (((LV.refl R).sa (by decide) _ _).sa (by decide) _ _).f98 (by decide) _
          exact ⟨L, sn + 1, ⟨M.nh, M.nh6, M.na, M.na6, M.dd, M.dd5, L.th M.th, L.wf M.wf, M.worn, M.kind⟩, ⟨Q.dist, Q.used, Q.hsz, Q.fsz, Q.vv, Q.sk, Q.tr, Q.ro, Q.own, Q.dd9, Q.mu⟩, L.cn N, ⟨rfl, by have := s1a.2; omega⟩, b1, b2⟩
theorem SV.book {R : Nat → Nat → Int32} {nh na dd cb ce sn bn : Nat} (H : SV R nh na dd cb ce sn bn) (v w : Int32) : LV R (bookM R nh na bn v w).2 ∧ ∃ bn2, SV (bookM R nh na bn v w).2 nh na dd cb ce sn bn2 := by
  obtain ⟨M, Q, N, s1a, b1, b2⟩ := H
  have h9 : LV R R ∧ ∃ bn2, SV R nh na dd cb ce sn bn2 := ⟨LV.refl R, bn, M, Q, N, s1a, b1, b2⟩
  unfold bookM
  by_cases e1 : v = -1
  · rw [if_pos e1]
    have L : LV R (s1 R 98 47 (nI 0)) := (LV.refl R).f98 (by decide) _
    exact ⟨L, 0, ⟨M.nh, M.nh6, M.na, M.na6, M.dd, M.dd5, L.th M.th, L.wf M.wf, M.worn, M.kind⟩, ⟨Q.dist, Q.used, Q.hsz, Q.fsz, Q.vv, Q.sk, Q.tr, Q.ro, Q.own, Q.dd9, Q.mu⟩, L.cn N, s1a, ⟨rfl, by decide⟩, fun k hk => absurd hk (Nat.not_lt_zero _)⟩
  · rw [if_neg e1]
    by_cases e2 : ixB v na = false ∨ ixB w nh = false
    · rw [if_pos e2]; exact h9
    · rw [if_neg e2]
      by_cases e4 : bn = 8
      · rw [if_pos e4]; exact h9
      · rw [if_neg e4]
        have L : LV R (s1 (s1 (s1 R 131 bn v) 132 bn w) 98 47 (nI (bn + 1))) := (((LV.refl R).sa (by decide) _ _).sa (by decide) _ _).f98 (by decide) _
        refine ⟨L, bn + 1, ⟨M.nh, M.nh6, M.na, M.na6, M.dd, M.dd5, L.th M.th, L.wf M.wf, M.worn, M.kind⟩, ⟨Q.dist, Q.used, Q.hsz, Q.fsz, Q.vv, Q.sk, Q.tr, Q.ro, Q.own, Q.dd9, Q.mu⟩, L.cn N, s1a, ⟨rfl, by have := b1.2; omega⟩, fun k hk => ?_⟩
        show (∃ a, a < na ∧ upc (R 131) bn v k = nI a) ∧ ∃ q, q < nh ∧ upc (R 132) bn w k = nI q
        by_cases e : k = bn
        · subst e
          rw [upc_eq, upc_eq]
          exact ⟨ixB_of (by have := M.na6; omega) (by cases z : ixB v na; exact absurd (Or.inl z) e2; rfl), ixB_of (by have := M.nh6; omega) (by cases z : ixB w nh; exact absurd (Or.inr z) e2; rfl)⟩
        · rw [upc_ne _ _ e, upc_ne _ _ e]; exact b2 k (by omega)
theorem SV.change {R : Nat → Nat → Int32} {nh na dd cb ce sn bn : Nat} (H : SV R nh na dd cb ce sn bn) (v w : Int32) : LV R (changeM R nh v w).2 ∧ SV (changeM R nh v w).2 nh na dd cb ce sn bn := by
  obtain ⟨M, Q, N, s1a, b1, b2⟩ := H
  unfold changeM
  by_cases e1 : ixB v nh = false ∨ ixB w nh = false
  · rw [if_pos e1]; exact ⟨LV.refl R, M, Q, N, s1a, b1, b2⟩
  · rw [if_neg e1]
    by_cases e2 : v = w
    · rw [if_pos e2]; exact ⟨LV.refl R, M, Q, N, s1a, b1, b2⟩
    · rw [if_neg e2]
      obtain ⟨a, ha, rfl⟩ := ixB_of (v := v) (n := nh) (by have := M.nh6; omega) (by cases z : ixB v nh; exact absurd (Or.inl z) e1; rfl)
      obtain ⟨b, hb, rfl⟩ := ixB_of (v := w) (n := nh) (by have := M.nh6; omega) (by cases z : ixB w nh; exact absurd (Or.inr z) e1; rfl)
      have h6 := M.nh6
      rw [nI_clamp (by omega), nI_clamp (by omega)]
      have hab : a ≠ b := fun z => e2 (by rw [z])
      have L : LV R (swI R a b) := ((LV.refl R).sa (by decide) _ _).sa (by decide) _ _
      refine ⟨L, MI_sw M ha hb, ⟨fun k l z hk hl hz h1 h2 => ?_, Q.used, Q.hsz, Q.fsz, Q.vv, Q.sk, Q.tr, Q.ro, Q.own, Q.dd9, Q.mu⟩, L.cn N, s1a, b1, b2⟩
      replace h1 : swI R a b 101 k = nI z := h1
      replace h2 : swI R a b 101 l = nI z := h2
      rw [swI_a9] at h1 h2
      have hd := fun i j hi hj => Q.dist i j z hi hj hz
      by_cases k1 : k = b
      · rw [if_pos k1] at h1
        by_cases l1 : l = b
        · omega
        · rw [if_neg l1] at h2
          by_cases l2 : l = a
          · rw [if_pos l2] at h2; exact absurd (hd a b ha hb h1 h2) hab
          · rw [if_neg l2] at h2; exact absurd (hd a l ha hl h1 h2) (fun z => l2 z.symm)
      · rw [if_neg k1] at h1
        by_cases k2 : k = a
        · rw [if_pos k2] at h1
          by_cases l1 : l = b
          · rw [if_pos l1] at h2; exact absurd (hd b a hb ha h1 h2) (fun z => hab z.symm)
          · rw [if_neg l1] at h2
            by_cases l2 : l = a
            · omega
            · rw [if_neg l2] at h2; exact absurd (hd b l hb hl h1 h2) (fun z => l1 z.symm)
        · rw [if_neg k2] at h1
          by_cases l1 : l = b
          · rw [if_pos l1] at h2; exact absurd (hd k a hk ha h1 h2) k2
          · rw [if_neg l1] at h2
            by_cases l2 : l = a
            · rw [if_pos l2] at h2; exact absurd (hd k b hk hb h1 h2) k1
            · rw [if_neg l2] at h2; exact hd k l hk hl h1 h2
