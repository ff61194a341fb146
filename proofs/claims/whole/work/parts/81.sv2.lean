/-! put, gust, day keep what holds of the scene -/
theorem SV.worn9 {R : Nat → Nat → Int32} {nh na dd cb ce sn bn : Nat} (H : SV R nh na dd cb ce sn bn) {W : Nat → Int32} (h1 : ∀ k, k < nh → W k = -1 ∨ ∃ a, a < na ∧ W k = nI a) (h2 : ∀ k l a, k < nh → l < nh → a < na → W k = nI a → W l = nI a → k = l) : LV R (upc R 101 W) ∧ SV (upc R 101 W) nh na dd cb ce sn bn := by
  obtain ⟨M, Q, N, s1a, b1, b2⟩ := H
  have L : LV R (upc R 101 W) := (LV.refl R).ar (by decide) W
  exact ⟨L, ⟨M.nh, M.nh6, M.na, M.na6, M.dd, M.dd5, L.th M.th, L.wf M.wf, h1, M.kind⟩, ⟨h2, Q.used, Q.hsz, Q.fsz, Q.vv, Q.sk, Q.tr, Q.ro, Q.own, Q.dd9, Q.mu⟩, L.cn N, s1a, b1, b2⟩
theorem SV.put {R : Nat → Nat → Int32} {nh na dd cb ce sn bn : Nat} (H : SV R nh na dd cb ce sn bn) (v w : Int32) : LV R (putM R nh na v w).2 ∧ SV (putM R nh na v w).2 nh na dd cb ce sn bn := by
  have M := H.1
  have Q := H.2.1
  have h6 := M.nh6
  have a6 := M.na6
  unfold putM
  by_cases e1 : ixB v na = false ∨ (¬ w = -1 ∧ ixB w nh = false)
  · rw [if_pos e1]; exact ⟨LV.refl R, H⟩
  · rw [if_neg e1]
    by_cases e2 : ¬ w < 0 ∧ ¬ R 101 w.toNatClampNeg < 0 ∧ ¬ R 101 w.toNatClampNeg = v
    · rw [if_pos e2]; exact ⟨LV.refl R, H⟩
    · rw [if_neg e2]
      obtain ⟨b, hb, rfl⟩ := ixB_of (v := v) (n := na) (by omega) (by cases z : ixB v na; exact absurd (Or.inl z) e1; rfl)
      have key : ∀ (A : Nat → Nat → Int32) (X : Nat → Int32), A = upc R 101 X → (∀ k, k < nh → X k = -1 ∨ ∃ a, a < na ∧ a ≠ b ∧ X k = nI a ∧ R 101 k = nI a) → LV R (if w < 0 then A else s1 A 101 w.toNatClampNeg (nI b)) ∧ SV (if w < 0 then A else s1 A 101 w.toNatClampNeg (nI b)) nh na dd cb ce sn bn := by
        intro A X hX hX2
        have hd : ∀ k l a, k < nh → l < nh → a < na → X k = nI a → X l = nI a → k = l := by
          intro k l a hk hl ha h1 h2
          rcases hX2 k hk with e | ⟨a1, g1, g2, g3, g4⟩
          · exact absurd (h1.symm.trans e) (nI_neg (by omega) (by decide))
          · rcases hX2 l hl with e | ⟨a2, k1, k2, k3, k4⟩
            · exact absurd (h2.symm.trans e) (nI_neg (by omega) (by decide))
            · have q1 : a1 = a := nI_inj (by omega) (by omega) (g3.symm.trans h1)
              have q2 : a2 = a := nI_inj (by omega) (by omega) (k3.symm.trans h2)
              subst q1; subst q2
              exact Q.dist k l _ hk hl ha g4 k4
        rw [hX]
        by_cases e3 : w < 0
        · rw [if_pos e3]
          exact H.worn9 (fun k hk => (hX2 k hk).elim Or.inl (fun ⟨a, g1, _, g3, _⟩ => Or.inr ⟨a, g1, g3⟩)) hd
        · rw [if_neg e3]
          have e4 : ixB w nh = true := by
            cases z : ixB w nh
            · exact absurd (Or.inr ⟨fun y => e3 (by rw [y]; decide), z⟩) e1
            · rfl
          obtain ⟨q, hq, rfl⟩ := ixB_of (v := w) (n := nh) (by omega) e4
          rw [nI_clamp (by omega)]
          have es : s1 (upc R 101 X) 101 q (nI b) = upc R 101 (upc X q (nI b)) := by
            unfold s1
            rw [upc_eq, upc_uu]
          rw [es]
          refine H.worn9 (fun k hk => ?_) (fun k l a hk hl ha h1 h2 => ?_)
          · by_cases e : k = q
            · subst e; rw [upc_eq]; exact Or.inr ⟨b, hb, rfl⟩
            · rw [upc_ne _ _ e]; exact (hX2 k hk).elim Or.inl (fun ⟨a, g1, _, g3, _⟩ => Or.inr ⟨a, g1, g3⟩)
          · have hnb : ∀ k, k < nh → X k ≠ nI b := by
              intro k hk z
              rcases hX2 k hk with e | ⟨a1, g1, g2, g3, g4⟩
              · exact absurd (z.symm.trans e) (nI_neg (by omega) (by decide))
              · exact g2 (nI_inj (by omega) (by omega) (g3.symm.trans z))
            by_cases k1 : k = q
            · by_cases l1 : l = q
              · omega
              · rw [k1, upc_eq] at h1
                rw [upc_ne _ _ l1, ← h1] at h2
                exact absurd h2 (hnb l hl)
            · rw [upc_ne _ _ k1] at h1
              by_cases l1 : l = q
              · rw [l1, upc_eq] at h2
                rw [← h2] at h1
                exact absurd h1 (hnb k hk)
              · rw [upc_ne _ _ l1] at h2
                exact hd k l a hk hl ha h1 h2
      cases hf : fnd (isI (R 101) (nI b)) nh 0 with
      | none =>
        refine key R (R 101) (upc_self R 101).symm (fun k hk => ?_)
        rcases M.worn k hk with e | ⟨a, ha, e⟩
        · exact Or.inl e
        · refine Or.inr ⟨a, ha, fun z => ?_, e, e⟩
          have := fnd_none hf k (Nat.zero_le _) (by omega)
          rw [show isI (R 101) (nI b) k = true from decide_eq_true (by rw [e, z])] at this
          cases this
      | some p =>
        have hp := fnd_some hf
        have hpv : R 101 p = nI b := of_decide_eq_true hp.2.2.1
        refine key (s1 R 101 p (-1)) (upc (R 101) p (-1)) rfl (fun k hk => ?_)
        by_cases e : k = p
        · subst e; exact Or.inl (upc_eq _ _ _)
        · rw [upc_ne _ _ e]
          rcases M.worn k hk with e3 | ⟨a, ha, e3⟩
          · exact Or.inl e3
          · refine Or.inr ⟨a, ha, fun z => ?_, e3, e3⟩
            subst z
            exact e (Q.dist k p a hk (by omega) hb e3 hpv)
theorem gu_in2 {n g k l : Nat} (hn : n ≤ 6) (hg : g < 6) (hk : k < n) (hl : l < n) (h : (k + 6 * n - g) % n = (l + 6 * n - g) % n) : k = l := by
  rcases (show n = 1 ∨ n = 2 ∨ n = 3 ∨ n = 4 ∨ n = 5 ∨ n = 6 by omega) with rfl | rfl | rfl | rfl | rfl | rfl <;> omega
theorem SV.gust {R : Nat → Nat → Int32} {nh na dd cb ce sn bn : Nat} (H : SV R nh na dd cb ce sn bn) (v : Int32) : LV R (gustM R nh v).2 ∧ SV (gustM R nh v).2 nh na dd cb ce sn bn := by
  have M := H.1
  have Q := H.2.1
  have h6 := M.nh6
  unfold gustM
  by_cases e1 : inB v (nI 0) (nI 5) = true
  · rw [if_pos e1]
    obtain ⟨g, hg, rfl⟩ := inB_of0 (m := 5) (by decide) e1
    rw [nI_clamp (by omega)]
    have H2 : SV (upc R 121 (gusB R g nh)) nh na dd cb ce sn bn := H
    have hL := (LV.refl R).ar (c := 121) (by decide) (gusB R g nh)
    have h3 := H2.worn9 (W := gusW R g nh) (fun k hk => ?_) (fun k l a hk hl ha h1 h2 => ?_)
    · exact ⟨hL.ar (by decide) _, h3.2⟩
    · rw [gusW_V h6 (by omega)]
      unfold gusV
      rw [if_pos hk]
      exact M.worn _ (Nat.mod_lt _ (by omega))
    · rw [gusW_V h6 (by omega)] at h1 h2
      unfold gusV at h1 h2
      rw [if_pos hk] at h1
      rw [if_pos hl] at h2
      exact gu_in2 h6 (show g < 6 by omega) hk hl (Q.dist _ _ a (Nat.mod_lt _ (by omega)) (Nat.mod_lt _ (by omega)) ha h1 h2)
  · rw [if_neg e1]; exact ⟨LV.refl R, H⟩
theorem go_used {w : Nat → Int32} {nh na : Nat} (hna : na ≤ 6) (hw : ∀ k, k < nh → w k = -1 ∨ ∃ a, a < na ∧ w k = nI a) : ∀ (j k : Nat) (u : Nat → Int32), k + j = nh → (∀ a, a < na → ∃ m, m ≤ 9999 ∧ u a = nI m) → ∀ a, a < na → ∃ m, m ≤ 9999 ∧ fld (fGo w (nI 9999)) j k u a = nI m := by
  intro j
  induction j with
  | zero => intro k u _ h; exact h
  | succ j ih =>
    intro k u hk h
    refine ih (k + 1) _ (by omega) (fun a ha => ?_)
    unfold fGo
    rcases hw k (by omega) with e | ⟨b, hb, e⟩
    · rw [if_pos (by rw [e]; decide)]; exact h a ha
    · rw [if_neg (by rw [e, i_lt, nI_t (by omega)]; show ¬ (b : Int) < 0; omega), e, nI_clamp (by omega)]
      by_cases e2 : a = b
      · subst e2
        rw [upc_eq]
        obtain ⟨m, hm, e3⟩ := h a ha
        rw [e3]
        by_cases e4 : nI 9999 ≤ nI m
        · rw [if_pos e4]; exact ⟨9999, by omega, rfl⟩
        · rw [if_neg e4]
          rw [i_le, nI_t (by omega), nI_t (by omega)] at e4
          exact ⟨m + 1, by omega, (nI_succ m).symm⟩
      · rw [upc_ne _ _ e2]; exact h a ha
theorem SV.day {R : Nat → Nat → Int32} {nh na dd cb ce sn bn : Nat} (H : SV R nh na dd cb ce sn bn) : LV R (dayM R cb ce nh dd).2 ∧ ∃ dd2, SV (dayM R cb ce nh dd).2 nh na dd2 cb ce sn bn := by
  obtain ⟨M, Q, N, s1a, b1, b2⟩ := H
  unfold dayM
  by_cases e : dd = 9999
  · rw [if_pos e]; exact ⟨LV.refl R, dd, M, Q, N, s1a, b1, b2⟩
  · rw [if_neg e]
    have h9 := Q.dd9
    have L : LV R (goI (upc R 109 (dayU R cb ce nh)) nh) := (((LV.refl R).ar (c := 109) (by decide) _).ar (c := 107) (by decide) _).f98 (by decide) _
    have hu : ∀ a, a < na → ∃ m, m ≤ 9999 ∧ goU (upc R 109 (dayU R cb ce nh)) nh a = nI m := by
      intro a ha
      have h := go_used M.na6 M.worn nh 0 (R 107) (by omega) Q.used a ha
      rw [← Q.mu] at h
      exact h
    refine ⟨L, dd + 1, ⟨M.nh, M.nh6, M.na, M.na6, ?_, by omega, L.th M.th, L.wf M.wf, M.worn, M.kind⟩, ⟨Q.dist, hu, Q.hsz, Q.fsz, Q.vv, Q.sk, Q.tr, Q.ro, Q.own, by omega, Q.mu⟩, L.cn N, s1a, b1, b2⟩
    show R 98 2 + nI 1 = nI (dd + 1)
    rw [M.dd]
    exact (nI_succ dd).symm
