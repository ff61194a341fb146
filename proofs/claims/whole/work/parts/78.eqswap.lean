/-! deeds are bounded; swap by gains is swap by sums -/
/-- between lo and hi -/
def Rg (x : Int32) (lo hi : Int) : Prop := lo ≤ x.toInt ∧ x.toInt ≤ hi
theorem Rg.add {x y : Int32} {a b c d : Int} (h : Rg x a b) (g : Rg y c d) (h1 : -1000000000 ≤ a + c) (h2 : b + d ≤ 1000000000) : (x + y).toInt = x.toInt + y.toInt ∧ Rg (x + y) (a + c) (b + d) := by
  obtain ⟨p1, p2⟩ := h
  obtain ⟨q1, q2⟩ := g
  have e : (x + y).toInt = x.toInt + y.toInt := by
    rw [Int32.toInt_add]
    exact Int.bmod_eq_of_le (by omega) (by omega)
  exact ⟨e, by unfold Rg; rw [e]; omega⟩
theorem Rg.sub {x y : Int32} {a b c d : Int} (h : Rg x a b) (g : Rg y c d) (h1 : -1000000000 ≤ a - d) (h2 : b - c ≤ 1000000000) : (x - y).toInt = x.toInt - y.toInt ∧ Rg (x - y) (a - d) (b - c) := by
  obtain ⟨p1, p2⟩ := h
  obtain ⟨q1, q2⟩ := g
  have e : (x - y).toInt = x.toInt - y.toInt := by
    rw [Int32.toInt_sub]
    exact Int.bmod_eq_of_le (by omega) (by omega)
  exact ⟨e, by unfold Rg; rw [e]; omega⟩
theorem Rg.nn {n : Nat} {a b : Int} (hn : n < 2 ^ 31) (h1 : a ≤ n) (h2 : (n : Int) ≤ b) : Rg (nI n) a b := by unfold Rg; rw [nI_t hn]; exact ⟨h1, h2⟩
theorem Rg.mono {x : Int32} {a b c d : Int} (h : Rg x a b) (h1 : c ≤ a) (h2 : b ≤ d) : Rg x c d := ⟨Int.le_trans h1 h.1, Int.le_trans h.2 h2⟩
theorem Rg.mx {x : Int32} {a b : Int} (h : Rg x a b) (hb : 0 ≤ b) : Rg (mxI (nI 0) x) 0 b := by
  unfold mxI
  by_cases e : x < nI 0
  · rw [if_pos e]; exact Rg.nn (by decide) (by decide) hb
  · rw [if_neg e]
    rw [i_lt, nI_t (by decide)] at e
    exact ⟨by omega, h.2⟩
theorem Rg.toN {x : Int32} {b : Nat} (h : Rg x 0 b) : ∃ m, m ≤ b ∧ x = nI m := by
  obtain ⟨h1, h2⟩ := h
  have hx := Int32.toInt_lt x
  refine ⟨x.toInt.toNat, by omega, ?_⟩
  rw [i_eq, nI_t (by omega)]
  omega
theorem Rg.neg {x : Int32} {a b : Int} (h : Rg x a b) (h1 : -1000000000 ≤ a) (h2 : b ≤ 1000000000) : Rg (-x) (-b) (-a) := by
  have h3 := (Rg.sub (Rg.nn (n := 0) (a := 0) (b := 0) (by decide) (by decide) (by decide)) h (by omega) (by omega)).2
  have e : nI 0 - x = -x := Int32.zero_sub x
  rw [e] at h3
  exact h3.mono (by omega) (by omega)
/-- the town that holds: its clauses' numbers -/
def CN9 (R : Nat → Nat → Int32) (cb ce : Nat) : Prop := ce - cb ≤ 10 ∧ ∀ c, cb ≤ c → c < ce → ∃ v, v < 100 ∧ R 113 c = nI v
theorem fit_rg {R : Nat → Nat → Int32} {cb ce a hh : Nat} (hN : CN9 R cb ce) (hle : cb ≤ ce) : Rg (fitF R cb ce a hh) (-1000) 1000 := by
  unfold fitF
  have h10 := hN.1
  have L2 : ∀ (j c : Nat) (x : Int32) (m : Nat), c + j = ce → cb ≤ c → m + j ≤ 10 → Rg x (-(100 * m)) (100 * m) → Rg (fld (fFit (R 112) (R 113) (hB R a hh)) j c x) (-1000) 1000 := by
    intro j
    induction j with
    | zero => intro c x m _ _ hm hx; exact hx.mono (by omega) (by omega)
    | succ j ih =>
      intro c x m hc hcb hm hx
      obtain ⟨v, hv, e⟩ := hN.2 c hcb (by omega)
      have hv2 : Rg (R 113 c) 0 99 := by rw [e]; exact Rg.nn (by omega) (by omega) (by omega)
      refine ih (c + 1) _ (m + 1) (by omega) (by omega) (by omega) ?_
      unfold fFit
      split
      · exact hx.mono (by omega) (by omega)
      · split
        · exact hx.mono (by omega) (by omega)
        · split
          · exact (hx.add hv2 (by omega) (by omega)).2.mono (by omega) (by omega)
          · exact (hx.add (hv2.neg (by omega) (by omega)) (by omega) (by omega)).2.mono (by omega) (by omega)
  exact L2 (ce - cb) cb (nI 0) 0 (by omega) (Nat.le_refl _) (by omega) (Rg.nn (by decide) (by decide) (by decide))
theorem moth_rg {R : Nat → Nat → Int32} {cb ce : Nat} (hN : CN9 R cb ce) (hle : cb ≤ ce) : ∃ v, v < 100 ∧ mothF R cb ce = nI v := by
  unfold mothF
  have L : ∀ (j c : Nat) (x : Int32), c + j = ce → cb ≤ c → (∃ v, v < 100 ∧ x = nI v) → ∃ v, v < 100 ∧ fld (fMoth (R 112) (R 113)) j c x = nI v := by
    intro j
    induction j with
    | zero => intro c x _ _ h; exact h
    | succ j ih =>
      intro c x hc hcb h
      refine ih (c + 1) _ (by omega) (by omega) ?_
      unfold fMoth
      split
      · exact hN.2 c hcb (by omega)
      · exact h
  exact L _ cb _ (by omega) (Nat.le_refl _) ⟨0, by decide, rfl⟩
theorem AR.db {R : Nat → Nat → Int32} {nh na dd cb ce : Nat} (M : MI R nh na dd cb ce) (Q : AR R nh na dd) (hN : CN9 R cb ce) : DB R cb ce nh na := by
  intro a k ha hk
  have hle := (TH.le M.th).1
  obtain ⟨kk, hkk, hke⟩ := M.kind a ha
  obtain ⟨u, hu9, hu⟩ := Q.used a ha
  obtain ⟨x, hx9, hx⟩ := Q.hsz a ha
  obtain ⟨y, hy9, hy⟩ := Q.fsz k hk
  obtain ⟨v, hv9, hv⟩ := Q.vv a ha
  obtain ⟨s, hs9, hs⟩ := Q.sk a ha
  obtain ⟨r, hr9, hr⟩ := Q.ro a (dd % 4) ha (Nat.mod_lt _ (by decide))
  obtain ⟨mo, hmo, hme⟩ := moth_rg hN hle
  have hf := fit_rg (a := a) (hh := k) hN hle
  have hm : Rg (mxI (nI 0) (R 105 a + fitF R cb ce a k)) 0 1050 := by
    refine Rg.mx (a := -2000) ?_ (by decide)
    rw [hs]
    exact ((Rg.nn (n := s) (a := 0) (b := 50) (by omega) (by omega) (by omega)).add hf (by omega) (by omega)).2.mono (by omega) (by omega)
  have hap : Rg (apartI R a k) 0 9 := by
    unfold apartI
    rw [hx, hy]
    by_cases e : nI x < nI y
    · rw [if_pos e]
      rw [i_lt, nI_t (by omega), nI_t (by omega)] at e
      rw [pk_sub (by omega)]
      exact Rg.nn (by omega) (by omega) (by omega)
    · rw [if_neg e]
      rw [i_lt, nI_t (by omega), nI_t (by omega)] at e
      rw [pk_sub (by omega)]
      exact Rg.nn (by omega) (by omega) (by omega)
  have hea : Rg (mothF R cb ce * R 107 a / nI 4) 0 1000000 := by
    have hmu : mo * u ≤ 99 * 9999 := Nat.mul_le_mul (by omega) hu9
    rw [hme, hu, pk_mul, pk_div (by omega) (by decide) (by decide)]
    exact Rg.nn (by omega) (by omega) (by omega)
  have hvv : Rg (R 103 a) 0 9 := by rw [hv]; exact Rg.nn (by omega) (by omega) (by omega)
  have hrr : Rg (R 108 (4 * a + dd % 4)) 0 9 := by rw [hr]; exact Rg.nn (by omega) (by omega) (by omega)
  have hd : Rg (deedM R cb ce a k) 0 1999 := by
    unfold deedM
    rw [M.dd, hke, nI_clamp (by have := M.dd5; omega), nI_clamp (by omega)]
    rcases (show kk = 0 ∨ kk = 1 ∨ kk = 2 ∨ kk = 3 ∨ kk = 4 ∨ kk = 5 ∨ kk = 6 by omega) with rfl | rfl | rfl | rfl | rfl | rfl | rfl
    · exact hm.mono (by omega) (by omega)
    · show Rg (mxI (nI 0) (_ - nI 2 * apartI R a k)) 0 1999
      have h2 : Rg (nI 2 * apartI R a k) 0 18 := by
        obtain ⟨z, hz, e⟩ := Rg.toN (b := 9) hap
        rw [e, pk_mul]
        exact Rg.nn (by omega) (by omega) (by omega)
      exact (Rg.mx ((hm.sub h2 (by omega) (by omega)).2) (by omega)).mono (by omega) (by omega)
    · show Rg (mxI (nI 0) (_ - _)) 0 1999
      exact (Rg.mx ((hm.sub hea (by omega) (by omega)).2) (by omega)).mono (by omega) (by omega)
    · show Rg (_ + R 103 a) 0 1999
      exact (hm.add hvv (by omega) (by omega)).2.mono (by omega) (by omega)
    · show Rg (if 0 < apartI R a k then nI 0 else _) 0 1999
      split
      · exact Rg.nn (by decide) (by decide) (by decide)
      · exact hm.mono (by omega) (by omega)
    · show Rg (mxI (nI 0) (mxI (nI 0) (_ - _) - R 103 a)) 0 1999
      have h1 := (Rg.mx ((hm.sub hea (by omega) (by omega)).2) (by omega))
      exact (Rg.mx ((h1.sub hvv (by omega) (by omega)).2) (by omega)).mono (by omega) (by omega)
    · show Rg (_ + R 103 a + R 108 (4 * a + dd % 4)) 0 1999
      exact ((hm.add hvv (by omega) (by omega)).2.add hrr (by omega) (by omega)).2.mono (by omega) (by omega)
  obtain ⟨m, hm9, e⟩ := Rg.toN (b := 1999) hd
  exact ⟨m, by omega, e⟩
/-! sums -/
theorem sum_sh {f : Nat → Int32} {d : Int32} : ∀ (j k : Nat) (s : Int32), fld (fun i s => s + f i) j k (s + d) = fld (fun i s => s + f i) j k s + d := by
  intro j
  induction j with
  | zero => intro k s; rfl
  | succ j ih =>
    intro k s
    show fld _ j (k + 1) (s + d + f k) = fld _ j (k + 1) (s + f k) + d
    rw [← ih, show s + d + f k = s + f k + d by ac_rfl]
theorem i5 (s f g : Int32) : s + f + (g - f) = s + g := by
  rw [Int32.add_assoc, Int32.add_comm f, Int32.sub_add_cancel]
theorem sum_ch {f g : Nat → Int32} {a : Nat} (h : ∀ i, i ≠ a → g i = f i) : ∀ (j k : Nat) (s : Int32), k ≤ a → a < k + j → fld (fun i s => s + g i) j k s = fld (fun i s => s + f i) j k s + (g a - f a) := by
  intro j
  induction j with
  | zero => intro k s h1 h2; omega
  | succ j ih =>
    intro k s h1 h2
    show fld _ j (k + 1) (s + g k) = fld _ j (k + 1) (s + f k) + (g a - f a)
    by_cases e : k = a
    · subst e
      rw [fld_congr (f := fun i s => s + g i) (g := fun i s => s + f i) (fun i h3 _ x => by show x + g i = x + f i; rw [h i (by omega)]), ← sum_sh]
      refine congrArg (fld _ j (k + 1)) ?_
      exact (i5 _ _ _).symm
    · rw [h k e]
      exact ih (k + 1) _ (by omega) (by omega)
theorem sum_rg {f : Nat → Int32} {n : Nat} (hn : n ≤ 6) (h : ∀ k, k < n → Rg (f k) 0 2000) : Rg (fld (fun i s => s + f i) n 0 (nI 0)) 0 12000 := by
  have L : ∀ (j k : Nat) (s : Int32), k + j = n → Rg s 0 (2000 * k) → Rg (fld (fun i s => s + f i) j k s) 0 12000 := by
    intro j
    induction j with
    | zero => intro k s hk hs; exact hs.mono (by omega) (by omega)
    | succ j ih =>
      intro k s hk hs
      exact ih (k + 1) _ (by omega) ((hs.add (h k (by omega)) (by omega) (by omega)).2.mono (by omega) (by omega))
  exact L n 0 _ (by omega) (Rg.nn (by decide) (by decide) (by decide))
/-- what the hat v does on head k -/
def cT9 (R : Nat → Nat → Int32) (cb ce : Nat) (v : Int32) (k : Nat) : Int32 := if v < 0 then nI 0 else deedM R cb ce v.toNatClampNeg k
theorem tod_sum {R : Nat → Nat → Int32} {cb ce nh : Nat} : todM R cb ce nh (-1) = fld (fun k s => s + cT9 R cb ce (R 101 k) k) nh 0 (nI 0) := by
  unfold todM
  refine fld_congr (fun k _ _ s => ?_)
  unfold fTod cT9
  by_cases e : R 101 k < 0
  · rw [if_pos e, if_pos e]
  · rw [if_neg e, if_neg e, if_pos (Or.inl (by decide))]
theorem cT9_nt {R : Nat → Nat → Int32} {cb ce nh na k : Nat} {v : Int32} (hna : na ≤ 6) (hnh : nh ≤ 6) (hk : k < nh) (hv : v = -1 ∨ ∃ a, a < na ∧ v = nI a) : cT9 R cb ce v k = ntD R cb ce nh na v (nI k) := by
  rcases hv with rfl | ⟨a, ha, rfl⟩
  · unfold cT9 ntD
    rw [if_pos (by decide), if_neg (fun z => by have := z.1; unfold ixB at this; have h := of_decide_eq_true this; exact absurd h.1 (by decide))]
  · unfold cT9
    rw [if_neg (by rw [i_lt, nI_t (by omega)]; show ¬ (a : Int) < 0; omega), ntD_in ha hk hna hnh, nI_clamp (by omega)]
theorem swI_d {R : Nat → Nat → Int32} {cb ce a b x k : Nat} : deedM (swI R a b) cb ce x k = deedM R cb ce x k := rfl
theorem swI_a9 {R : Nat → Nat → Int32} {a b k : Nat} : swI R a b 101 k = if k = b then R 101 a else if k = a then R 101 b else R 101 k := by
  unfold swI s1
  rw [upc_eq]
  by_cases e : k = b
  · rw [if_pos e, e, upc_eq]
  · rw [if_neg e, upc_ne _ _ e, upc_eq]
    by_cases e2 : k = a
    · rw [if_pos e2, e2, upc_eq]
    · rw [if_neg e2, upc_ne _ _ e2]
theorem tod_sw {R : Nat → Nat → Int32} {nh na dd cb ce a b : Nat} (M : MI R nh na dd cb ce) (hab : a < b) (hb : b < nh) : todM (swI R a b) cb ce nh (-1) = todM R cb ce nh (-1) + gaC R cb ce nh na a b := by
  have hnh := M.nh6
  have hna := M.na6
  rw [tod_sum, tod_sum]
  have e0 : (fun k s => s + cT9 (swI R a b) cb ce (swI R a b 101 k) k) = fun k s => s + upc (upc (fun k => cT9 R cb ce (R 101 k) k) a (cT9 R cb ce (R 101 b) a)) b (cT9 R cb ce (R 101 a) b) k := by
    funext k s
    refine congrArg (s + ·) ?_
    rw [swI_a9]
    by_cases e : k = b
    · subst e; rw [if_pos rfl, upc_eq]; rfl
    · rw [if_neg e, upc_ne _ _ e]
      by_cases e2 : k = a
      · subst e2; rw [if_pos rfl, upc_eq]; rfl
      · rw [if_neg e2, upc_ne _ _ e2]; rfl
  rw [e0, sum_ch (f := (upc (fun k => cT9 R cb ce (R 101 k) k) a (cT9 R cb ce (R 101 b) a))) (g := upc (upc (fun k => cT9 R cb ce (R 101 k) k) a (cT9 R cb ce (R 101 b) a)) b (cT9 R cb ce (R 101 a) b)) (a := b) (fun i hi => upc_ne _ _ hi) nh 0 _ (Nat.zero_le _) (by omega), sum_ch (f := (fun k => cT9 R cb ce (R 101 k) k)) (g := (upc (fun k => cT9 R cb ce (R 101 k) k) a (cT9 R cb ce (R 101 b) a))) (a := a) (fun i hi => upc_ne _ _ hi) nh 0 _ (Nat.zero_le _) (by omega), upc_eq, upc_eq, upc_ne _ _ (show b ≠ a by omega)]
  unfold gaC
  rw [cT9_nt hna hnh (show a < nh by omega) (M.worn b hb), cT9_nt hna hnh hb (M.worn a (by omega)), cT9_nt hna hnh (show a < nh by omega) (M.worn a (by omega)), cT9_nt hna hnh hb (M.worn b hb)]
  rw [Int32.sub_eq_add_neg, Int32.sub_eq_add_neg, Int32.sub_eq_add_neg, Int32.sub_eq_add_neg]
  ac_rfl
theorem cT9_rg {R : Nat → Nat → Int32} {nh na dd cb ce k : Nat} {v : Int32} (M : MI R nh na dd cb ce) (hDB : DB R cb ce nh na) (hk : k < nh) (hv : v = -1 ∨ ∃ a, a < na ∧ v = nI a) : Rg (cT9 R cb ce v k) 0 2000 := by
  have hna := M.na6
  unfold cT9
  rcases hv with rfl | ⟨a, ha, rfl⟩
  · rw [if_pos (by decide)]; exact Rg.nn (by decide) (by decide) (by decide)
  · rw [if_neg (by rw [i_lt, nI_t (by omega)]; show ¬ (a : Int) < 0; omega), nI_clamp (by omega)]
    obtain ⟨m, hm, e⟩ := hDB a k ha hk
    rw [e]
    exact Rg.nn (by omega) (by omega) (by omega)
theorem tod_rg {R : Nat → Nat → Int32} {nh na dd cb ce : Nat} (M : MI R nh na dd cb ce) (hDB : DB R cb ce nh na) : Rg (todM R cb ce nh (-1)) 0 12000 := by
  rw [tod_sum]
  exact sum_rg M.nh6 (fun k hk => cT9_rg M hDB hk (M.worn k hk))
theorem todsw_rg {R : Nat → Nat → Int32} {nh na dd cb ce a b : Nat} (M : MI R nh na dd cb ce) (hDB : DB R cb ce nh na) (ha : a < nh) (hb : b < nh) : Rg (todM (swI R a b) cb ce nh (-1)) 0 12000 := by
  rw [tod_sum]
  refine sum_rg M.nh6 (fun k hk => ?_)
  show Rg (cT9 R cb ce (swI R a b 101 k) k) 0 2000
  refine cT9_rg M hDB hk ?_
  rw [swI_a9]
  split
  · exact M.worn a ha
  · split
    · exact M.worn b hb
    · exact M.worn k hk
theorem i6 (t g : Int32) : t + g - t = g := by rw [Int32.add_comm, Int32.add_sub_cancel]
theorem swap_eq {R : Nat → Nat → Int32} {nh na dd cb ce : Nat} (M : MI R nh na dd cb ce) (hDB : DB R cb ce nh na) : swpC R cb ce nh na = swapM R nh cb ce := by
  have hT := tod_rg M hDB
  have step : ∀ (a b : Nat) (s t : Int32 × Int32), a < b → b < nh → (s.1 = t.1 ∧ t.2 = todM R cb ce nh (-1) + s.2 ∧ Rg s.2 0 12000) → ((fScB R cb ce nh na a b s).1 = (fSwB R nh cb ce a b t).1 ∧ (fSwB R nh cb ce a b t).2 = todM R cb ce nh (-1) + (fScB R cb ce nh na a b s).2 ∧ Rg (fScB R cb ce nh na a b s).2 0 12000) := by
    intro a b s t hab hb h
    obtain ⟨h1, h2, h3⟩ := h
    have hS := todsw_rg M hDB (show a < nh by omega) hb
    have e := tod_sw (na := na) M hab hb
    have hg : Rg (gaC R cb ce nh na a b) (-12000) 12000 := by
      have h4 := (hS.sub hT (by omega) (by omega)).2
      rw [e, i6] at h4
      exact h4.mono (by omega) (by omega)
    have e1 := (hT.add hg (by omega) (by omega)).1
    have e2 := (hT.add h3 (by omega) (by omega)).1
    unfold fScB fSwB
    rw [h2, e]
    by_cases c : gaC R cb ce nh na a b ≤ s.2
    · have cq2 : ¬ todM R cb ce nh (-1) + s.2 < todM R cb ce nh (-1) + gaC R cb ce nh na a b := by
        rw [i_lt, e1, e2]; rw [i_le] at c; omega
      rw [if_pos c, if_neg cq2]
      exact ⟨h1, h2, h3⟩
    · have cq2 : todM R cb ce nh (-1) + s.2 < todM R cb ce nh (-1) + gaC R cb ce nh na a b := by
        rw [i_lt, e1, e2]; rw [i_le] at c; omega
      rw [if_neg c, if_pos cq2]
      refine ⟨rfl, rfl, ?_⟩
      rw [i_le] at c
      exact ⟨by have := h3.1; show 0 ≤ (gaC R cb ce nh na a b).toInt; omega, hg.2⟩
  have inner : ∀ (a j b : Nat) (s t : Int32 × Int32), a < b → b + j = nh → (s.1 = t.1 ∧ t.2 = todM R cb ce nh (-1) + s.2 ∧ Rg s.2 0 12000) → ((fld (fScB R cb ce nh na a) j b s).1 = (fld (fSwB R nh cb ce a) j b t).1 ∧ (fld (fSwB R nh cb ce a) j b t).2 = todM R cb ce nh (-1) + (fld (fScB R cb ce nh na a) j b s).2 ∧ Rg (fld (fScB R cb ce nh na a) j b s).2 0 12000) := by
    intro a j
    induction j with
    | zero => intro b s t _ _ h; exact h
    | succ j ih => intro b s t hab hb h; exact ih (b + 1) _ _ (by omega) (by omega) (step a b s t hab (by omega) h)
  have outer : ∀ (j a : Nat) (s t : Int32 × Int32), a + j = nh → (s.1 = t.1 ∧ t.2 = todM R cb ce nh (-1) + s.2 ∧ Rg s.2 0 12000) → (fld (fScA R cb ce nh na) j a s).1 = (fld (fSwA R nh cb ce) j a t).1 := by
    intro j
    induction j with
    | zero => intro a s t _ h; exact h.1
    | succ j ih => intro a s t ha h; exact ih (a + 1) _ _ (by omega) (inner a (nh - (a + 1)) (a + 1) s t (Nat.lt_succ_self _) (by omega) h)
  exact outer nh 0 _ _ (by omega) ⟨rfl, (Int32.add_zero _).symm, Rg.nn (by decide) (by decide) (by decide)⟩
