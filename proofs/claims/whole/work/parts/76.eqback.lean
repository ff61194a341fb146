/-! back: merges are edges without rings -/
def enc7 (x : Nat) : Int32 := if x = 7 then -1 else nI x
def duN (R : Nat → Nat → Int32) (nh q : Nat) : Nat := if R 101 q < 0 then 7 else (fnd (dueP R q) nh 0).getD 7
theorem duN_enc {R : Nat → Nat → Int32} {nh q : Nat} (hn : nh ≤ 6) : dueM R nh q = enc7 (duN R nh q) := by
  unfold dueM duN
  by_cases h : R 101 q < 0
  · rw [if_pos h, if_pos h]; rfl
  · rw [if_neg h, if_neg h]
    cases e : fnd (dueP R q) nh 0 with
    | none => rfl
    | some o =>
      have := fnd_lt e
      show nI o = if o = 7 then -1 else nI o
      rw [if_neg (by omega)]
theorem duN_7 {R : Nat → Nat → Int32} {nh q : Nat} : duN R nh q = 7 ∨ duN R nh q < nh := by
  unfold duN
  by_cases h : R 101 q < 0
  · rw [if_pos h]; exact Or.inl rfl
  · rw [if_neg h]
    cases e : fnd (dueP R q) nh 0 with
    | none => exact Or.inl rfl
    | some o => exact Or.inr (fnd_lt e)
theorem duN_s {R : Nat → Nat → Int32} {nh q o : Nat} (hn : nh ≤ 6) (ho : o < nh) (h : duN R nh q = o) : ¬ R 101 q < 0 ∧ R 100 o = R 101 q := by
  unfold duN at h
  by_cases h1 : R 101 q < 0
  · rw [if_pos h1] at h; omega
  · rw [if_neg h1] at h
    refine ⟨h1, ?_⟩
    cases e : fnd (dueP R q) nh 0 with
    | none => rw [e] at h; exact absurd (show 7 = o from h) (by omega)
    | some o2 =>
      rw [e] at h
      have h2 : o2 = o := h
      subst h2
      exact of_decide_eq_true (fnd_some e).2.2.1
theorem wvL_fnd {d : List Nat} {o : Nat} : ∀ (j q : Nat), wvL d o j q = (fnd (fun z => Nat.beq (dg d z) o) j q).getD 7 := by
  intro j
  induction j with
  | zero => intro q; rfl
  | succ j ih =>
    intro q
    show cond (Nat.beq (dg d q) o) q (wvL d o j (q + 1)) = (if Nat.beq (dg d q) o = true then some q else fnd _ j (q + 1)).getD 7
    cases e : Nat.beq (dg d q) o with
    | true => rfl
    | false => exact ih (q + 1)
theorem bkL_congr {w w2 : Nat → Nat} : ∀ (j k : Nat) (G : List Nat) (n : Nat), (∀ i, k ≤ i → i < k + j → w i = w2 i) → bkL w j k G n = bkL w2 j k G n := by
  intro j
  induction j with
  | zero => intro k G n _; rfl
  | succ j ih =>
    intro k G n h
    show cond (Nat.beq (w k) 7) _ _ = cond (Nat.beq (w2 k) 7) _ _
    rw [h k (Nat.le_refl _) (by omega)]
    have h2 : ∀ i, k + 1 ≤ i → i < k + 1 + j → w i = w2 i := fun i h1 h2 => h i (by omega) (by omega)
    rw [ih (k + 1) G n h2, ih (k + 1) _ _ h2]
theorem fnd_no {p : Nat → Bool} : ∀ {j k : Nat}, (∀ i, k ≤ i → i < k + j → p i = false) → fnd p j k = none := by
  intro j
  induction j with
  | zero => intro k _; rfl
  | succ j ih =>
    intro k h
    unfold fnd
    rw [h k (Nat.le_refl _) (by omega), if_neg (by decide)]
    exact ih (fun i h1 h2 => h i (by omega) (by omega))
theorem nbeq {a b : Nat} : Nat.beq a b = decide (a = b) := by
  cases e : Nat.beq a b with
  | true => rw [decide_eq_true (Nat.eq_of_beq_eq_true e)]
  | false => rw [decide_eq_false (fun z => by rw [z, Nat.beq_refl] at e; cases e)]
theorem wB_wvL {R : Nat → Nat → Int32} {nh na dd cb ce o : Nat} (M : MI R nh na dd cb ce) (hcl : claM R nh = false) (ho : o < nh) : wB R nh na o = wvL (duL (duN R nh) nh 0) o nh 0 := by
  have hn := M.nh6
  have hna := M.na6
  rw [wvL_fnd]
  have hd : ∀ q, q < nh → dg (duL (duN R nh) nh 0) q = duN R nh q := fun q hq => by rw [duL_get hq, Nat.zero_add]
  unfold wB
  by_cases hx : ixB (R 100 o) na = true
  · rw [if_pos hx]
    refine congrArg (fun z => Option.getD z 7) (fnd_congr (fun q _ hq => ?_))
    rw [hd q (by omega), nbeq]
    unfold isI
    refine decide_eq_decide.mpr ⟨fun e => ?_, fun e => (duN_s hn ho e).2.symm⟩
    obtain ⟨a, ha, e2⟩ := ixB_of (by omega) hx
    have h0 : ¬ R 101 q < 0 := by rw [e, e2, i_lt, nI_t (by omega)]; show ¬ (a : Int) < 0; omega
    unfold duN
    rw [if_neg h0]
    obtain ⟨o2, ho2⟩ := fnd_ex (p := dueP R q) (Nat.zero_le o) (show o < 0 + nh by omega) (decide_eq_true e.symm)
    rw [ho2]
    show o2 = o
    have h1 := fnd_some ho2
    have h2 : R 100 o2 = R 101 q := of_decide_eq_true h1.2.2.1
    by_cases h3 : o2 = o
    · exact h3
    · exfalso
      have h4 : o2 < o := by
        by_cases h5 : o2 < o
        · exact h5
        · have h6 := h1.2.2.2 o (Nat.zero_le _) (by omega)
          rw [show dueP R q o = true from decide_eq_true e.symm] at h6
          cases h6
      have h7 : claP R nh o2 o = true := by
        refine decide_eq_true ⟨by rw [h2]; exact h0, by rw [h2, e], ?_⟩
        obtain ⟨z, hz⟩ := fnd_ex (p := isI (R 101) (R 100 o2)) (Nat.zero_le q) (show q < 0 + nh by omega) (decide_eq_true h2.symm)
        rw [hz]
        rfl
      rw [cla_t h4 ho h7] at hcl
      cases hcl
  · rw [if_neg hx]
    rw [fnd_no (fun q _ hq => ?_)]
    · rfl
    · rw [hd q (by omega), nbeq]
      refine decide_eq_false (fun e => hx ?_)
      obtain ⟨h1, h2⟩ := duN_s hn ho e
      rcases M.worn q (by omega) with e2 | ⟨a, ha, e2⟩
      · exact absurd (by rw [e2]; decide) h1
      · rw [h2, e2, ixB_nI (by omega)]; exact decide_eq_true ha
theorem enc_n {x k : Nat} (hx : x = 7 ∨ x < 6) (hk : k < 6) : (enc7 x ≤ nI k ↔ (Nat.beq x 7 || Nat.ble x k) = true) ∧ decide (enc7 x = nI k) = Nat.beq x k ∧ (enc7 x < 0 ↔ x = 7) := by
  have H : ∀ x : Fin 8, ∀ k : Fin 6, x.val ≠ 6 → (decide (enc7 x.val ≤ nI k.val) = (Nat.beq x.val 7 || Nat.ble x.val k.val)) ∧ decide (enc7 x.val = nI k.val) = Nat.beq x.val k.val ∧ decide (enc7 x.val < 0) = decide (x.val = 7) := by decide +kernel
  obtain ⟨h1, h2, h3⟩ := H ⟨x, by omega⟩ ⟨k, hk⟩ (by show x ≠ 6; omega)
  refine ⟨?_, h2, decide_eq_decide.mp h3⟩
  replace h1 : decide (enc7 x ≤ nI k) = (Nat.beq x 7 || Nat.ble x k) := h1
  rw [← h1]
  exact decide_eq_true_iff.symm
theorem rng_rgL {R : Nat → Nat → Int32} {nh k : Nat} (hn : nh ≤ 6) (hk : k < nh) : ∀ (f x : Nat), (x = 7 ∨ x < nh) → rngF (dueM R nh) k f (enc7 x) = rgL (duL (duN R nh) nh 0) k f x := by
  intro f
  induction f with
  | zero => intro x _; rfl
  | succ f ih =>
    intro x hx
    obtain ⟨h1, h2, h3⟩ := enc_n (x := x) (k := k) (by omega) (by omega)
    show (if enc7 x ≤ nI k then some (decide (enc7 x = nI k)) else rngF (dueM R nh) k f (dueM R nh (enc7 x).toNatClampNeg)) = cond (Nat.beq x 7 || Nat.ble x k) (some (Nat.beq x k)) (rgL (duL (duN R nh) nh 0) k f (dg (duL (duN R nh) nh 0) x))
    cases e : (Nat.beq x 7 || Nat.ble x k) with
    | true => rw [if_pos (h1.2 e), h2]; rfl
    | false =>
      rw [if_neg (fun z => by rw [h1.1 z] at e; cases e)]
      have hx7 : x < nh := by
        rcases hx with e2 | e2
        · subst e2; cases e
        · exact e2
      rw [show enc7 x = nI x from if_neg (by omega), nI_clamp (by omega), duN_enc hn, show dg (duL (duN R nh) nh 0) x = duN R nh x from by rw [duL_get hx7, Nat.zero_add]]
      exact ih _ duN_7
theorem i4_a (x y : Int32) : x - y + nI 1 - nI 1 = (x + 1) - (y + 1) := by
  show x - y + 1 - 1 = (x + 1) - (y + 1)
  rw [Int32.sub_eq_add_neg, Int32.sub_eq_add_neg, Int32.sub_eq_add_neg, Int32.neg_add, Int32.sub_eq_add_neg]
  ac_rfl
theorem i4_b (x y : Int32) : x - y + nI 0 - nI 1 = x - (y + 1) := by
  show x - y + 0 - 1 = x - (y + 1)
  rw [Int32.add_zero, Int32.sub_eq_add_neg, Int32.sub_eq_add_neg, Int32.sub_eq_add_neg, Int32.neg_add, Int32.sub_eq_add_neg]
  ac_rfl
theorem i4_c (x y : Int32) : x - y + nI 1 - nI 0 = (x + 1) - y := by
  show x - y + 1 - 0 = (x + 1) - y
  rw [Int32.sub_zero, Int32.sub_eq_add_neg, Int32.sub_eq_add_neg]
  ac_rfl
theorem i4_d (x y : Int32) : x - y + nI 0 - nI 0 = x - y := by rw [show nI 0 = (0 : Int32) from rfl, Int32.sub_zero, Int32.add_zero]
theorem sum_ba {R : Nat → Nat → Int32} {nh : Nat} (hn : nh ≤ 6) (hrb : ∀ k, k < nh → ringB R nh k = rbL (duL (duN R nh) nh 0) k) : ∀ (j k e r : Nat), k + j = nh → fld (fBa R nh) j k (nI e - nI r) = nI (cntB (edL (duL (duN R nh) nh 0)) j k e) - nI (cntB (rbL (duL (duN R nh) nh 0)) j k r) := by
  intro j
  induction j with
  | zero => intro k e r _; rfl
  | succ j ih =>
    intro k e r hk
    have hd : dg (duL (duN R nh) nh 0) k = duN R nh k := by rw [duL_get (by omega), Nat.zero_add]
    show fld (fBa R nh) j (k + 1) (fBa R nh k (nI e - nI r)) = nI (cntB _ j (k + 1) (cond (edL (duL (duN R nh) nh 0) k) (e + 1) e)) - nI (cntB _ j (k + 1) (cond (rbL (duL (duN R nh) nh 0) k) (r + 1) r))
    rw [← ih (k + 1) _ _ (by omega)]
    refine congrArg (fld (fBa R nh) j (k + 1)) ?_
    unfold fBa
    rw [hrb k (by omega)]
    have h7 := duN_7 (R := R) (nh := nh) (q := k)
    obtain ⟨h1, h2, h3⟩ := enc_n (x := duN R nh k) (k := k) (by omega) (by omega)
    have hed : (dueM R nh k < 0 ∨ dueM R nh k = nI k) ↔ edL (duL (duN R nh) nh 0) k = false := by
      rw [duN_enc hn, h3]
      unfold edL
      rw [hd, ← h2, nbeq]
      by_cases a1 : duN R nh k = 7
      · rw [decide_eq_true a1]; exact ⟨fun _ => rfl, fun _ => Or.inl a1⟩
      · by_cases a2 : enc7 (duN R nh k) = nI k
        · rw [decide_eq_true a2, Bool.or_true]; exact ⟨fun _ => rfl, fun _ => Or.inr a2⟩
        · rw [decide_eq_false a1, decide_eq_false a2]; exact ⟨fun z => z.elim (fun z => absurd z a1) (fun z => absurd z a2), fun z => by cases z⟩
    cases hE : edL (duL (duN R nh) nh 0) k with
    | false =>
      rw [if_pos (hed.2 hE)]
      cases rbL (duL (duN R nh) nh 0) k with
      | false => rw [if_neg (by decide)]; exact i4_d _ _
      | true => rw [if_pos rfl]; show _ = nI e - nI (r + 1); rw [nI_succ r]; exact i4_b _ _
    | true =>
      rw [if_neg (fun z => by rw [hed.1 z] at hE; cases hE)]
      cases rbL (duL (duN R nh) nh 0) k with
      | false => rw [if_neg (by decide)]; show _ = nI (e + 1) - nI r; rw [nI_succ e]; exact i4_c _ _
      | true => rw [if_pos rfl]; show _ = nI (e + 1) - nI (r + 1); rw [nI_succ e, nI_succ r]; exact i4_a _ _
theorem back_eq {R : Nat → Nat → Int32} {nh na dd cb ce : Nat} (M : MI R nh na dd cb ce) (Q : AR R nh na dd) (hcl : claM R nh = false) : (∀ k, k < nh → ∃ b, rngM R nh k = some b) ∧ nI (bkL (wB R nh na) nh 0 G60 0) = fld (fBa R nh) nh 0 (nI 0) := by
  have hn := M.nh6
  have hd : ∀ q, q < nh → dg (duL (duN R nh) nh 0) q = duN R nh q := fun q hq => by rw [duL_get hq, Nat.zero_add]
  have ht := tst_du (n := nh) (due := duN R nh) hn (fun i _ => duN_7) (fun i k hi hk e hne => by
    have h7 := duN_7 (R := R) (nh := nh) (q := i)
    have hio : duN R nh i < nh := by omega
    obtain ⟨a1, a2⟩ := duN_s hn hio rfl
    obtain ⟨b1, b2⟩ := duN_s (q := k) hn hio e.symm
    rcases M.worn i hi with z | ⟨a, ha, z⟩
    · exact absurd (by rw [z]; decide) a1
    · exact Q.dist i k a hi hk ha z (by rw [← b2, a2, z]))
  have hrg : ∀ k, k < nh → rngM R nh k = rgL (duL (duN R nh) nh 0) k 8 (dg (duL (duN R nh) nh 0) k) := by
    intro k hk
    unfold rngM
    rw [duN_enc hn, hd k hk]
    exact rng_rgL hn hk 8 _ duN_7
  unfold tstB at ht
  rw [Bool.and_eq_true] at ht
  obtain ⟨t1, t2⟩ := ht
  have hrs : ∀ k, k < nh → ∃ b, rngM R nh k = some b := by
    intro k hk
    have h := alL_get t2 k (Nat.zero_le _) (by omega)
    rw [hrg k hk]
    cases e : rgL (duL (duN R nh) nh 0) k 8 (dg (duL (duN R nh) nh 0) k) with
    | none =>
      replace h : (rgL (duL (duN R nh) nh 0) k 8 (dg (duL (duN R nh) nh 0) k)).isSome = true := h
      rw [e] at h
      cases h
    | some b => exact ⟨b, rfl⟩
  refine ⟨hrs, ?_⟩
  have hrb : ∀ k, k < nh → ringB R nh k = rbL (duL (duN R nh) nh 0) k := by
    intro k hk
    unfold ringB rbL
    have h7 := duN_7 (R := R) (nh := nh) (q := k)
    obtain ⟨h1, h2, h3⟩ := enc_n (x := duN R nh k) (k := k) (by omega) (by omega)
    rw [hrg k hk, hd k hk, ← h2, duN_enc hn]
    by_cases a2 : enc7 (duN R nh k) = nI k
    · rw [if_pos a2, decide_eq_true a2]; rfl
    · rw [if_neg a2, decide_eq_false a2]; rfl
  have h1 := sum_ba hn hrb nh 0 0 0 (by omega)
  rw [show nI 0 - nI 0 = nI 0 from by decide] at h1
  rw [h1]
  have h2 := Nat.eq_of_beq_eq_true t1
  replace h2 : bkL (fun o => wvL (duL (duN R nh) nh 0) o nh 0) nh 0 [0, 1, 2, 3, 4, 5] 0 + cntB (rbL (duL (duN R nh) nh 0)) nh 0 0 = cntB (edL (duL (duN R nh) nh 0)) nh 0 0 := h2
  rw [← h2, pk_sub (by omega), Nat.add_sub_cancel]
  refine congrArg nI ?_
  exact bkL_congr nh 0 _ 0 (fun i _ hi => wB_wvL M hcl (by omega))
