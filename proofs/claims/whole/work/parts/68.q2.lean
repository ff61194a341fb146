/-! reading by descent: codes as they are left, results as they follow -/
theorem gD1 {L M : List Nat} {i : Nat} (hi : i < L.length) : (L ++ M).getD i 0 = L.getD i 0 := by
  rw [List.getD_eq_getElem?_getD, List.getElem?_append_left hi, ← List.getD_eq_getElem?_getD]
theorem gD2 {L M : List Nat} {i : Nat} : (L ++ M).getD (L.length + i) 0 = M.getD i 0 := by
  rw [List.getD_eq_getElem?_getD, List.getElem?_append_right (by omega), ← List.getD_eq_getElem?_getD]
  congr 1
  omega
/-- codes from m on are those that o tells -/
def PC (o : Option (List Nat)) (m : Nat) (cd : Nat → Int32) (m2 : Nat) (cd2 : Nat → Int32) : Prop := m2 ≤ 100 ∧ m ≤ m2 ∧ (∀ i, i < m → cd2 i = cd i) ∧ ∀ L, o = some L → m2 = m + L.length ∧ ∀ i, i < L.length → cd2 (m + i) = ctN (L.getD i 0)
theorem PC.refl {m : Nat} {cd : Nat → Int32} (hm : m ≤ 100) : PC (some []) m cd m cd := ⟨hm, Nat.le_refl _, fun _ _ => rfl, fun L h => by cases h; exact ⟨rfl, fun i hi => absurd hi (Nat.not_lt_zero _)⟩⟩
theorem PC.no {o : Option (List Nat)} {m m2 : Nat} {cd cd2 : Nat → Int32} (h : PC o m cd m2 cd2) : PC none m cd m2 cd2 := ⟨h.1, h.2.1, h.2.2.1, fun L h => by cases h⟩
theorem PC.ac {o : Option (List Nat)} {m m2 k : Nat} {cd cd2 : Nat → Int32} {v : Int32} (h : PC o m cd m2 cd2) (hv : v = ctN k) (hlt : o.isSome = true → m2 < 100) : PC (o.map (fun L => L ++ [k])) m cd (if m2 < 100 then m2 + 1 else m2) (if m2 < 100 then upc cd2 m2 v else cd2) := by
  have h2 := h.2.1
  have h1 := h.1
  by_cases e : m2 < 100
  · rw [if_pos e, if_pos e]
    refine ⟨by omega, by omega, fun i hi => (upc_ne _ _ (by omega)).trans (h.2.2.1 i hi), fun L hL => ?_⟩
    cases o with
    | none => cases hL
    | some L0 =>
      cases hL
      obtain ⟨e1, e2⟩ := h.2.2.2 L0 rfl
      refine ⟨by rw [List.length_append, e1]; rfl, fun i hi => ?_⟩
      rw [List.length_append] at hi
      replace hi : i < L0.length + 1 := hi
      by_cases e3 : i < L0.length
      · rw [gD1 e3, upc_ne _ _ (by omega)]; exact e2 i e3
      · have e4 : i = L0.length + 0 := by omega
        rw [e4, gD2, e1, show m + (L0.length + 0) = m + L0.length from rfl, upc_eq, hv]
        rfl
  · rw [if_neg e, if_neg e]
    cases o with
    | none => exact ⟨h1, h2, h.2.2.1, fun L hL => by cases hL⟩
    | some L0 => exact absurd (hlt rfl) e
theorem PC.seq {o1 o2 : Option (List Nat)} {m m1 m2 : Nat} {cd cd1 cd2 : Nat → Int32} (h1 : PC o1 m cd m1 cd1) (h2 : PC o2 m1 cd1 m2 cd2) : PC (o1.bind (fun L1 => o2.map (fun L2 => L1 ++ L2))) m cd m2 cd2 := by
  have a1 := h1.2.1
  have a2 := h2.2.1
  refine ⟨h2.1, by omega, fun i hi => (h2.2.2.1 i (by omega)).trans (h1.2.2.1 i hi), fun L hL => ?_⟩
  cases o1 with
  | none => cases hL
  | some L1 =>
    cases o2 with
    | none => cases hL
    | some L2 =>
      cases hL
      obtain ⟨e1, e2⟩ := h1.2.2.2 L1 rfl
      obtain ⟨e3, e4⟩ := h2.2.2.2 L2 rfl
      refine ⟨by rw [List.length_append]; omega, fun i hi => ?_⟩
      rw [List.length_append] at hi
      by_cases e5 : i < L1.length
      · rw [gD1 e5, h2.2.2.1 _ (by omega)]; exact e2 i e5
      · obtain ⟨z, hz⟩ : ∃ z, i = L1.length + z := ⟨i - L1.length, by omega⟩
        subst hz
        rw [gD2, show m + (L1.length + z) = m1 + z by omega]
        exact e4 z (by omega)
theorem PC.to {o o2 : Option (List Nat)} {m m2 : Nat} {cd cd2 : Nat → Int32} (h : PC o m cd m2 cd2) (e : o2 = o) : PC o2 m cd m2 cd2 := e ▸ h
theorem ex_1 {c : Nat → Nat} {ch p : Nat} {s : Bool} (h : (s && decide (c p = ch)) = true) : (ex c ch p s).1 = p + 1 := by unfold ex; rw [if_pos h]
theorem ex_2 {c : Nat → Nat} {ch p : Nat} {s : Bool} (h : (s && decide (c p = ch)) = true) : (ex c ch p s).2 = true := by unfold ex; rw [if_pos h]
theorem nx_t {c : Nat → Nat} {ch p : Nat} {s : Bool} (h : (s && decide (c p = ch)) = true) : s = true ∧ c p = ch := by
  rw [Bool.and_eq_true] at h
  exact ⟨h.1, of_decide_eq_true h.2⟩
theorem nx_f {c : Nat → Nat} {ch p : Nat} {s : Bool} (h : (s && decide (c p = ch)) = false) (hs : s = true) : c p ≠ ch := by
  rw [hs, Bool.true_and] at h
  exact of_decide_eq_false h
theorem rdg {f : Nat → Nat × Option (List Nat)} {n k p : Nat} {s : Bool} (hf : PG n k f) (hp : s = true → p ≤ n) : (∀ L, (rd s f p).2 = some L → s = true ∧ p < (rd s f p).1 ∧ (rd s f p).1 ≤ n ∧ L.length ≤ (rd s f p).1 - p) ∧ (s = true → (rd s f p).1 ≤ n) := by
  cases s with
  | false => exact ⟨fun L h => (by cases h), fun h => (by cases h)⟩
  | true =>
    refine ⟨fun L h => ?_, fun _ => ?_⟩
    · obtain ⟨g1, g2, g3, g4⟩ := (hf p).1 (f p).1 L (by rw [← show (f p).2 = some L from h])
      exact ⟨rfl, g1, g2, g3⟩
    · show (f p).1 ≤ n
      cases e : f p with
      | mk q o =>
        cases o with
        | none => exact ((hf p).2 q (hp rfl) e).2
        | some L => exact ((hf p).1 q L e).2.1
/-- a test -/
theorem OFQ.le {c : Nat → Nat} {n k p p1 j : Nat} {s s1 : Bool} (hk : k < 5) (hCT : CT c n) (h : OFQ c k p s j p1 s1) : s1 = true → p1 ≤ n := by
  intro e
  rcases h.2 with ⟨e1, e2, e3, e4⟩ | ⟨e1, _⟩
  · have h128 : c p < 128 := by rw [e4]; exact (xs_nI hk h.1).2
    have := hCT.lt (p := p) (by omega)
    omega
  · rw [e1] at e; cases e
theorem ltr_at {j : Nat} (hj : j < 6) : ltN ((strN 0).getD j 0) = some j := by
  have H : ∀ j : Fin 6, ltN ((strN 0).getD j.val 0) = some j.val := by decide
  exact H ⟨j, hj⟩
theorem ltr_no {x : Nat} (h : ∀ i, i < 6 → x ≠ (strN 0).getD i 0) : ltN x = none := by
  unfold ltN
  have h0 : x ≠ 97 := h 0 (by decide)
  have h1 : x ≠ 101 := h 1 (by decide)
  have h2 : x ≠ 107 := h 2 (by decide)
  have h3 : x ≠ 116 := h 3 (by decide)
  have h4 : x ≠ 117 := h 4 (by decide)
  have h5 : x ≠ 100 := h 5 (by decide)
  rw [if_neg h0, if_neg h1, if_neg h2, if_neg h3, if_neg h4, if_neg h5]
theorem sgn_at {j : Nat} (hj : j < 3) : (strN 1).getD j 0 = 60 + j := by
  have H : ∀ j : Fin 3, (strN 1).getD j.val 0 = 60 + j.val := by decide
  exact H ⟨j, hj⟩
theorem tst_eq {c : Nat → Nat} {p p1 p2 p3 j1 j2 v : Nat} {s s1 s2 s3 : Bool} (h1 : OFQ c 0 p s j1 p1 s1) (h2 : OFQ c 1 p1 s1 j2 p2 s2) (h3 : rd s2 (pNum c) p2 = (p3, if s3 = true then some v else none)) : rd s (pTest c) p = (p3, if s3 = true then some [1000 * j1 + 100 * j2 + v] else none) := by
  obtain ⟨hj1, ⟨e1, e2, e3, e4⟩ | ⟨e1, e2, e3, e4⟩⟩ := h1
  · subst e3
    obtain ⟨hj2, ⟨f1, f2, f3, f4⟩ | ⟨f1, f2, f3, f4⟩⟩ := h2
    · subst f3
      rw [rd_t e1]
      rw [rd_t f2] at h3
      rw [sgn_at hj2] at f4
      have hj3 : j2 < 3 := hj2
      unfold pTest
      rw [e4, ltr_at hj1]
      show (if 60 ≤ c (p + 1) ∧ c (p + 1) ≤ 62 then _ else _) = _
      rw [if_pos (by omega), show p + 2 = p + 1 + 1 from rfl, h3, f4, show 60 + j2 - 60 = j2 by omega]
      cases s3 <;> rfl
    · rw [rd_f f1] at h3
      rw [rd_t e1]
      have g3 : s3 = false := by cases s3; rfl; cases h3
      subst g3
      unfold pTest
      rw [e4, ltr_at hj1]
      show (if 60 ≤ c (p + 1) ∧ c (p + 1) ≤ 62 then _ else _) = _
      rw [if_neg]
      · have : p2 = p3 := congrArg Prod.fst h3
        rw [← this, f2]
        rfl
      · intro z
        have h4 := f4 e2 (c (p + 1) - 60) (show c (p + 1) - 60 < 3 by omega)
        rw [sgn_at (by omega)] at h4
        omega
  · obtain ⟨hj2, ⟨f1, f2, f3, f4⟩ | ⟨f1, f2, f3, f4⟩⟩ := h2
    · rw [e1] at f1; cases f1
    · rw [rd_f f1] at h3
      have g3 : s3 = false := by cases s3; rfl; cases h3
      subst g3
      have : p2 = p3 := congrArg Prod.fst h3
      rw [← this, f2, e2]
      cases hs : s with
      | false => rfl
      | true =>
        rw [rd_t rfl]
        unfold pTest
        rw [ltr_no (e4 hs)]
        rfl
theorem ctN_t {j1 j2 v : Nat} (h1 : j1 < 6) (h2 : j2 < 3) (hv : v < 100) : nI ((j1 * 3 + j2) * 100 + v) = ctN (1000 * j1 + 100 * j2 + v) := by
  unfold ctN
  rw [if_neg (by omega), if_neg (by omega), if_neg (by omega)]
  congr 1
  have a1 : (1000 * j1 + 100 * j2 + v) / 1000 = j1 := by omega
  have a2 : (1000 * j1 + 100 * j2 + v) / 100 % 10 = j2 := by omega
  have a3 : (1000 * j1 + 100 * j2 + v) % 100 = v := by omega
  rw [a1, a2, a3]
theorem pF_tst {c : Nat → Nat} {n r p : Nat} {s : Bool} (h1 : (s && decide (c p = 33)) = false) (h2 : (s && decide (c p = 40)) = false) : rd s (pF c n (r + 1)) p = rd s (pTest c) p := by
  cases hs : s with
  | false => rfl
  | true =>
    rw [rd_t rfl, rd_t rfl]
    exact (if_neg (nx_f h1 hs)).trans (if_neg (nx_f h2 hs))
theorem pF_not {c : Nat → Nat} {n r p : Nat} {s : Bool} (h1 : (s && decide (c p = 33)) = true) : rd s (pF c n (r + 1)) p = ((rd true (pF c n r) (p + 1)).1, (rd true (pF c n r) (p + 1)).2.map (fun L => L ++ [6000])) := by
  obtain ⟨hs, hc⟩ := nx_t h1
  rw [rd_t hs, rd_t rfl, show pF c n (r + 1) p = bnd (pF c n r (p + 1)) (fun q L => (q, some (L ++ [6000]))) from if_pos hc]
  cases e : pF c n r (p + 1) with
  | mk q o => cases o <;> rfl
theorem pF_par {c : Nat → Nat} {n r p : Nat} {s : Bool} (h2 : (s && decide (c p = 40)) = true) : rd s (pF c n (r + 1)) p = ((ex c 41 (rd true (pE c (pF c n r) n) (p + 1)).1 (rd true (pE c (pF c n r) n) (p + 1)).2.isSome).1, if (ex c 41 (rd true (pE c (pF c n r) n) (p + 1)).1 (rd true (pE c (pF c n r) n) (p + 1)).2.isSome).2 = true then (rd true (pE c (pF c n r) n) (p + 1)).2 else none) := by
  obtain ⟨hs, hc⟩ := nx_t h2
  rw [rd_t hs, rd_t rfl, show pF c n (r + 1) p = bnd (pE c (pF c n r) n (p + 1)) (fun q L => if c q = 41 then (q + 1, some L) else (q, none)) from (if_neg (by omega)).trans (if_pos hc)]
  cases e : pE c (pF c n r) n (p + 1) with
  | mk q o =>
    unfold ex
    cases o with
    | none => rfl
    | some L =>
      show (if c q = 41 then (q + 1, some L) else (q, none)) = ((if (true && decide (c q = 41)) = true then (q + 1, true) else (q, false)).1, if (if (true && decide (c q = 41)) = true then (q + 1, true) else (q, false)).2 = true then some L else none)
      by_cases h : c q = 41
      · rw [if_pos h, decide_eq_true h]; rfl
      · rw [if_neg h, decide_eq_false h]; rfl
/-- the rest of E from its i-th T on, L being read -/
def cnt9 (c : Nat → Nat) (f : Nat → Nat × Option (List Nat)) (n i q : Nat) (La : List Nat) : Nat × Option (List Nat) := bnd (pT c f n q) (fun q1 L1 => pEl c f n (n - i) q1 (if i = 0 then L1 else La ++ L1 ++ [6002]))
def LLs (i : Nat) (La L1 : List Nat) : List Nat := if i = 0 then L1 else La ++ L1 ++ [6002]
theorem cnt_end {c : Nat → Nat} {f : Nat → Nat × Option (List Nat)} {n i q : Nat} {La : List Nat} {ss : Bool} {r0 : Nat × Option (List Nat)} (h0 : ss = false → r0 = (q, none)) (h1 : ss = true → r0 = cnt9 c f n i q La) (hi : i < n) (hx : ((rd ss (pT c f n) q).2.isSome && decide (c (rd ss (pT c f n) q).1 = 124)) = false) : r0 = ((rd ss (pT c f n) q).1, (rd ss (pT c f n) q).2.map (LLs i La)) := by
  cases hs : ss with
  | false => rw [h0 hs]; rfl
  | true =>
    rw [hs] at hx
    rw [rd_t rfl] at hx ⊢
    rw [h1 hs]
    unfold cnt9
    cases e : pT c f n q with
    | mk q1 o =>
      rw [e] at hx
      cases o with
      | none => rfl
      | some L1 =>
        obtain ⟨k, hk⟩ : ∃ k, n - i = k + 1 := ⟨n - i - 1, by omega⟩
        show pEl c f n (n - i) q1 _ = _
        rw [hk]
        exact if_neg (nx_f hx rfl)
theorem cnt_on {c : Nat → Nat} {f : Nat → Nat × Option (List Nat)} {n i q : Nat} {La : List Nat} {ss : Bool} {r0 : Nat × Option (List Nat)} (h1 : ss = true → r0 = cnt9 c f n i q La) (hi : i < n) (hx : ((rd ss (pT c f n) q).2.isSome && decide (c (rd ss (pT c f n) q).1 = 124)) = true) : ∃ L1, ss = true ∧ (rd ss (pT c f n) q).2 = some L1 ∧ c (rd ss (pT c f n) q).1 = 124 ∧ r0 = cnt9 c f n (i + 1) ((rd ss (pT c f n) q).1 + 1) (LLs i La L1) := by
  obtain ⟨g1, g2⟩ := nx_t hx
  cases hs : ss with
  | false => rw [hs] at g1; cases g1
  | true =>
    rw [hs] at g1 g2
    rw [rd_t rfl] at g1 g2 ⊢
    cases e : pT c f n q with
    | mk q1 o =>
      rw [e] at g1 g2
      cases o with
      | none => cases g1
      | some L1 =>
        refine ⟨L1, rfl, rfl, g2, ?_⟩
        rw [h1 hs]
        unfold cnt9
        rw [e]
        obtain ⟨k, hk⟩ : ∃ k, n - i = k + 1 := ⟨n - i - 1, by omega⟩
        show pEl c f n (n - i) q1 (LLs i La L1) = bnd (pT c f n (q1 + 1)) (fun q2 L2 => pEl c f n (n - (i + 1)) q2 (if i + 1 = 0 then L2 else LLs i La L1 ++ L2 ++ [6002]))
        rw [hk, show n - (i + 1) = k by omega]
        exact if_pos g2
theorem cnt_0 {c : Nat → Nat} {f : Nat → Nat × Option (List Nat)} {n q : Nat} : pE c f n q = cnt9 c f n 0 q [] := rfl
/-- what the codes are behind a T -/
theorem EI_out {ss : Bool} {La : List Nat} {o : Option (List Nat)} {m0 mm m2 i : Nat} {cd0 dd cd2 : Nat → Int32} (hE : PC (if ss = true then some La else none) m0 cd0 mm dd) (hT : PC o mm dd m2 cd2) (hs : ss = false → o = none) (h0 : i = 0 → La = []) (hi : i = 0) : PC (o.map (LLs i La)) m0 cd0 m2 cd2 := by
  have h := hE.seq hT
  subst hi
  rw [h0 rfl] at h
  cases ss with
  | false => rw [hs rfl]; exact h.no
  | true =>
    refine h.to ?_
    cases o <;> rfl
theorem EI_out1 {ss : Bool} {La : List Nat} {o : Option (List Nat)} {m0 mm m2 i : Nat} {cd0 dd cd2 : Nat → Int32} (hE : PC (if ss = true then some La else none) m0 cd0 mm dd) (hT : PC o mm dd m2 cd2) (hs : ss = false → o = none) (hi : i ≠ 0) (hlt : o.isSome = true → m2 < 100) : PC (o.map (LLs i La)) m0 cd0 (if m2 < 100 then m2 + 1 else m2) (if m2 < 100 then upc cd2 m2 (-3) else cd2) := by
  have h := hE.seq hT
  have h2 := h.ac (k := 6002) (v := -3) rfl (fun z => hlt (by cases ss with
    | false => cases z
    | true => cases o with
      | none => cases z
      | some L => rfl))
  refine h2.to ?_
  cases ss with
  | false => rw [hs rfl]; rfl
  | true =>
    cases o with
    | none => rfl
    | some L => exact congrArg some (if_neg hi)
theorem rd_no {α : Type} {s : Bool} {f : Nat → Nat × Option α} {p : Nat} (h : s = false) : (rd s f p).2 = none := by rw [rd_f h]
/-- the rest of a T -/
theorem tl_end {c : Nat → Nat} {f : Nat → Nat × Option (List Nat)} {j q : Nat} {Lt : List Nat} {s : Bool} {rT : Nat × Option (List Nat)} (h0 : s = false → rT = (q, none)) (h1 : s = true → rT = pTl c f j q Lt) (hx : j = 0 ∨ (s && decide (c q = 38)) = false) : rT = (q, if s = true then some Lt else none) := by
  cases hs : s with
  | false => rw [h0 hs]; rfl
  | true =>
    rw [h1 hs]
    rcases hx with rfl | hx
    · rfl
    · cases j with
      | zero => rfl
      | succ j => exact if_neg (nx_f hx hs)
theorem tl_on {c : Nat → Nat} {f : Nat → Nat × Option (List Nat)} {j q : Nat} {Lt : List Nat} {s : Bool} {rT : Nat × Option (List Nat)} (h1 : s = true → rT = pTl c f (j + 1) q Lt) (hx : (s && decide (c q = 38)) = true) : ((rd true f (q + 1)).2.isSome = false → rT = ((rd true f (q + 1)).1, none)) ∧ ∀ L2, (rd true f (q + 1)).2 = some L2 → rT = pTl c f j (rd true f (q + 1)).1 (Lt ++ L2 ++ [6001]) := by
  obtain ⟨hs, hc⟩ := nx_t hx
  rw [h1 hs, show pTl c f (j + 1) q Lt = bnd (f (q + 1)) (fun q1 L1 => pTl c f j q1 (Lt ++ L1 ++ [6001])) from if_pos hc, rd_t rfl]
  cases e : f (q + 1) with
  | mk q1 o =>
    cases o with
    | none => exact ⟨fun _ => rfl, fun L2 h => by cases h⟩
    | some L1 => exact ⟨fun h => (by cases h), fun L2 h => by cases h; rfl⟩
theorem TL_out {s : Bool} {Lt L9 : List Nat} {o : Option (List Nat)} {m0 mm m2 : Nat} {cd0 dd cd2 : Nat → Int32} (hE : PC (if s = true then some Lt else none) m0 cd0 mm dd) (hT : PC o mm dd m2 cd2) (hs : s = true) (hlt : o.isSome = true → m2 < 100) : PC (if o.isSome = true then some ((o.map (fun L => Lt ++ L ++ [6001])).getD []) else none) m0 cd0 (if m2 < 100 then m2 + 1 else m2) (if m2 < 100 then upc cd2 m2 (-2) else cd2) := by
  have h := hE.seq hT
  have h2 := h.ac (k := 6001) (v := -2) rfl (fun z => hlt (by rw [hs] at z; cases o with
    | none => cases z
    | some L => rfl))
  refine h2.to ?_
  rw [hs]
  cases o <;> rfl
