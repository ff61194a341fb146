/-! what a text says: numbers, words, E by descent; codes as numbers: tests below 6000, 6000 not, 6001 and, 6002 or -/
/-- on, if it was read -/
def bnd {α β : Type} (r : Nat × Option α) (k : Nat → α → Nat × Option β) : Nat × Option β := match r with
  | (q, some a) => k q a
  | (q, none) => (q, none)
def isD (x : Nat) : Bool := decide (48 ≤ x ∧ x ≤ 57)
def pNum (c : Nat → Nat) (p : Nat) : Nat × Option Nat := if isD (c p) = true then (if isD (c (p + 1)) = true then (p + 2, some (10 * (c p - 48) + (c (p + 1) - 48))) else (p + 1, some (c p - 48))) else (p, none)
def ltN (x : Nat) : Option Nat := if x = 97 then some 0 else if x = 101 then some 1 else if x = 107 then some 2 else if x = 116 then some 3 else if x = 117 then some 4 else if x = 100 then some 5 else none
def pTest (c : Nat → Nat) (p : Nat) : Nat × Option (List Nat) := match ltN (c p) with
  | none => (p, none)
  | some f => if 60 ≤ c (p + 1) ∧ c (p + 1) ≤ 62 then bnd (pNum c (p + 2)) (fun q v => (q, some [1000 * f + 100 * (c (p + 1) - 60) + v])) else (p + 1, none)
def pTl (c : Nat → Nat) (f : Nat → Nat × Option (List Nat)) : Nat → Nat → List Nat → Nat × Option (List Nat)
  | 0, q, L => (q, some L)
  | j + 1, q, L => if c q = 38 then bnd (f (q + 1)) (fun q1 L1 => pTl c f j q1 (L ++ L1 ++ [6001])) else (q, some L)
def pT (c : Nat → Nat) (f : Nat → Nat × Option (List Nat)) (n p : Nat) : Nat × Option (List Nat) := bnd (f p) (fun q L => pTl c f n q L)
def pEl (c : Nat → Nat) (f : Nat → Nat × Option (List Nat)) (n : Nat) : Nat → Nat → List Nat → Nat × Option (List Nat)
  | 0, q, L => (q, some L)
  | j + 1, q, L => if c q = 124 then bnd (pT c f n (q + 1)) (fun q1 L1 => pEl c f n j q1 (L ++ L1 ++ [6002])) else (q, some L)
def pE (c : Nat → Nat) (f : Nat → Nat × Option (List Nat)) (n p : Nat) : Nat × Option (List Nat) := bnd (pT c f n p) (fun q L => pEl c f n n q L)
/-- F, within 4 - r others -/
def pF (c : Nat → Nat) (n : Nat) : Nat → Nat → Nat × Option (List Nat)
  | 0, p => pTest c p
  | r + 1, p => if c p = 33 then bnd (pF c n r (p + 1)) (fun q L => (q, some (L ++ [6000]))) else if c p = 40 then bnd (pE c (pF c n r) n (p + 1)) (fun q L => if c q = 41 then (q + 1, some L) else (q, none)) else pTest c p
def pLit (c : Nat → Nat) : List Nat → Nat → Nat × Bool
  | [], p => (p, true)
  | x :: L, p => if c p = x then pLit c L (p + 1) else (p, false)
def wdN : Nat → List Nat
  | 0 => [115, 117, 105, 116, 32]
  | 1 => [103, 97, 108, 108, 32]
  | 2 => [109, 111, 116, 104, 32]
  | _ => [119, 111, 114, 107, 32]
def hdN (x : Nat) : Nat := if x = 115 then 0 else if x = 103 then 1 else if x = 109 then 2 else 3
/-- a clause: its word, first number, second number, codes -/
abbrev xCl : Type := Nat × Nat × Nat × List Nat
def pCl3 (c : Nat → Nat) (n k v q : Nat) : Nat × Option xCl :=
  if k = 2 then (q, some (2, v, 0, [])) else if ¬ c q = 32 then (q, none) else if k < 2 then bnd (pE c (pF c n 4) n (q + 1)) (fun q1 L => (q1, some (k, v, 0, L))) else bnd (pNum c (q + 1)) (fun q1 w => (q1, some (3, v, w, [])))
def pCl2 (c : Nat → Nat) (n k q : Nat) : Nat × Option xCl := bnd (pNum c q) (fun q1 v => pCl3 c n k v q1)
def pCl (c : Nat → Nat) (n p : Nat) : Nat × Option xCl := match pLit c (wdN (hdN (c p))) p with
  | (q, true) => pCl2 c n (hdN (c p)) q
  | (q, false) => (q, none)
def pTw (c : Nat → Nat) (n : Nat) : Nat → Nat → Nat × Option (List xCl)
  | 0, p => (p, none)
  | j + 1, p => bnd (pCl c n p) (fun q cl => if q = n then (q, some [cl]) else if j = 0 then (q, none) else if c q = 59 then bnd (pTw c n j (q + 1)) (fun q1 R => (q1, some (cl :: R))) else (q, none))
/-! what codes come to -/
def stN6 (tst : Nat → Bool) (k : Nat) (st : List Bool) : Option (List Bool) :=
  if k = 6000 then (match st with
    | b :: r => some ((!b) :: r)
    | [] => none) else if k = 6001 then (match st with
    | b2 :: b1 :: r => some ((b1 && b2) :: r)
    | _ => none) else if k = 6002 then (match st with
    | b2 :: b1 :: r => some ((b1 || b2) :: r)
    | _ => none) else some (tst k :: st)
def evL (tst : Nat → Bool) : List Nat → List Bool → Option (List Bool)
  | [], st => some st
  | k :: L, st => match stN6 tst k st with
    | none => none
    | some st1 => evL tst L st1
theorem evL_app {tst : Nat → Bool} : ∀ {L1 L2 : List Nat} {st s1 : List Bool}, evL tst L1 st = some s1 → evL tst (L1 ++ L2) st = evL tst L2 s1 := by
  intro L1
  induction L1 with
  | nil => intro L2 st s1 h; cases h; rfl
  | cons k L1 ih =>
    intro L2 st s1 h
    show (match stN6 tst k st with
      | none => none
      | some st1 => evL tst (L1 ++ L2) st1) = evL tst L2 s1
    have h' : (match stN6 tst k st with
      | none => none
      | some st1 => evL tst L1 st1) = some s1 := h
    cases e : stN6 tst k st with
    | none => rw [e] at h'; cases h'
    | some st1 => rw [e] at h'; exact ih h'
/-- the class's way: truth values as bits, the latest lowest -/
def stC (tst : Nat → Bool) (k : Nat) (x : Int32) : Int32 := if k = 6000 then x ^^^ nI 1 else if k = 6001 then (x >>> (nI 1 &&& 31)) &&& (x ||| (-2)) else if k = 6002 then (x >>> (nI 1 &&& 31)) ||| (x &&& nI 1) else (x <<< (nI 1 &&& 31)) ||| bI (tst k)
def evC (tst : Nat → Bool) : List Nat → Int32 → Int32
  | [], x => x
  | k :: L, x => evC tst L (stC tst k x)
theorem evC_app {tst : Nat → Bool} : ∀ {L1 L2 : List Nat} {x : Int32}, evC tst (L1 ++ L2) x = evC tst L2 (evC tst L1 x) := by
  intro L1
  induction L1 with
  | nil => intro L2 x; rfl
  | cons k L1 ih => intro L2 x; exact ih
theorem b_lt (b : Bool) : b.toNat ≤ 1 := by cases b <;> decide
theorem bI_nI (b : Bool) : bI b = nI b.toNat := by cases b <;> rfl
theorem c_shr {y : Nat} {b : Bool} (h : 2 * y + b.toNat < 2 ^ 31) : nI (2 * y + b.toNat) >>> (nI 1 &&& 31) = nI y := by
  rw [nI_shr h (by decide)]
  congr 1
  have := b_lt b
  omega
theorem c_xor1 {y : Nat} {b : Bool} : nI (2 * y + b.toNat) ^^^ nI 1 = nI (2 * y + (!b).toNat) := by
  rw [nI_xor]
  congr 1
  refine Nat.eq_of_testBit_eq (fun i => ?_)
  cases i with
  | zero => cases b <;> simp [Nat.testBit_xor, Nat.testBit_zero]
  | succ i =>
    rw [Nat.testBit_xor, Nat.testBit_succ, Nat.testBit_succ, Nat.testBit_succ, show (2 * y + b.toNat) / 2 = y by have := b_lt b; omega, show (2 * y + (!b).toNat) / 2 = y by have := b_lt (!b); omega, show 1 / 2 = 0 from rfl, Nat.zero_testBit, Bool.xor_false]
theorem c_and1 {y : Nat} {b : Bool} : nI (2 * y + b.toNat) &&& nI 1 = nI b.toNat := by
  rw [nI_and]
  congr 1
  rw [Nat.and_one_is_mod]
  have := b_lt b
  omega
theorem c_or1 {y : Nat} {b1 b2 : Bool} : nI (2 * y + b1.toNat) ||| nI b2.toNat = nI (2 * y + (b1 || b2).toNat) := by
  rw [nI_or]
  congr 1
  refine Nat.eq_of_testBit_eq (fun i => ?_)
  cases i with
  | zero => cases b1 <;> cases b2 <;> simp [Nat.testBit_or, Nat.testBit_zero]
  | succ i =>
    rw [Nat.testBit_or, Nat.testBit_succ, Nat.testBit_succ, Nat.testBit_succ, show (2 * y + b1.toNat) / 2 = y by have := b_lt b1; omega, show (2 * y + (b1 || b2).toNat) / 2 = y by have := b_lt (b1 || b2); omega, show b2.toNat / 2 = 0 by have := b_lt b2; omega, Nat.zero_testBit, Bool.or_false]
theorem m2_nI : (-2 : Int32) = nI 4294967294 := by decide
theorem c_andm {y z : Nat} {b1 b2 : Bool} (h : 2 * y + b1.toNat < 2 ^ 31) : nI (2 * y + b1.toNat) &&& (nI (2 * z + b2.toNat) ||| (-2)) = nI (2 * y + (b1 && b2).toNat) := by
  rw [m2_nI, nI_or, nI_and]
  congr 1
  refine Nat.eq_of_testBit_eq (fun i => ?_)
  cases i with
  | zero => cases b1 <;> cases b2 <;> simp [Nat.testBit_or, Nat.testBit_and, Nat.testBit_zero]
  | succ i =>
    rw [Nat.testBit_and, Nat.testBit_or, Nat.testBit_succ, Nat.testBit_succ, Nat.testBit_succ, Nat.testBit_succ, show (2 * y + b1.toNat) / 2 = y by have := b_lt b1; omega, show (2 * y + (b1 && b2).toNat) / 2 = y by have := b_lt (b1 && b2); omega, show 4294967294 / 2 = 2 ^ 31 - 1 from rfl, Nat.testBit_two_pow_sub_one]
    by_cases hi : i < 31
    · rw [decide_eq_true hi, Bool.or_true, Bool.and_true]
    · rw [Nat.testBit_lt_two_pow (Nat.lt_of_lt_of_le (show y < 2 ^ 31 by omega) (Nat.pow_le_pow_right (by decide) (by omega))), Bool.false_and]
theorem c_shl {y : Nat} {b : Bool} (h : y < 2 ^ 30) : (nI y <<< (nI 1 &&& 31)) ||| bI b = nI (2 * y + b.toNat) := by
  rw [show nI y <<< (nI 1 &&& 31) = nI (2 * y + false.toNat) from by
    apply Int32.toBitVec_inj.mp
    apply BitVec.eq_of_toNat_eq
    have e1 : (nI y <<< (nI 1 &&& 31)).toBitVec = (BitVec.ofNat 32 y) <<< 1 := rfl
    have e2 : (nI (2 * y + false.toNat)).toBitVec = BitVec.ofNat 32 (2 * y + 0) := rfl
    rw [e1, e2, BitVec.toNat_shiftLeft, BitVec.toNat_ofNat, BitVec.toNat_ofNat, Nat.shiftLeft_eq, Nat.mod_eq_of_lt (show y < 2 ^ 32 by omega)]
    congr 1
    omega, bI_nI, c_or1, Bool.false_or]
def tkOK (k : Nat) : Prop := k = 6000 ∨ k = 6001 ∨ k = 6002 ∨ (k < 6000 ∧ k / 100 % 10 ≤ 2)
/-- codes that come to one truth value, in either way, m bits at most -/
def Sem (m : Nat) (L : List Nat) : Prop := (∀ k ∈ L, tkOK k) ∧ ∀ tst : Nat → Bool, ∃ b : Bool, (∀ st, evL tst L st = some (b :: st)) ∧ ∀ y, y < 2 ^ (31 - m) → evC tst L (nI y) = nI (2 * y + b.toNat)
theorem Sem.mono {m m2 : Nat} {L : List Nat} (h : Sem m L) (hm : m ≤ m2) : Sem m2 L := by
  refine ⟨h.1, fun tst => ?_⟩
  obtain ⟨b, h1, h2⟩ := h.2 tst
  exact ⟨b, h1, fun y hy => h2 y (Nat.lt_of_lt_of_le hy (Nat.pow_le_pow_right (by decide) (by omega)))⟩
theorem Sem.test {k : Nat} (hk : k < 6000) (hs : k / 100 % 10 ≤ 2) : Sem 1 [k] := by
  refine ⟨fun z hz => ?_, fun tst => ⟨tst k, fun st => ?_, fun y hy => ?_⟩⟩
  · rw [List.mem_singleton] at hz; subst hz; exact Or.inr (Or.inr (Or.inr ⟨hk, hs⟩))
  · unfold evL stN6
    rw [if_neg (by omega), if_neg (by omega), if_neg (by omega)]
    rfl
  · unfold evC stC
    rw [if_neg (by omega), if_neg (by omega), if_neg (by omega)]
    exact c_shl hy
theorem Sem.not {m : Nat} {L : List Nat} (h : Sem m L) : Sem m (L ++ [6000]) := by
  refine ⟨fun z hz => ?_, fun tst => ?_⟩
  · rcases List.mem_append.mp hz with h1 | h1
    · exact h.1 z h1
    · rw [List.mem_singleton] at h1; exact Or.inl h1
  · obtain ⟨b, h1, h2⟩ := h.2 tst
    refine ⟨!b, fun st => ?_, fun y hy => ?_⟩
    · rw [evL_app (h1 st)]; rfl
    · rw [evC_app, h2 y hy]
      exact c_xor1
theorem p31 {m y : Nat} {b : Bool} (hm : 1 ≤ m) (hm2 : m ≤ 31) (hy : y < 2 ^ (31 - m)) : 2 * y + b.toNat < 2 ^ (31 - (m - 1)) := by
  have h1 := b_lt b
  have h2 : 2 ^ (31 - (m - 1)) = 2 * 2 ^ (31 - m) := by rw [show 31 - (m - 1) = (31 - m) + 1 by omega, Nat.pow_succ, Nat.mul_comm]
  omega
theorem Sem.bin {m : Nat} {L1 L2 : List Nat} {k : Nat} (hk : k = 6001 ∨ k = 6002) (hm : 1 ≤ m) (hm2 : m ≤ 30) (h1 : Sem (m + 1) L1) (h2 : Sem m L2) : Sem (m + 1) (L1 ++ L2 ++ [k]) := by
  refine ⟨fun z hz => ?_, fun tst => ?_⟩
  · rcases List.mem_append.mp hz with h3 | h3
    · rcases List.mem_append.mp h3 with h4 | h4
      · exact h1.1 z h4
      · exact h2.1 z h4
    · rw [List.mem_singleton] at h3; subst h3
      rcases hk with e | e
      · exact Or.inr (Or.inl e)
      · exact Or.inr (Or.inr (Or.inl e))
  · obtain ⟨b1, e1, cq1⟩ := h1.2 tst
    obtain ⟨b2, e2, cq2⟩ := h2.2 tst
    have hb1 := b_lt b1
    have hb2 := b_lt b2
    rcases hk with rfl | rfl
    · refine ⟨b1 && b2, fun st => ?_, fun y hy => ?_⟩
      · rw [List.append_assoc, evL_app (e1 st), evL_app (e2 (b1 :: st))]; rfl
      · have hq : y < 2 ^ (31 - (m + 1)) := hy
        have q1 := p31 (b := b1) (by omega) (by omega) hq
        rw [show m + 1 - 1 = m from rfl] at q1
        have q2 := p31 (b := b2) hm (by omega) q1
        have q3 : 2 ^ (31 - (m - 1)) ≤ 2 ^ 31 := Nat.pow_le_pow_right (by decide) (by omega)
        have q4 : 2 ^ (31 - m) ≤ 2 ^ 31 := Nat.pow_le_pow_right (by decide) (by omega)
        rw [evC_app, evC_app, cq1 y hy, cq2 _ q1]
        show (nI _ >>> (nI 1 &&& 31)) &&& (nI _ ||| (-2)) = _
        rw [c_shr (by omega), c_andm (by omega)]
    · refine ⟨b1 || b2, fun st => ?_, fun y hy => ?_⟩
      · rw [List.append_assoc, evL_app (e1 st), evL_app (e2 (b1 :: st))]; rfl
      · have hq : y < 2 ^ (31 - (m + 1)) := hy
        have q1 := p31 (b := b1) (by omega) (by omega) hq
        rw [show m + 1 - 1 = m from rfl] at q1
        have q2 := p31 (b := b2) hm (by omega) q1
        have q3 : 2 ^ (31 - (m - 1)) ≤ 2 ^ 31 := Nat.pow_le_pow_right (by decide) (by omega)
        rw [evC_app, evC_app, cq1 y hy, cq2 _ q1]
        show (nI _ >>> (nI 1 &&& 31)) ||| (nI _ &&& nI 1) = _
        rw [c_shr (by omega), c_and1, c_or1]
/-! bounds of what was read -/
/-- the text's bytes stand below n; behind them 200 -/
def CT (c : Nat → Nat) (n : Nat) : Prop := ∀ p, (n ≤ p → c p = 200) ∧ (p < n → c p < 128)
theorem CT.lt {c : Nat → Nat} {n p : Nat} (h : CT c n) (hp : c p < 200) : p < n := by
  by_cases e : p < n
  · exact e
  · have := (h p).1 (by omega)
    omega
theorem isD_iff {x : Nat} : isD x = true ↔ 48 ≤ x ∧ x ≤ 57 := decide_eq_true_iff
theorem isD_no {x : Nat} (h : ¬ isD x = true) : x < 48 ∨ 57 < x := by rw [isD_iff] at h; omega
theorem pNum_some {c : Nat → Nat} {n p q v : Nat} (hc : CT c n) (h : pNum c p = (q, some v)) : p < q ∧ q ≤ n ∧ q ≤ p + 2 ∧ v < 100 := by
  unfold pNum at h
  by_cases h1 : isD (c p) = true
  · rw [if_pos h1] at h
    rw [isD_iff] at h1
    have hp := hc.lt (p := p) (by omega)
    by_cases h2 : isD (c (p + 1)) = true
    · rw [if_pos h2] at h
      rw [isD_iff] at h2
      have hp2 := hc.lt (p := p + 1) (by omega)
      cases h
      omega
    · rw [if_neg h2] at h
      cases h
      omega
  · rw [if_neg h1] at h
    cases h
theorem pNum_none {c : Nat → Nat} {p q : Nat} (h : pNum c p = (q, none)) : q = p ∧ isD (c p) = false := by
  unfold pNum at h
  by_cases h1 : isD (c p) = true
  · rw [if_pos h1] at h
    by_cases h2 : isD (c (p + 1)) = true
    · rw [if_pos h2] at h; cases h
    · rw [if_neg h2] at h; cases h
  · rw [if_neg h1] at h
    cases h
    exact ⟨rfl, Bool.eq_false_iff.mpr h1⟩
theorem ltN_some {x f : Nat} (h : ltN x = some f) : f ≤ 5 ∧ 97 ≤ x ∧ x ≤ 117 := by
  unfold ltN at h
  repeat' split at h
  all_goals first | (cases h; omega) | cases h
/-- what holds of a reader of codes -/
def PG (n m : Nat) (f : Nat → Nat × Option (List Nat)) : Prop := ∀ p, (∀ q L, f p = (q, some L) → p < q ∧ q ≤ n ∧ L.length ≤ q - p ∧ Sem m L) ∧ (∀ q, p ≤ n → f p = (q, none) → p ≤ q ∧ q ≤ n)
theorem pTest_pg {c : Nat → Nat} {n : Nat} (hc : CT c n) : PG n 1 (pTest c) := by
  intro p
  constructor
  · intro q L h
    unfold pTest at h
    cases e : ltN (c p) with
    | none => rw [e] at h; cases h
    | some f =>
      rw [e] at h
      obtain ⟨hf, hx, hx2⟩ := ltN_some e
      by_cases h1 : 60 ≤ c (p + 1) ∧ c (p + 1) ≤ 62
      · replace h : bnd (pNum c (p + 2)) (fun q v => (q, some [1000 * f + 100 * (c (p + 1) - 60) + v])) = (q, some L) := (if_pos h1).symm.trans h
        cases e2 : pNum c (p + 2) with
        | mk q1 o =>
          rw [e2] at h
          cases o with
          | none => cases h
          | some v =>
            obtain ⟨g1, g2, g3, g4⟩ := pNum_some hc e2
            cases h
            exact ⟨by omega, g2, by show 1 ≤ _; omega, Sem.test (by omega) (by omega)⟩
      · have h' : (p + 1, none) = (q, some L) := (if_neg h1).symm.trans h
        cases h'
  · intro q hp h
    unfold pTest at h
    cases e : ltN (c p) with
    | none => rw [e] at h; cases h; omega
    | some f =>
      rw [e] at h
      obtain ⟨hf, hx, hx2⟩ := ltN_some e
      have hp1 := hc.lt (p := p) (by omega)
      by_cases h1 : 60 ≤ c (p + 1) ∧ c (p + 1) ≤ 62
      · have hp2 := hc.lt (p := p + 1) (by omega)
        replace h : bnd (pNum c (p + 2)) (fun q v => (q, some [1000 * f + 100 * (c (p + 1) - 60) + v])) = (q, none) := (if_pos h1).symm.trans h
        cases e2 : pNum c (p + 2) with
        | mk q1 o =>
          rw [e2] at h
          cases o with
          | none =>
            obtain ⟨g1, g2⟩ := pNum_none e2
            cases h
            omega
          | some v => cases h
      · have h' : (p + 1, none) = (q, none) := (if_neg h1).symm.trans h
        cases h'
        omega
theorem pTl_pg {c : Nat → Nat} {n m : Nat} {f : Nat → Nat × Option (List Nat)} (hc : CT c n) (hm : 1 ≤ m) (hm2 : m ≤ 20) (hf : PG n m f) : ∀ (j q0 : Nat) (L0 : List Nat) (p : Nat), p < q0 → q0 ≤ n → L0.length ≤ q0 - p → Sem (m + 1) L0 → (∀ q L, pTl c f j q0 L0 = (q, some L) → p < q ∧ q ≤ n ∧ L.length ≤ q - p ∧ Sem (m + 1) L) ∧ (∀ q, pTl c f j q0 L0 = (q, none) → p ≤ q ∧ q ≤ n) := by
  intro j
  induction j with
  | zero =>
    intro q0 L0 p h1 h2 h3 h4
    exact ⟨fun q L h => by cases h; exact ⟨h1, h2, h3, h4⟩, fun q h => by cases h⟩
  | succ j ih =>
    intro q0 L0 p h1 h2 h3 h4
    by_cases hq : c q0 = 38
    · have hq0 := hc.lt (p := q0) (by omega)
      cases e : f (q0 + 1) with
      | mk q1 o =>
        rw [show pTl c f (j + 1) q0 L0 = bnd (f (q0 + 1)) (fun q1 L1 => pTl c f j q1 (L0 ++ L1 ++ [6001])) from if_pos hq, e]
        cases o with
        | none =>
          obtain ⟨g1, g2⟩ := (hf (q0 + 1)).2 q1 (by omega) e
          exact ⟨fun q L h => (by cases h), fun q h => by cases h; omega⟩
        | some L1 =>
          obtain ⟨g1, g2, g3, g4⟩ := (hf (q0 + 1)).1 q1 L1 e
          exact ih q1 _ p (by omega) g2 (by rw [List.length_append, List.length_append]; show _ + 1 ≤ _; omega) (Sem.bin (Or.inl rfl) hm (by omega) h4 g4)
    · have E : pTl c f (j + 1) q0 L0 = (q0, some L0) := if_neg hq
      rw [E]
      exact ⟨fun q L h => by cases h; exact ⟨h1, h2, h3, h4⟩, fun q h => by cases h⟩
theorem pT_pg {c : Nat → Nat} {n m : Nat} {f : Nat → Nat × Option (List Nat)} (hc : CT c n) (hm : 1 ≤ m) (hm2 : m ≤ 20) (hf : PG n m f) : PG n (m + 1) (pT c f n) := by
  intro p
  cases e : f p with
  | mk q1 o =>
    rw [show pT c f n p = bnd (f p) (fun q L => pTl c f n q L) from rfl, e]
    cases o with
    | none => exact ⟨fun q L h => (by cases h), fun q hp h => by cases h; exact (hf p).2 _ hp e⟩
    | some L1 =>
      obtain ⟨g1, g2, g3, g4⟩ := (hf p).1 q1 L1 e
      have := pTl_pg hc hm hm2 hf n q1 L1 p g1 g2 g3 (g4.mono (by omega))
      exact ⟨this.1, fun q _ h => this.2 q h⟩
theorem pEl_pg {c : Nat → Nat} {n m : Nat} {f : Nat → Nat × Option (List Nat)} (hc : CT c n) (hm : 1 ≤ m) (hm2 : m ≤ 20) (hf : PG n m f) : ∀ (j q0 : Nat) (L0 : List Nat) (p : Nat), p < q0 → q0 ≤ n → L0.length ≤ q0 - p → Sem (m + 2) L0 → (∀ q L, pEl c f n j q0 L0 = (q, some L) → p < q ∧ q ≤ n ∧ L.length ≤ q - p ∧ Sem (m + 2) L) ∧ (∀ q, pEl c f n j q0 L0 = (q, none) → p ≤ q ∧ q ≤ n) := by
  have hT := pT_pg hc hm hm2 hf
  intro j
  induction j with
  | zero =>
    intro q0 L0 p h1 h2 h3 h4
    exact ⟨fun q L h => by cases h; exact ⟨h1, h2, h3, h4⟩, fun q h => by cases h⟩
  | succ j ih =>
    intro q0 L0 p h1 h2 h3 h4
    by_cases hq : c q0 = 124
    · have hq0 := hc.lt (p := q0) (by omega)
      cases e : pT c f n (q0 + 1) with
      | mk q1 o =>
        rw [show pEl c f n (j + 1) q0 L0 = bnd (pT c f n (q0 + 1)) (fun q1 L1 => pEl c f n j q1 (L0 ++ L1 ++ [6002])) from if_pos hq, e]
        cases o with
        | none =>
          obtain ⟨g1, g2⟩ := (hT (q0 + 1)).2 q1 (by omega) e
          exact ⟨fun q L h => (by cases h), fun q h => by cases h; omega⟩
        | some L1 =>
          obtain ⟨g1, g2, g3, g4⟩ := (hT (q0 + 1)).1 q1 L1 e
          exact ih q1 _ p (by omega) g2 (by rw [List.length_append, List.length_append]; show _ + 1 ≤ _; omega) (Sem.bin (Or.inr rfl) (by omega) (by omega) h4 g4)
    · have E : pEl c f n (j + 1) q0 L0 = (q0, some L0) := if_neg hq
      rw [E]
      exact ⟨fun q L h => by cases h; exact ⟨h1, h2, h3, h4⟩, fun q h => by cases h⟩
theorem pE_pg {c : Nat → Nat} {n m : Nat} {f : Nat → Nat × Option (List Nat)} (hc : CT c n) (hm : 1 ≤ m) (hm2 : m ≤ 20) (hf : PG n m f) : PG n (m + 2) (pE c f n) := by
  have hT := pT_pg hc hm hm2 hf
  intro p
  cases e : pT c f n p with
  | mk q1 o =>
    rw [show pE c f n p = bnd (pT c f n p) (fun q L => pEl c f n n q L) from rfl, e]
    cases o with
    | none => exact ⟨fun q L h => (by cases h), fun q hp h => by cases h; exact (hT p).2 _ hp e⟩
    | some L1 =>
      obtain ⟨g1, g2, g3, g4⟩ := (hT p).1 q1 L1 e
      have := pEl_pg hc hm hm2 hf n q1 L1 p g1 g2 g3 (g4.mono (by omega))
      exact ⟨this.1, fun q _ h => this.2 q h⟩
theorem pF_pg {c : Nat → Nat} {n : Nat} (hc : CT c n) : ∀ r, r ≤ 4 → PG n (2 * r + 1) (pF c n r) := by
  intro r
  induction r with
  | zero => intro _; exact pTest_pg hc
  | succ r ih =>
    intro hr p
    have hF := ih (by omega)
    have hE := pE_pg hc (by omega) (by omega) hF
    by_cases h1 : c p = 33
    · have hp := hc.lt (p := p) (by omega)
      cases e : pF c n r (p + 1) with
      | mk q1 o =>
        rw [show pF c n (r + 1) p = bnd (pF c n r (p + 1)) (fun q L => (q, some (L ++ [6000]))) from if_pos h1, e]
        cases o with
        | none =>
          obtain ⟨g1, g2⟩ := (hF (p + 1)).2 q1 (by omega) e
          exact ⟨fun q L h => (by cases h), fun q _ h => by cases h; omega⟩
        | some L1 =>
          obtain ⟨g1, g2, g3, g4⟩ := (hF (p + 1)).1 q1 L1 e
          exact ⟨fun q L h => by cases h; exact ⟨by omega, g2, by rw [List.length_append]; show _ + 1 ≤ _; omega, (Sem.not g4).mono (by omega)⟩, fun q _ h => by cases h⟩
    · by_cases h2 : c p = 40
      · have hp := hc.lt (p := p) (by omega)
        cases e : pE c (pF c n r) n (p + 1) with
        | mk q1 o =>
          rw [show pF c n (r + 1) p = bnd (pE c (pF c n r) n (p + 1)) (fun q L => if c q = 41 then (q + 1, some L) else (q, none)) from (if_neg h1).trans (if_pos h2), e]
          cases o with
          | none =>
            obtain ⟨g1, g2⟩ := (hE (p + 1)).2 q1 (by omega) e
            exact ⟨fun q L h => (by cases h), fun q _ h => by cases h; omega⟩
          | some L1 =>
            obtain ⟨g1, g2, g3, g4⟩ := (hE (p + 1)).1 q1 L1 e
            by_cases h3 : c q1 = 41
            · have hq := hc.lt (p := q1) (by omega)
              have E2 : bnd (q1, some L1) (fun q L => if c q = 41 then (q + 1, some L) else (q, none)) = (q1 + 1, some L1) := if_pos h3
              rw [E2]
              exact ⟨fun q L h => by cases h; exact ⟨by omega, by omega, by omega, g4⟩, fun q _ h => by cases h⟩
            · have E2 : bnd (q1, some L1) (fun q L => if c q = 41 then (q + 1, some L) else (q, none)) = (q1, none) := if_neg h3
              rw [E2]
              exact ⟨fun q L h => (by cases h), fun q _ h => by cases h; omega⟩
      · have E : pF c n (r + 1) p = pTest c p := (if_neg h1).trans (if_neg h2)
        rw [E]
        have hT := pTest_pg hc p
        exact ⟨fun q L h => by obtain ⟨g1, g2, g3, g4⟩ := hT.1 q L h; exact ⟨g1, g2, g3, g4.mono (by omega)⟩, hT.2⟩
