/-! numbers, folds, rows over numbers -/
theorem i_lt {a b : Int32} : a < b ↔ a.toInt < b.toInt := Int32.lt_iff_toInt_lt
theorem i_le {a b : Int32} : a ≤ b ↔ a.toInt ≤ b.toInt := Int32.le_iff_toInt_le
theorem i_eq {a b : Int32} : a = b ↔ a.toInt = b.toInt := ⟨fun h => by rw [h], fun h => Int32.toInt_inj.mp h⟩
/-- the truth value of lo ≤ v ≤ hi -/
def inB (v lo hi : Int32) : Bool := decide (lo ≤ v ∧ v ≤ hi)
theorem inB_f1 {v lo hi : Int32} (c : v < lo) : inB v lo hi = false := decide_eq_false (fun z => by rw [i_lt] at c; rw [i_le] at z; omega)
theorem inB_f2 {v lo hi : Int32} (c : hi < v) : inB v lo hi = false := decide_eq_false (fun z => by rw [i_lt] at c; rw [i_le, i_le] at z; omega)
theorem inB_t {v lo hi : Int32} (c : ¬ v < lo) (c2 : ¬ hi < v) : inB v lo hi = true := decide_eq_true (by rw [i_lt] at c c2; rw [i_le, i_le]; omega)
theorem inB_iff {v lo hi : Int32} : inB v lo hi = true ↔ lo.toInt ≤ v.toInt ∧ v.toInt ≤ hi.toInt := by unfold inB; rw [decide_eq_true_iff, i_le, i_le]
/-- v is a number below n -/
def ixB (v : Int32) (n : Nat) : Bool := decide (0 ≤ v.toInt ∧ v.toInt < n)
theorem nI_t {n : Nat} (h : n < 2 ^ 31) : (nI n).toInt = (n : Int) := nI_toInt h
theorem ixB_nI {k n : Nat} (hk : k < 2 ^ 31) : ixB (nI k) n = decide (k < n) := by
  unfold ixB
  rw [nI_t hk]
  by_cases h : k < n
  · rw [decide_eq_true h, decide_eq_true]; omega
  · rw [decide_eq_false h, decide_eq_false]; omega
theorem ixB_of {v : Int32} {n : Nat} (hn : n < 2 ^ 31) (h : ixB v n = true) : ∃ k, k < n ∧ v = nI k := by
  have h1 := of_decide_eq_true h
  refine ⟨v.toInt.toNat, by omega, ?_⟩
  rw [i_eq, nI_t (by omega)]
  omega
theorem ixB_in {v : Int32} {n : Nat} (hn : n < 2 ^ 31) : inB v 0 (nI n - 1) = ixB v n := by
  have e : (nI n - 1).toInt = (n : Int) - 1 := by
    rw [Int32.toInt_sub, nI_t hn]
    show ((n : Int) - 1).bmod (2 ^ 32) = _
    rw [Int.bmod_eq_of_le] <;> omega
  unfold inB ixB
  congr 1
  rw [i_le, i_le, e, show (0 : Int32).toInt = 0 from rfl]
  exact propext ⟨fun z => ⟨z.1, by omega⟩, fun z => ⟨z.1, by omega⟩⟩
theorem ixB_in0 {v : Int32} {m : Nat} (hm : m < 2 ^ 31) : inB v (nI 0) (nI m) = ixB v (m + 1) := by
  unfold inB ixB
  congr 1
  rw [i_le, i_le, nI_t hm, nI_t (by decide)]
  exact propext ⟨fun z => ⟨z.1, by omega⟩, fun z => ⟨z.1, by omega⟩⟩
/-- a fold over k, k + 1 .. (j of them) -/
def fld {α : Type} (f : Nat → α → α) : Nat → Nat → α → α
  | 0, _, s => s
  | j + 1, k, s => fld f j (k + 1) (f k s)
theorem fld_congr {α : Type} {f g : Nat → α → α} : ∀ {j k : Nat} {s : α}, (∀ i, k ≤ i → i < k + j → ∀ s, f i s = g i s) → fld f j k s = fld g j k s := by
  intro j
  induction j with
  | zero => intro k s _; rfl
  | succ j ih =>
    intro k s h
    show fld f j (k + 1) (f k s) = fld g j (k + 1) (g k s)
    rw [h k (Nat.le_refl _) (by omega)]
    exact ih (fun i h1 h2 => h i (by omega) (by omega))
/-- the first of k, k + 1 .. (j of them) with p -/
def fnd (p : Nat → Bool) : Nat → Nat → Option Nat
  | 0, _ => none
  | j + 1, k => if p k then some k else fnd p j (k + 1)
theorem fnd_some {p : Nat → Bool} : ∀ {j k i : Nat}, fnd p j k = some i → k ≤ i ∧ i < k + j ∧ p i = true ∧ ∀ m, k ≤ m → m < i → p m = false := by
  intro j
  induction j with
  | zero => intro k i h; cases h
  | succ j ih =>
    intro k i h
    unfold fnd at h
    by_cases hp : p k = true
    · rw [if_pos hp] at h
      cases h
      exact ⟨Nat.le_refl _, by omega, hp, fun m h1 h2 => by omega⟩
    · rw [if_neg hp] at h
      obtain ⟨h1, h2, h3, h4⟩ := ih h
      refine ⟨by omega, by omega, h3, fun m m1 m2 => ?_⟩
      by_cases e : m = k
      · subst e; exact Bool.eq_false_iff.mpr hp
      · exact h4 m (by omega) m2
theorem fnd_none {p : Nat → Bool} : ∀ {j k : Nat}, fnd p j k = none → ∀ m, k ≤ m → m < k + j → p m = false := by
  intro j
  induction j with
  | zero => intro k _ m h1 h2; omega
  | succ j ih =>
    intro k h m h1 h2
    unfold fnd at h
    by_cases hp : p k = true
    · rw [if_pos hp] at h; cases h
    · rw [if_neg hp] at h
      by_cases e : m = k
      · subst e; exact Bool.eq_false_iff.mpr hp
      · exact ih h m (by omega) (by omega)
theorem nI_or (a b : Nat) : nI a ||| nI b = nI (a ||| b) := by
  apply Int32.toBitVec_inj.mp
  simp [nI, Int32.toBitVec_or, Int32.toBitVec_ofNat, BitVec.ofNat_or]
theorem nI_and (a b : Nat) : nI a &&& nI b = nI (a &&& b) := by
  apply Int32.toBitVec_inj.mp
  simp [nI, Int32.toBitVec_and, Int32.toBitVec_ofNat, BitVec.ofNat_and]
theorem nI_xor (a b : Nat) : nI a ^^^ nI b = nI (a ^^^ b) := by
  apply Int32.toBitVec_inj.mp
  simp [nI, Int32.toBitVec_xor, Int32.toBitVec_ofNat, BitVec.ofNat_xor]
theorem nI_shl1 {k : Nat} (hk : k < 6) : nI 1 <<< (nI k &&& 31) = nI (2 ^ k) := by
  rcases (show k = 0 ∨ k = 1 ∨ k = 2 ∨ k = 3 ∨ k = 4 ∨ k = 5 by omega) with rfl | rfl | rfl | rfl | rfl | rfl <;> decide
theorem nI_shr {s k : Nat} (hs : s < 2 ^ 31) (hk : k < 6) : nI s >>> (nI k &&& 31) = nI (s / 2 ^ k) := by
  rcases (show k = 0 ∨ k = 1 ∨ k = 2 ∨ k = 3 ∨ k = 4 ∨ k = 5 by omega) with rfl | rfl | rfl | rfl | rfl | rfl <;> exact pk_shrN hs _ _ (by decide)
section EVN
variable {d y pc cn : Nat} {ls ls1 : List (Nat × Value)} {rest : List Value} {I : Nat → Nat → Int32} {J : Nat → Nat → Int64} {K : Nat → Nat → Option Nat} {h : List xSh} {Φ : xPost}
theorem p_iorN {a b : Nat} (hd0 : xdec y pc = some (cn, .ior, 1)) (k0 : EvP d y (pc + 1) ls (.int (nI (a ||| b)) :: rest) (I, J, K, h) Φ) : EvP d y pc ls (.int (nI b) :: .int (nI a) :: rest) (I, J, K, h) Φ := p_ior hd0 (by rw [nI_or]; exact k0)
theorem p_iandN {a b : Nat} (hd0 : xdec y pc = some (cn, .iand, 1)) (k0 : EvP d y (pc + 1) ls (.int (nI (a &&& b)) :: rest) (I, J, K, h) Φ) : EvP d y pc ls (.int (nI b) :: .int (nI a) :: rest) (I, J, K, h) Φ := p_iand hd0 (by rw [nI_and]; exact k0)
theorem p_ixorN {a b : Nat} (hd0 : xdec y pc = some (cn, .ixor, 1)) (k0 : EvP d y (pc + 1) ls (.int (nI (a ^^^ b)) :: rest) (I, J, K, h) Φ) : EvP d y pc ls (.int (nI b) :: .int (nI a) :: rest) (I, J, K, h) Φ := p_ixor hd0 (by rw [nI_xor]; exact k0)
theorem p_ishl1 {k : Nat} (hk : k < 6) (hd0 : xdec y pc = some (cn, .ishl, 1)) (k0 : EvP d y (pc + 1) ls (.int (nI (2 ^ k)) :: rest) (I, J, K, h) Φ) : EvP d y pc ls (.int (nI k) :: .int (nI 1) :: rest) (I, J, K, h) Φ := p_ishl hd0 (by rw [nI_shl1 hk]; exact k0)
theorem p_ishrN {s k : Nat} (hs : s < 2 ^ 31) (hk : k < 6) (hd0 : xdec y pc = some (cn, .ishr, 1)) (k0 : EvP d y (pc + 1) ls (.int (nI (s / 2 ^ k)) :: rest) (I, J, K, h) Φ) : EvP d y pc ls (.int (nI k) :: .int (nI s) :: rest) (I, J, K, h) Φ := p_ishr hd0 (by rw [nI_shr hs hk]; exact k0)
theorem p_iremN {a b : Nat} (ha : a < 2 ^ 31) (h0 : 0 < b) (hb : b < 2 ^ 31) (hd0 : xdec y pc = some (cn, .irem, 1)) (k0 : EvP d y (pc + 1) ls (.int (nI (a % b)) :: rest) (I, J, K, h) Φ) : EvP d y pc ls (.int (nI b) :: .int (nI a) :: rest) (I, J, K, h) Φ := p_irem hd0 (nI_ne0 h0 hb) (by rw [pk_rem ha h0 hb]; exact k0)
theorem p_idivN {a b : Nat} (ha : a < 2 ^ 31) (h0 : 0 < b) (hb : b < 2 ^ 31) (hd0 : xdec y pc = some (cn, .idiv, 1)) (k0 : EvP d y (pc + 1) ls (.int (nI (a / b)) :: rest) (I, J, K, h) Φ) : EvP d y pc ls (.int (nI b) :: .int (nI a) :: rest) (I, J, K, h) Φ := p_idiv hd0 (nI_ne0 h0 hb) (by rw [pk_div ha h0 hb]; exact k0)
theorem p_topI {x : Int32} (k0 : ∀ z : Int32, z = x → EvP d y pc ls (.int z :: rest) (I, J, K, h) Φ) : EvP d y pc ls (.int x :: rest) (I, J, K, h) Φ := k0 x rfl
theorem p_topL {x : Int64} (k0 : ∀ z : Int64, z = x → EvP d y pc ls (.long z :: rest) (I, J, K, h) Φ) : EvP d y pc ls (.long x :: rest) (I, J, K, h) Φ := k0 x rfl
theorem p_if_eqN {a : Nat} {off : Int} {tgt : Nat} (hd0 : xdec y pc = some (cn, .ifCond .eq off, 3)) (ht : (pc : Int) + off = (tgt : Int)) (ha : a < 2 ^ 31) (kt : a = 0 → EvP d y tgt ls rest (I, J, K, h) Φ) (kf : a ≠ 0 → EvP d y (pc + 3) ls rest (I, J, K, h) Φ) : EvP d y pc ls (.int (nI a) :: rest) (I, J, K, h) Φ := p_if_eq hd0 ht (fun c => kt ((nI_eq ha (by decide)).mp c)) (fun c => kf (fun z => c (by rw [z]; rfl)))
theorem p_if_neN {a : Nat} {off : Int} {tgt : Nat} (hd0 : xdec y pc = some (cn, .ifCond .ne off, 3)) (ht : (pc : Int) + off = (tgt : Int)) (ha : a < 2 ^ 31) (kt : a ≠ 0 → EvP d y tgt ls rest (I, J, K, h) Φ) (kf : a = 0 → EvP d y (pc + 3) ls rest (I, J, K, h) Φ) : EvP d y pc ls (.int (nI a) :: rest) (I, J, K, h) Φ := p_if_ne hd0 ht (fun c => kt (fun z => c (by rw [z]; rfl))) (fun c => kf ((nI_eq ha (by decide)).mp c))
theorem p_if_geN {a : Nat} {off : Int} {tgt : Nat} (hd0 : xdec y pc = some (cn, .ifCond .ge off, 3)) (ht : (pc : Int) + off = (tgt : Int)) (ha : a < 2 ^ 31) (k0 : EvP d y tgt ls rest (I, J, K, h) Φ) : EvP d y pc ls (.int (nI a) :: rest) (I, J, K, h) Φ := p_if_ge hd0 ht (fun _ => k0) (fun c => absurd (by rw [i_le, nI_t ha]; show (0 : Int) ≤ _; omega) c)
theorem p_if_ltN {a : Nat} {off : Int} {tgt : Nat} (hd0 : xdec y pc = some (cn, .ifCond .lt off, 3)) (ht : (pc : Int) + off = (tgt : Int)) (ha : a < 2 ^ 31) (k0 : EvP d y (pc + 3) ls rest (I, J, K, h) Φ) : EvP d y pc ls (.int (nI a) :: rest) (I, J, K, h) Φ := p_if_lt hd0 ht (fun c => absurd c (by rw [i_lt, nI_t ha]; show ¬ (_ : Int) < 0; omega)) (fun _ => k0)
theorem p_if_leN {a : Nat} {off : Int} {tgt : Nat} (hd0 : xdec y pc = some (cn, .ifCond .le off, 3)) (ht : (pc : Int) + off = (tgt : Int)) (ha : a < 2 ^ 31) (kt : a = 0 → EvP d y tgt ls rest (I, J, K, h) Φ) (kf : a ≠ 0 → EvP d y (pc + 3) ls rest (I, J, K, h) Φ) : EvP d y pc ls (.int (nI a) :: rest) (I, J, K, h) Φ := p_if_le hd0 ht (fun c => kt (by rw [i_le, nI_t ha, show (0 : Int32).toInt = 0 from rfl] at c; omega)) (fun c => kf (fun z => c (by rw [z]; decide)))
/-- a switch at a number -/
theorem p_tswI {dflt lo hi : Int} {offs : Array Int} {len v : Nat} {off : Int} {tgt : Nat} (hd0 : xdec y pc = some (cn, .tableswitch dflt lo hi offs, len)) (hv : v < 2 ^ 31) (h1 : lo ≤ (v : Int)) (h2 : (v : Int) ≤ hi) (ho : offs[((v : Int) - lo).toNat]? = some off) (ht : (pc : Int) + off = (tgt : Int)) (k0 : EvP d y tgt ls rest (I, J, K, h) Φ) : EvP d y pc ls (.int (nI v) :: rest) (I, J, K, h) Φ := p_tableIn hd0 (by rw [nI_t hv]; omega) (by rw [nI_t hv]; omega) (by rw [nI_t hv]; exact ho) ht k0
theorem p_tswO {dflt lo hi : Int} {offs : Array Int} {len v : Nat} {tgt : Nat} (hd0 : xdec y pc = some (cn, .tableswitch dflt lo hi offs, len)) (hv : v < 2 ^ 31) (h1 : (v : Int) < lo ∨ hi < (v : Int)) (ht : (pc : Int) + dflt = (tgt : Int)) (k0 : EvP d y tgt ls rest (I, J, K, h) Φ) : EvP d y pc ls (.int (nI v) :: rest) (I, J, K, h) Φ := p_tableOut hd0 (by rw [nI_t hv]; exact h1) ht k0
/-- the top of the stack has another name -/
theorem p_toI {x z : Int32} (e : x = z) (k0 : EvP d y pc ls (.int z :: rest) (I, J, K, h) Φ) : EvP d y pc ls (.int x :: rest) (I, J, K, h) Φ := by rw [e]; exact k0
end EVN
theorem nI_neg {v : Nat} {z : Int32} (hv : v < 2 ^ 31) (hz : z.toInt < 0) : nI v ≠ z := fun e => by
  have := nI_t hv
  rw [e] at this
  omega
theorem xaty_2 : xaty (.object RX2) := Or.inr (Or.inl rfl)
theorem xaty_8 : xaty (.object RX8) := Or.inr (Or.inr (Or.inl rfl))
theorem xaty_5 : xaty (.object RX5) := Or.inr (Or.inr (Or.inr rfl))
