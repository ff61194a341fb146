/-! runs with a postcondition; numbers nI k, truth values bI b, calls by how many arguments -/
def bI (b : Bool) : Int32 := if b then 1 else 0
theorem bI_01 (b : Bool) : bI b = 0 ∨ bI b = 1 := by cases b <;> simp [bI]
abbrev xPost : Type := Option Value → xMem → Prop
def EvP (d y pc : Nat) (ls : List (Nat × Value)) (st : List Value) (m : xMem) (Φ : xPost) : Prop := ∃ r t, Ev d y pc ls st m r t ∧ Φ r t
def QI (ψ : Int32 → xMem → Prop) : xPost := fun r t => ∃ x, r = some (.int x) ∧ ψ x t
def QL (ψ : Int64 → xMem → Prop) : xPost := fun r t => ∃ x, r = some (.long x) ∧ ψ x t
def QR (ψ : Nat → xMem → Prop) : xPost := fun r t => ∃ a, r = some (.ref a) ∧ ψ a t
def QV (ψ : xMem → Prop) : xPost := fun r t => r = none ∧ ψ t
theorem EvP.mono {d y pc : Nat} {ls : List (Nat × Value)} {st : List Value} {m : xMem} {Φ Ψ : xPost} (h : EvP d y pc ls st m Φ) (k : ∀ r t, Φ r t → Ψ r t) : EvP d y pc ls st m Ψ := by
  obtain ⟨r, t, h1, h2⟩ := h
  exact ⟨r, t, h1, k r t h2⟩
theorem p_iconst {d y pc cn : Nat} {ls : List (Nat × Value)} {rest : List Value} {I : Nat → Nat → Int32} {J : Nat → Nat → Int64} {K : Nat → Nat → Option Nat} {h : List xSh} {Φ : xPost} {n : Int} {v : Int32} (hd0 : xdec y pc = some (cn, .iconst n, 1)) (hv : Int32.ofInt n = v) (k0 : EvP d y (pc + 1) ls (.int v :: rest) (I, J, K, h) Φ) : EvP d y pc ls rest (I, J, K, h) Φ := by
  obtain ⟨r, t, g8, g9⟩ := k0
  exact ⟨r, t, e_iconst hd0 hv g8, g9⟩
theorem p_bipush {d y pc cn : Nat} {ls : List (Nat × Value)} {rest : List Value} {I : Nat → Nat → Int32} {J : Nat → Nat → Int64} {K : Nat → Nat → Option Nat} {h : List xSh} {Φ : xPost} {n : Int} {v : Int32} (hd0 : xdec y pc = some (cn, .bipush n, 2)) (hv : (Int8.ofInt n).toInt32 = v) (k0 : EvP d y (pc + 2) ls (.int v :: rest) (I, J, K, h) Φ) : EvP d y pc ls rest (I, J, K, h) Φ := by
  obtain ⟨r, t, g8, g9⟩ := k0
  exact ⟨r, t, e_bipush hd0 hv g8, g9⟩
theorem p_sipush {d y pc cn : Nat} {ls : List (Nat × Value)} {rest : List Value} {I : Nat → Nat → Int32} {J : Nat → Nat → Int64} {K : Nat → Nat → Option Nat} {h : List xSh} {Φ : xPost} {n : Int} {v : Int32} (hd0 : xdec y pc = some (cn, .sipush n, 3)) (hv : (Int16.ofInt n).toInt32 = v) (k0 : EvP d y (pc + 3) ls (.int v :: rest) (I, J, K, h) Φ) : EvP d y pc ls rest (I, J, K, h) Φ := by
  obtain ⟨r, t, g8, g9⟩ := k0
  exact ⟨r, t, e_sipush hd0 hv g8, g9⟩
theorem p_lconst {d y pc cn : Nat} {ls : List (Nat × Value)} {rest : List Value} {I : Nat → Nat → Int32} {J : Nat → Nat → Int64} {K : Nat → Nat → Option Nat} {h : List xSh} {Φ : xPost} {n : Fin 2} {v : Int64} (hd0 : xdec y pc = some (cn, .lconst n, 1)) (hv : Int64.ofNat (n : Nat) = v) (k0 : EvP d y (pc + 1) ls (.long v :: rest) (I, J, K, h) Φ) : EvP d y pc ls rest (I, J, K, h) Φ := by
  obtain ⟨r, t, g8, g9⟩ := k0
  exact ⟨r, t, e_lconst hd0 hv g8, g9⟩
theorem p_ldc {d y pc cn : Nat} {ls : List (Nat × Value)} {rest : List Value} {I : Nat → Nat → Int32} {J : Nat → Nat → Int64} {K : Nat → Nat → Option Nat} {h : List xSh} {Φ : xPost} {i : Nat} {v : Int32} (hd0 : xdec y pc = some (cn, .ldc i, 2)) (hk : (cn, i, v) ∈ xKt) (k0 : EvP d y (pc + 2) ls (.int v :: rest) (I, J, K, h) Φ) : EvP d y pc ls rest (I, J, K, h) Φ := by
  obtain ⟨r, t, g8, g9⟩ := k0
  exact ⟨r, t, e_ldc hd0 hk g8, g9⟩
theorem p_ldcw {d y pc cn : Nat} {ls : List (Nat × Value)} {rest : List Value} {I : Nat → Nat → Int32} {J : Nat → Nat → Int64} {K : Nat → Nat → Option Nat} {h : List xSh} {Φ : xPost} {i : Nat} {v : Int32} (hd0 : xdec y pc = some (cn, .ldc_w i, 3)) (hk : (cn, i, v) ∈ xKt) (k0 : EvP d y (pc + 3) ls (.int v :: rest) (I, J, K, h) Φ) : EvP d y pc ls rest (I, J, K, h) Φ := by
  obtain ⟨r, t, g8, g9⟩ := k0
  exact ⟨r, t, e_ldcw hd0 hk g8, g9⟩
theorem p_ldcs {d y pc cn : Nat} {ls : List (Nat × Value)} {rest : List Value} {I : Nat → Nat → Int32} {J : Nat → Nat → Int64} {K : Nat → Nat → Option Nat} {h : List xSh} {Φ : xPost} {i k : Nat} (hd0 : xdec y pc = some (cn, .ldc i, 2)) (hk : (cn, i, k) ∈ xSt) (k0 : EvP d y (pc + 2) ls (.ref (1000001 + k) :: rest) (I, J, K, h) Φ) : EvP d y pc ls rest (I, J, K, h) Φ := by
  obtain ⟨r, t, g8, g9⟩ := k0
  exact ⟨r, t, e_ldcs hd0 hk g8, g9⟩
theorem p_ldc2 {d y pc cn : Nat} {ls : List (Nat × Value)} {rest : List Value} {I : Nat → Nat → Int32} {J : Nat → Nat → Int64} {K : Nat → Nat → Option Nat} {h : List xSh} {Φ : xPost} {i : Nat} {v : Int64} (hd0 : xdec y pc = some (cn, .ldc2_w i, 3)) (hk : (cn, i, v) ∈ xLt) (k0 : EvP d y (pc + 3) ls (.long v :: rest) (I, J, K, h) Φ) : EvP d y pc ls rest (I, J, K, h) Φ := by
  obtain ⟨r, t, g8, g9⟩ := k0
  exact ⟨r, t, e_ldc2 hd0 hk g8, g9⟩
theorem p_iload {d y pc cn : Nat} {ls : List (Nat × Value)} {rest : List Value} {I : Nat → Nat → Int32} {J : Nat → Nat → Int64} {K : Nat → Nat → Option Nat} {h : List xSh} {Φ : xPost} {i : Nat} {x : Int32} (hd0 : xdec y pc = some (cn, .iload i, 2)) (hl9 : xlg ls i = some (.int x)) (k0 : EvP d y (pc + 2) ls (.int x :: rest) (I, J, K, h) Φ) : EvP d y pc ls rest (I, J, K, h) Φ := by
  obtain ⟨r, t, g8, g9⟩ := k0
  exact ⟨r, t, e_iload hd0 hl9 g8, g9⟩
theorem p_iload_n {d y pc cn : Nat} {ls : List (Nat × Value)} {rest : List Value} {I : Nat → Nat → Int32} {J : Nat → Nat → Int64} {K : Nat → Nat → Option Nat} {h : List xSh} {Φ : xPost} {k : Fin 4} {x : Int32} (hd0 : xdec y pc = some (cn, .iload_n k, 1)) (hl9 : xlg ls (k : Nat) = some (.int x)) (k0 : EvP d y (pc + 1) ls (.int x :: rest) (I, J, K, h) Φ) : EvP d y pc ls rest (I, J, K, h) Φ := by
  obtain ⟨r, t, g8, g9⟩ := k0
  exact ⟨r, t, e_iload_n hd0 hl9 g8, g9⟩
theorem p_istore {d y pc cn : Nat} {ls : List (Nat × Value)} {rest : List Value} {I : Nat → Nat → Int32} {J : Nat → Nat → Int64} {K : Nat → Nat → Option Nat} {h : List xSh} {Φ : xPost} {i : Nat} {x : Int32} {ls' : List (Nat × Value)} (hd0 : xdec y pc = some (cn, .istore i, 2)) (hl9 : xls ls i (.int x) = ls') (k0 : EvP d y (pc + 2) ls' rest (I, J, K, h) Φ) : EvP d y pc ls (.int x :: rest) (I, J, K, h) Φ := by
  obtain ⟨r, t, g8, g9⟩ := k0
  exact ⟨r, t, e_istore hd0 hl9 g8, g9⟩
theorem p_istore_n {d y pc cn : Nat} {ls : List (Nat × Value)} {rest : List Value} {I : Nat → Nat → Int32} {J : Nat → Nat → Int64} {K : Nat → Nat → Option Nat} {h : List xSh} {Φ : xPost} {k : Fin 4} {x : Int32} {ls' : List (Nat × Value)} (hd0 : xdec y pc = some (cn, .istore_n k, 1)) (hl9 : xls ls (k : Nat) (.int x) = ls') (k0 : EvP d y (pc + 1) ls' rest (I, J, K, h) Φ) : EvP d y pc ls (.int x :: rest) (I, J, K, h) Φ := by
  obtain ⟨r, t, g8, g9⟩ := k0
  exact ⟨r, t, e_istore_n hd0 hl9 g8, g9⟩
theorem p_lload {d y pc cn : Nat} {ls : List (Nat × Value)} {rest : List Value} {I : Nat → Nat → Int32} {J : Nat → Nat → Int64} {K : Nat → Nat → Option Nat} {h : List xSh} {Φ : xPost} {i : Nat} {x : Int64} (hd0 : xdec y pc = some (cn, .lload i, 2)) (hl9 : xlg ls i = some (.long x)) (k0 : EvP d y (pc + 2) ls (.long x :: rest) (I, J, K, h) Φ) : EvP d y pc ls rest (I, J, K, h) Φ := by
  obtain ⟨r, t, g8, g9⟩ := k0
  exact ⟨r, t, e_lload hd0 hl9 g8, g9⟩
theorem p_lload_n {d y pc cn : Nat} {ls : List (Nat × Value)} {rest : List Value} {I : Nat → Nat → Int32} {J : Nat → Nat → Int64} {K : Nat → Nat → Option Nat} {h : List xSh} {Φ : xPost} {k : Fin 4} {x : Int64} (hd0 : xdec y pc = some (cn, .lload_n k, 1)) (hl9 : xlg ls (k : Nat) = some (.long x)) (k0 : EvP d y (pc + 1) ls (.long x :: rest) (I, J, K, h) Φ) : EvP d y pc ls rest (I, J, K, h) Φ := by
  obtain ⟨r, t, g8, g9⟩ := k0
  exact ⟨r, t, e_lload_n hd0 hl9 g8, g9⟩
theorem p_lstore {d y pc cn : Nat} {ls : List (Nat × Value)} {rest : List Value} {I : Nat → Nat → Int32} {J : Nat → Nat → Int64} {K : Nat → Nat → Option Nat} {h : List xSh} {Φ : xPost} {i : Nat} {x : Int64} {ls' : List (Nat × Value)} (hd0 : xdec y pc = some (cn, .lstore i, 2)) (hl9 : xlsl ls i (.long x) = ls') (k0 : EvP d y (pc + 2) ls' rest (I, J, K, h) Φ) : EvP d y pc ls (.long x :: rest) (I, J, K, h) Φ := by
  obtain ⟨r, t, g8, g9⟩ := k0
  exact ⟨r, t, e_lstore hd0 hl9 g8, g9⟩
theorem p_lstore_n {d y pc cn : Nat} {ls : List (Nat × Value)} {rest : List Value} {I : Nat → Nat → Int32} {J : Nat → Nat → Int64} {K : Nat → Nat → Option Nat} {h : List xSh} {Φ : xPost} {k : Fin 4} {x : Int64} {ls' : List (Nat × Value)} (hd0 : xdec y pc = some (cn, .lstore_n k, 1)) (hl9 : xlsl ls (k : Nat) (.long x) = ls') (k0 : EvP d y (pc + 1) ls' rest (I, J, K, h) Φ) : EvP d y pc ls (.long x :: rest) (I, J, K, h) Φ := by
  obtain ⟨r, t, g8, g9⟩ := k0
  exact ⟨r, t, e_lstore_n hd0 hl9 g8, g9⟩
theorem p_aload {d y pc cn : Nat} {ls : List (Nat × Value)} {rest : List Value} {I : Nat → Nat → Int32} {J : Nat → Nat → Int64} {K : Nat → Nat → Option Nat} {h : List xSh} {Φ : xPost} {i : Nat} {x : Nat} (hd0 : xdec y pc = some (cn, .aload i, 2)) (hl9 : xlg ls i = some (.ref x)) (k0 : EvP d y (pc + 2) ls (.ref x :: rest) (I, J, K, h) Φ) : EvP d y pc ls rest (I, J, K, h) Φ := by
  obtain ⟨r, t, g8, g9⟩ := k0
  exact ⟨r, t, e_aload hd0 hl9 g8, g9⟩
theorem p_aload_n {d y pc cn : Nat} {ls : List (Nat × Value)} {rest : List Value} {I : Nat → Nat → Int32} {J : Nat → Nat → Int64} {K : Nat → Nat → Option Nat} {h : List xSh} {Φ : xPost} {k : Fin 4} {x : Nat} (hd0 : xdec y pc = some (cn, .aload_n k, 1)) (hl9 : xlg ls (k : Nat) = some (.ref x)) (k0 : EvP d y (pc + 1) ls (.ref x :: rest) (I, J, K, h) Φ) : EvP d y pc ls rest (I, J, K, h) Φ := by
  obtain ⟨r, t, g8, g9⟩ := k0
  exact ⟨r, t, e_aload_n hd0 hl9 g8, g9⟩
theorem p_astore {d y pc cn : Nat} {ls : List (Nat × Value)} {rest : List Value} {I : Nat → Nat → Int32} {J : Nat → Nat → Int64} {K : Nat → Nat → Option Nat} {h : List xSh} {Φ : xPost} {i : Nat} {x : Nat} {ls' : List (Nat × Value)} (hd0 : xdec y pc = some (cn, .astore i, 2)) (hl9 : xls ls i (.ref x) = ls') (k0 : EvP d y (pc + 2) ls' rest (I, J, K, h) Φ) : EvP d y pc ls (.ref x :: rest) (I, J, K, h) Φ := by
  obtain ⟨r, t, g8, g9⟩ := k0
  exact ⟨r, t, e_astore hd0 hl9 g8, g9⟩
theorem p_astore_n {d y pc cn : Nat} {ls : List (Nat × Value)} {rest : List Value} {I : Nat → Nat → Int32} {J : Nat → Nat → Int64} {K : Nat → Nat → Option Nat} {h : List xSh} {Φ : xPost} {k : Fin 4} {x : Nat} {ls' : List (Nat × Value)} (hd0 : xdec y pc = some (cn, .astore_n k, 1)) (hl9 : xls ls (k : Nat) (.ref x) = ls') (k0 : EvP d y (pc + 1) ls' rest (I, J, K, h) Φ) : EvP d y pc ls (.ref x :: rest) (I, J, K, h) Φ := by
  obtain ⟨r, t, g8, g9⟩ := k0
  exact ⟨r, t, e_astore_n hd0 hl9 g8, g9⟩
theorem p_iinc {d y pc cn : Nat} {ls : List (Nat × Value)} {rest : List Value} {I : Nat → Nat → Int32} {J : Nat → Nat → Int64} {K : Nat → Nat → Option Nat} {h : List xSh} {Φ : xPost} {i : Nat} {n : Int} {x v : Int32} {ls' : List (Nat × Value)} (hd0 : xdec y pc = some (cn, .iinc i n, 3)) (hg : xlg ls i = some (.int x)) (hv : x + Int32.ofInt n = v) (hl9 : xls ls i (.int v) = ls') (k0 : EvP d y (pc + 3) ls' rest (I, J, K, h) Φ) : EvP d y pc ls rest (I, J, K, h) Φ := by
  obtain ⟨r, t, g8, g9⟩ := k0
  exact ⟨r, t, e_iinc hd0 hg hv hl9 g8, g9⟩
theorem p_iadd {d y pc cn : Nat} {ls : List (Nat × Value)} {rest : List Value} {I : Nat → Nat → Int32} {J : Nat → Nat → Int64} {K : Nat → Nat → Option Nat} {h : List xSh} {Φ : xPost} {x y1 : Int32} (hd0 : xdec y pc = some (cn, .iadd, 1)) (k0 : EvP d y (pc + 1) ls (.int (x + y1) :: rest) (I, J, K, h) Φ) : EvP d y pc ls (.int y1 :: .int x :: rest) (I, J, K, h) Φ := by
  obtain ⟨r, t, g8, g9⟩ := k0
  exact ⟨r, t, e_iadd hd0 g8, g9⟩
theorem p_isub {d y pc cn : Nat} {ls : List (Nat × Value)} {rest : List Value} {I : Nat → Nat → Int32} {J : Nat → Nat → Int64} {K : Nat → Nat → Option Nat} {h : List xSh} {Φ : xPost} {x y1 : Int32} (hd0 : xdec y pc = some (cn, .isub, 1)) (k0 : EvP d y (pc + 1) ls (.int (x - y1) :: rest) (I, J, K, h) Φ) : EvP d y pc ls (.int y1 :: .int x :: rest) (I, J, K, h) Φ := by
  obtain ⟨r, t, g8, g9⟩ := k0
  exact ⟨r, t, e_isub hd0 g8, g9⟩
theorem p_imul {d y pc cn : Nat} {ls : List (Nat × Value)} {rest : List Value} {I : Nat → Nat → Int32} {J : Nat → Nat → Int64} {K : Nat → Nat → Option Nat} {h : List xSh} {Φ : xPost} {x y1 : Int32} (hd0 : xdec y pc = some (cn, .imul, 1)) (k0 : EvP d y (pc + 1) ls (.int (x * y1) :: rest) (I, J, K, h) Φ) : EvP d y pc ls (.int y1 :: .int x :: rest) (I, J, K, h) Φ := by
  obtain ⟨r, t, g8, g9⟩ := k0
  exact ⟨r, t, e_imul hd0 g8, g9⟩
theorem p_iand {d y pc cn : Nat} {ls : List (Nat × Value)} {rest : List Value} {I : Nat → Nat → Int32} {J : Nat → Nat → Int64} {K : Nat → Nat → Option Nat} {h : List xSh} {Φ : xPost} {x y1 : Int32} (hd0 : xdec y pc = some (cn, .iand, 1)) (k0 : EvP d y (pc + 1) ls (.int (x &&& y1) :: rest) (I, J, K, h) Φ) : EvP d y pc ls (.int y1 :: .int x :: rest) (I, J, K, h) Φ := by
  obtain ⟨r, t, g8, g9⟩ := k0
  exact ⟨r, t, e_iand hd0 g8, g9⟩
theorem p_ior {d y pc cn : Nat} {ls : List (Nat × Value)} {rest : List Value} {I : Nat → Nat → Int32} {J : Nat → Nat → Int64} {K : Nat → Nat → Option Nat} {h : List xSh} {Φ : xPost} {x y1 : Int32} (hd0 : xdec y pc = some (cn, .ior, 1)) (k0 : EvP d y (pc + 1) ls (.int (x ||| y1) :: rest) (I, J, K, h) Φ) : EvP d y pc ls (.int y1 :: .int x :: rest) (I, J, K, h) Φ := by
  obtain ⟨r, t, g8, g9⟩ := k0
  exact ⟨r, t, e_ior hd0 g8, g9⟩
theorem p_ixor {d y pc cn : Nat} {ls : List (Nat × Value)} {rest : List Value} {I : Nat → Nat → Int32} {J : Nat → Nat → Int64} {K : Nat → Nat → Option Nat} {h : List xSh} {Φ : xPost} {x y1 : Int32} (hd0 : xdec y pc = some (cn, .ixor, 1)) (k0 : EvP d y (pc + 1) ls (.int (x ^^^ y1) :: rest) (I, J, K, h) Φ) : EvP d y pc ls (.int y1 :: .int x :: rest) (I, J, K, h) Φ := by
  obtain ⟨r, t, g8, g9⟩ := k0
  exact ⟨r, t, e_ixor hd0 g8, g9⟩
theorem p_ishl {d y pc cn : Nat} {ls : List (Nat × Value)} {rest : List Value} {I : Nat → Nat → Int32} {J : Nat → Nat → Int64} {K : Nat → Nat → Option Nat} {h : List xSh} {Φ : xPost} {x y1 : Int32} (hd0 : xdec y pc = some (cn, .ishl, 1)) (k0 : EvP d y (pc + 1) ls (.int (x <<< (y1 &&& 31)) :: rest) (I, J, K, h) Φ) : EvP d y pc ls (.int y1 :: .int x :: rest) (I, J, K, h) Φ := by
  obtain ⟨r, t, g8, g9⟩ := k0
  exact ⟨r, t, e_ishl hd0 g8, g9⟩
theorem p_ishr {d y pc cn : Nat} {ls : List (Nat × Value)} {rest : List Value} {I : Nat → Nat → Int32} {J : Nat → Nat → Int64} {K : Nat → Nat → Option Nat} {h : List xSh} {Φ : xPost} {x y1 : Int32} (hd0 : xdec y pc = some (cn, .ishr, 1)) (k0 : EvP d y (pc + 1) ls (.int (x >>> (y1 &&& 31)) :: rest) (I, J, K, h) Φ) : EvP d y pc ls (.int y1 :: .int x :: rest) (I, J, K, h) Φ := by
  obtain ⟨r, t, g8, g9⟩ := k0
  exact ⟨r, t, e_ishr hd0 g8, g9⟩
theorem p_iushr {d y pc cn : Nat} {ls : List (Nat × Value)} {rest : List Value} {I : Nat → Nat → Int32} {J : Nat → Nat → Int64} {K : Nat → Nat → Option Nat} {h : List xSh} {Φ : xPost} {x y1 : Int32} (hd0 : xdec y pc = some (cn, .iushr, 1)) (k0 : EvP d y (pc + 1) ls (.int ((x.toUInt32 >>> (y1.toUInt32 &&& Int32.toUInt32 31)).toInt32) :: rest) (I, J, K, h) Φ) : EvP d y pc ls (.int y1 :: .int x :: rest) (I, J, K, h) Φ := by
  obtain ⟨r, t, g8, g9⟩ := k0
  exact ⟨r, t, e_iushr hd0 g8, g9⟩
theorem p_idiv {d y pc cn : Nat} {ls : List (Nat × Value)} {rest : List Value} {I : Nat → Nat → Int32} {J : Nat → Nat → Int64} {K : Nat → Nat → Option Nat} {h : List xSh} {Φ : xPost} {x y1 : Int32} (hd0 : xdec y pc = some (cn, .idiv, 1)) (hne : ¬ y1 = 0) (k0 : EvP d y (pc + 1) ls (.int (x / y1) :: rest) (I, J, K, h) Φ) : EvP d y pc ls (.int y1 :: .int x :: rest) (I, J, K, h) Φ := by
  obtain ⟨r, t, g8, g9⟩ := k0
  exact ⟨r, t, e_idiv hd0 hne g8, g9⟩
theorem p_irem {d y pc cn : Nat} {ls : List (Nat × Value)} {rest : List Value} {I : Nat → Nat → Int32} {J : Nat → Nat → Int64} {K : Nat → Nat → Option Nat} {h : List xSh} {Φ : xPost} {x y1 : Int32} (hd0 : xdec y pc = some (cn, .irem, 1)) (hne : ¬ y1 = 0) (k0 : EvP d y (pc + 1) ls (.int (x - x / y1 * y1) :: rest) (I, J, K, h) Φ) : EvP d y pc ls (.int y1 :: .int x :: rest) (I, J, K, h) Φ := by
  obtain ⟨r, t, g8, g9⟩ := k0
  exact ⟨r, t, e_irem hd0 hne g8, g9⟩
theorem p_ineg {d y pc cn : Nat} {ls : List (Nat × Value)} {rest : List Value} {I : Nat → Nat → Int32} {J : Nat → Nat → Int64} {K : Nat → Nat → Option Nat} {h : List xSh} {Φ : xPost} {x : Int32} (hd0 : xdec y pc = some (cn, .ineg, 1)) (k0 : EvP d y (pc + 1) ls (.int (-x) :: rest) (I, J, K, h) Φ) : EvP d y pc ls (.int x :: rest) (I, J, K, h) Φ := by
  obtain ⟨r, t, g8, g9⟩ := k0
  exact ⟨r, t, e_ineg hd0 g8, g9⟩
theorem p_i2l {d y pc cn : Nat} {ls : List (Nat × Value)} {rest : List Value} {I : Nat → Nat → Int32} {J : Nat → Nat → Int64} {K : Nat → Nat → Option Nat} {h : List xSh} {Φ : xPost} {x : Int32} (hd0 : xdec y pc = some (cn, .i2l, 1)) (k0 : EvP d y (pc + 1) ls (.long x.toInt64 :: rest) (I, J, K, h) Φ) : EvP d y pc ls (.int x :: rest) (I, J, K, h) Φ := by
  obtain ⟨r, t, g8, g9⟩ := k0
  exact ⟨r, t, e_i2l hd0 g8, g9⟩
theorem p_l2i {d y pc cn : Nat} {ls : List (Nat × Value)} {rest : List Value} {I : Nat → Nat → Int32} {J : Nat → Nat → Int64} {K : Nat → Nat → Option Nat} {h : List xSh} {Φ : xPost} {x : Int64} (hd0 : xdec y pc = some (cn, .l2i, 1)) (k0 : EvP d y (pc + 1) ls (.int x.toInt32 :: rest) (I, J, K, h) Φ) : EvP d y pc ls (.long x :: rest) (I, J, K, h) Φ := by
  obtain ⟨r, t, g8, g9⟩ := k0
  exact ⟨r, t, e_l2i hd0 g8, g9⟩
theorem p_i2b {d y pc cn : Nat} {ls : List (Nat × Value)} {rest : List Value} {I : Nat → Nat → Int32} {J : Nat → Nat → Int64} {K : Nat → Nat → Option Nat} {h : List xSh} {Φ : xPost} {x : Int32} (hd0 : xdec y pc = some (cn, .i2b, 1)) (k0 : EvP d y (pc + 1) ls (.int x.toInt8.toInt32 :: rest) (I, J, K, h) Φ) : EvP d y pc ls (.int x :: rest) (I, J, K, h) Φ := by
  obtain ⟨r, t, g8, g9⟩ := k0
  exact ⟨r, t, e_i2b hd0 g8, g9⟩
theorem p_i2s {d y pc cn : Nat} {ls : List (Nat × Value)} {rest : List Value} {I : Nat → Nat → Int32} {J : Nat → Nat → Int64} {K : Nat → Nat → Option Nat} {h : List xSh} {Φ : xPost} {x : Int32} (hd0 : xdec y pc = some (cn, .i2s, 1)) (k0 : EvP d y (pc + 1) ls (.int x.toInt16.toInt32 :: rest) (I, J, K, h) Φ) : EvP d y pc ls (.int x :: rest) (I, J, K, h) Φ := by
  obtain ⟨r, t, g8, g9⟩ := k0
  exact ⟨r, t, e_i2s hd0 g8, g9⟩
theorem p_lshl {d y pc cn : Nat} {ls : List (Nat × Value)} {rest : List Value} {I : Nat → Nat → Int32} {J : Nat → Nat → Int64} {K : Nat → Nat → Option Nat} {h : List xSh} {Φ : xPost} {x : Int64} {y1 : Int32} (hd0 : xdec y pc = some (cn, .lshl, 1)) (k0 : EvP d y (pc + 1) ls (.long (x <<< (y1.toInt64 &&& 63)) :: rest) (I, J, K, h) Φ) : EvP d y pc ls (.int y1 :: .long x :: rest) (I, J, K, h) Φ := by
  obtain ⟨r, t, g8, g9⟩ := k0
  exact ⟨r, t, e_lshl hd0 g8, g9⟩
theorem p_land {d y pc cn : Nat} {ls : List (Nat × Value)} {rest : List Value} {I : Nat → Nat → Int32} {J : Nat → Nat → Int64} {K : Nat → Nat → Option Nat} {h : List xSh} {Φ : xPost} {x y1 : Int64} (hd0 : xdec y pc = some (cn, .land, 1)) (k0 : EvP d y (pc + 1) ls (.long (x &&& y1) :: rest) (I, J, K, h) Φ) : EvP d y pc ls (.long y1 :: .long x :: rest) (I, J, K, h) Φ := by
  obtain ⟨r, t, g8, g9⟩ := k0
  exact ⟨r, t, e_land hd0 g8, g9⟩
theorem p_lor {d y pc cn : Nat} {ls : List (Nat × Value)} {rest : List Value} {I : Nat → Nat → Int32} {J : Nat → Nat → Int64} {K : Nat → Nat → Option Nat} {h : List xSh} {Φ : xPost} {x y1 : Int64} (hd0 : xdec y pc = some (cn, .lor, 1)) (k0 : EvP d y (pc + 1) ls (.long (x ||| y1) :: rest) (I, J, K, h) Φ) : EvP d y pc ls (.long y1 :: .long x :: rest) (I, J, K, h) Φ := by
  obtain ⟨r, t, g8, g9⟩ := k0
  exact ⟨r, t, e_lor hd0 g8, g9⟩
theorem p_lcmp {d y pc cn : Nat} {ls : List (Nat × Value)} {rest : List Value} {I : Nat → Nat → Int32} {J : Nat → Nat → Int64} {K : Nat → Nat → Option Nat} {h : List xSh} {Φ : xPost} {x y1 : Int64} (hd0 : xdec y pc = some (cn, .lcmp, 1)) (k0 : EvP d y (pc + 1) ls (.int (lg_cmp x y1) :: rest) (I, J, K, h) Φ) : EvP d y pc ls (.long y1 :: .long x :: rest) (I, J, K, h) Φ := by
  obtain ⟨r, t, g8, g9⟩ := k0
  exact ⟨r, t, e_lcmp hd0 g8, g9⟩
theorem p_dup {d y pc cn : Nat} {ls : List (Nat × Value)} {rest : List Value} {I : Nat → Nat → Int32} {J : Nat → Nat → Int64} {K : Nat → Nat → Option Nat} {h : List xSh} {Φ : xPost} {v : Value} (hd0 : xdec y pc = some (cn, .dup, 1)) (hv : v.category = 1) (k0 : EvP d y (pc + 1) ls (v :: v :: rest) (I, J, K, h) Φ) : EvP d y pc ls (v :: rest) (I, J, K, h) Φ := by
  obtain ⟨r, t, g8, g9⟩ := k0
  exact ⟨r, t, e_dup hd0 hv g8, g9⟩
theorem p_pop {d y pc cn : Nat} {ls : List (Nat × Value)} {rest : List Value} {I : Nat → Nat → Int32} {J : Nat → Nat → Int64} {K : Nat → Nat → Option Nat} {h : List xSh} {Φ : xPost} {v : Value} (hd0 : xdec y pc = some (cn, .pop, 1)) (hv : v.category = 1) (k0 : EvP d y (pc + 1) ls rest (I, J, K, h) Φ) : EvP d y pc ls (v :: rest) (I, J, K, h) Φ := by
  obtain ⟨r, t, g8, g9⟩ := k0
  exact ⟨r, t, e_pop hd0 hv g8, g9⟩
theorem p_dup_x1 {d y pc cn : Nat} {ls : List (Nat × Value)} {rest : List Value} {I : Nat → Nat → Int32} {J : Nat → Nat → Int64} {K : Nat → Nat → Option Nat} {h : List xSh} {Φ : xPost} {v w : Value} (hd0 : xdec y pc = some (cn, .dup_x1, 1)) (hv : v.category = 1) (hw : w.category = 1) (k0 : EvP d y (pc + 1) ls (v :: w :: v :: rest) (I, J, K, h) Φ) : EvP d y pc ls (v :: w :: rest) (I, J, K, h) Φ := by
  obtain ⟨r, t, g8, g9⟩ := k0
  exact ⟨r, t, e_dup_x1 hd0 hv hw g8, g9⟩
theorem p_if_eq {d y pc cn : Nat} {ls : List (Nat × Value)} {rest : List Value} {I : Nat → Nat → Int32} {J : Nat → Nat → Int64} {K : Nat → Nat → Option Nat} {h : List xSh} {Φ : xPost} {x : Int32} {off : Int} {tgt : Nat} (hd0 : xdec y pc = some (cn, .ifCond .eq off, 3)) (ht : (pc : Int) + off = (tgt : Int)) (k0 : (x = 0 → EvP d y tgt ls rest (I, J, K, h) Φ)) (k1 : (¬ x = 0 → EvP d y (pc + 3) ls rest (I, J, K, h) Φ)) : EvP d y pc ls (.int x :: rest) (I, J, K, h) Φ := by
  by_cases z : x = 0
  · obtain ⟨r, t, g8, g9⟩ := k0 z
    exact ⟨r, t, e_if_eq hd0 ht (fun _ => g8) (fun w => absurd z w), g9⟩
  · obtain ⟨r, t, g8, g9⟩ := k1 z
    exact ⟨r, t, e_if_eq hd0 ht (fun w => absurd w z) (fun _ => g8), g9⟩
theorem p_if_ne {d y pc cn : Nat} {ls : List (Nat × Value)} {rest : List Value} {I : Nat → Nat → Int32} {J : Nat → Nat → Int64} {K : Nat → Nat → Option Nat} {h : List xSh} {Φ : xPost} {x : Int32} {off : Int} {tgt : Nat} (hd0 : xdec y pc = some (cn, .ifCond .ne off, 3)) (ht : (pc : Int) + off = (tgt : Int)) (k0 : (¬ x = 0 → EvP d y tgt ls rest (I, J, K, h) Φ)) (k1 : (x = 0 → EvP d y (pc + 3) ls rest (I, J, K, h) Φ)) : EvP d y pc ls (.int x :: rest) (I, J, K, h) Φ := by
  by_cases z : x = 0
  · obtain ⟨r, t, g8, g9⟩ := k1 z
    exact ⟨r, t, e_if_ne hd0 ht (fun w => absurd z w) (fun _ => g8), g9⟩
  · obtain ⟨r, t, g8, g9⟩ := k0 z
    exact ⟨r, t, e_if_ne hd0 ht (fun _ => g8) (fun w => absurd w z), g9⟩
theorem p_if_lt {d y pc cn : Nat} {ls : List (Nat × Value)} {rest : List Value} {I : Nat → Nat → Int32} {J : Nat → Nat → Int64} {K : Nat → Nat → Option Nat} {h : List xSh} {Φ : xPost} {x : Int32} {off : Int} {tgt : Nat} (hd0 : xdec y pc = some (cn, .ifCond .lt off, 3)) (ht : (pc : Int) + off = (tgt : Int)) (k0 : (x < 0 → EvP d y tgt ls rest (I, J, K, h) Φ)) (k1 : (¬ x < 0 → EvP d y (pc + 3) ls rest (I, J, K, h) Φ)) : EvP d y pc ls (.int x :: rest) (I, J, K, h) Φ := by
  by_cases z : x < 0
  · obtain ⟨r, t, g8, g9⟩ := k0 z
    exact ⟨r, t, e_if_lt hd0 ht (fun _ => g8) (fun w => absurd z w), g9⟩
  · obtain ⟨r, t, g8, g9⟩ := k1 z
    exact ⟨r, t, e_if_lt hd0 ht (fun w => absurd w z) (fun _ => g8), g9⟩
theorem p_if_ge {d y pc cn : Nat} {ls : List (Nat × Value)} {rest : List Value} {I : Nat → Nat → Int32} {J : Nat → Nat → Int64} {K : Nat → Nat → Option Nat} {h : List xSh} {Φ : xPost} {x : Int32} {off : Int} {tgt : Nat} (hd0 : xdec y pc = some (cn, .ifCond .ge off, 3)) (ht : (pc : Int) + off = (tgt : Int)) (k0 : (0 ≤ x → EvP d y tgt ls rest (I, J, K, h) Φ)) (k1 : (¬ 0 ≤ x → EvP d y (pc + 3) ls rest (I, J, K, h) Φ)) : EvP d y pc ls (.int x :: rest) (I, J, K, h) Φ := by
  by_cases z : 0 ≤ x
  · obtain ⟨r, t, g8, g9⟩ := k0 z
    exact ⟨r, t, e_if_ge hd0 ht (fun _ => g8) (fun w => absurd z w), g9⟩
  · obtain ⟨r, t, g8, g9⟩ := k1 z
    exact ⟨r, t, e_if_ge hd0 ht (fun w => absurd w z) (fun _ => g8), g9⟩
theorem p_if_gt {d y pc cn : Nat} {ls : List (Nat × Value)} {rest : List Value} {I : Nat → Nat → Int32} {J : Nat → Nat → Int64} {K : Nat → Nat → Option Nat} {h : List xSh} {Φ : xPost} {x : Int32} {off : Int} {tgt : Nat} (hd0 : xdec y pc = some (cn, .ifCond .gt off, 3)) (ht : (pc : Int) + off = (tgt : Int)) (k0 : (0 < x → EvP d y tgt ls rest (I, J, K, h) Φ)) (k1 : (¬ 0 < x → EvP d y (pc + 3) ls rest (I, J, K, h) Φ)) : EvP d y pc ls (.int x :: rest) (I, J, K, h) Φ := by
  by_cases z : 0 < x
  · obtain ⟨r, t, g8, g9⟩ := k0 z
    exact ⟨r, t, e_if_gt hd0 ht (fun _ => g8) (fun w => absurd z w), g9⟩
  · obtain ⟨r, t, g8, g9⟩ := k1 z
    exact ⟨r, t, e_if_gt hd0 ht (fun w => absurd w z) (fun _ => g8), g9⟩
theorem p_if_le {d y pc cn : Nat} {ls : List (Nat × Value)} {rest : List Value} {I : Nat → Nat → Int32} {J : Nat → Nat → Int64} {K : Nat → Nat → Option Nat} {h : List xSh} {Φ : xPost} {x : Int32} {off : Int} {tgt : Nat} (hd0 : xdec y pc = some (cn, .ifCond .le off, 3)) (ht : (pc : Int) + off = (tgt : Int)) (k0 : (x ≤ 0 → EvP d y tgt ls rest (I, J, K, h) Φ)) (k1 : (¬ x ≤ 0 → EvP d y (pc + 3) ls rest (I, J, K, h) Φ)) : EvP d y pc ls (.int x :: rest) (I, J, K, h) Φ := by
  by_cases z : x ≤ 0
  · obtain ⟨r, t, g8, g9⟩ := k0 z
    exact ⟨r, t, e_if_le hd0 ht (fun _ => g8) (fun w => absurd z w), g9⟩
  · obtain ⟨r, t, g8, g9⟩ := k1 z
    exact ⟨r, t, e_if_le hd0 ht (fun w => absurd w z) (fun _ => g8), g9⟩
theorem p_icmp_eq {d y pc cn : Nat} {ls : List (Nat × Value)} {rest : List Value} {I : Nat → Nat → Int32} {J : Nat → Nat → Int64} {K : Nat → Nat → Option Nat} {h : List xSh} {Φ : xPost} {x y1 : Int32} {off : Int} {tgt : Nat} (hd0 : xdec y pc = some (cn, .if_icmp .eq off, 3)) (ht : (pc : Int) + off = (tgt : Int)) (k0 : (x = y1 → EvP d y tgt ls rest (I, J, K, h) Φ)) (k1 : (¬ x = y1 → EvP d y (pc + 3) ls rest (I, J, K, h) Φ)) : EvP d y pc ls (.int y1 :: .int x :: rest) (I, J, K, h) Φ := by
  by_cases z : x = y1
  · obtain ⟨r, t, g8, g9⟩ := k0 z
    exact ⟨r, t, e_icmp_eq hd0 ht (fun _ => g8) (fun w => absurd z w), g9⟩
  · obtain ⟨r, t, g8, g9⟩ := k1 z
    exact ⟨r, t, e_icmp_eq hd0 ht (fun w => absurd w z) (fun _ => g8), g9⟩
theorem p_icmp_ne {d y pc cn : Nat} {ls : List (Nat × Value)} {rest : List Value} {I : Nat → Nat → Int32} {J : Nat → Nat → Int64} {K : Nat → Nat → Option Nat} {h : List xSh} {Φ : xPost} {x y1 : Int32} {off : Int} {tgt : Nat} (hd0 : xdec y pc = some (cn, .if_icmp .ne off, 3)) (ht : (pc : Int) + off = (tgt : Int)) (k0 : (¬ x = y1 → EvP d y tgt ls rest (I, J, K, h) Φ)) (k1 : (x = y1 → EvP d y (pc + 3) ls rest (I, J, K, h) Φ)) : EvP d y pc ls (.int y1 :: .int x :: rest) (I, J, K, h) Φ := by
  by_cases z : x = y1
  · obtain ⟨r, t, g8, g9⟩ := k1 z
    exact ⟨r, t, e_icmp_ne hd0 ht (fun w => absurd z w) (fun _ => g8), g9⟩
  · obtain ⟨r, t, g8, g9⟩ := k0 z
    exact ⟨r, t, e_icmp_ne hd0 ht (fun _ => g8) (fun w => absurd w z), g9⟩
theorem p_icmp_lt {d y pc cn : Nat} {ls : List (Nat × Value)} {rest : List Value} {I : Nat → Nat → Int32} {J : Nat → Nat → Int64} {K : Nat → Nat → Option Nat} {h : List xSh} {Φ : xPost} {x y1 : Int32} {off : Int} {tgt : Nat} (hd0 : xdec y pc = some (cn, .if_icmp .lt off, 3)) (ht : (pc : Int) + off = (tgt : Int)) (k0 : (x < y1 → EvP d y tgt ls rest (I, J, K, h) Φ)) (k1 : (¬ x < y1 → EvP d y (pc + 3) ls rest (I, J, K, h) Φ)) : EvP d y pc ls (.int y1 :: .int x :: rest) (I, J, K, h) Φ := by
  by_cases z : x < y1
  · obtain ⟨r, t, g8, g9⟩ := k0 z
    exact ⟨r, t, e_icmp_lt hd0 ht (fun _ => g8) (fun w => absurd z w), g9⟩
  · obtain ⟨r, t, g8, g9⟩ := k1 z
    exact ⟨r, t, e_icmp_lt hd0 ht (fun w => absurd w z) (fun _ => g8), g9⟩
theorem p_icmp_ge {d y pc cn : Nat} {ls : List (Nat × Value)} {rest : List Value} {I : Nat → Nat → Int32} {J : Nat → Nat → Int64} {K : Nat → Nat → Option Nat} {h : List xSh} {Φ : xPost} {x y1 : Int32} {off : Int} {tgt : Nat} (hd0 : xdec y pc = some (cn, .if_icmp .ge off, 3)) (ht : (pc : Int) + off = (tgt : Int)) (k0 : (y1 ≤ x → EvP d y tgt ls rest (I, J, K, h) Φ)) (k1 : (¬ y1 ≤ x → EvP d y (pc + 3) ls rest (I, J, K, h) Φ)) : EvP d y pc ls (.int y1 :: .int x :: rest) (I, J, K, h) Φ := by
  by_cases z : y1 ≤ x
  · obtain ⟨r, t, g8, g9⟩ := k0 z
    exact ⟨r, t, e_icmp_ge hd0 ht (fun _ => g8) (fun w => absurd z w), g9⟩
  · obtain ⟨r, t, g8, g9⟩ := k1 z
    exact ⟨r, t, e_icmp_ge hd0 ht (fun w => absurd w z) (fun _ => g8), g9⟩
theorem p_icmp_gt {d y pc cn : Nat} {ls : List (Nat × Value)} {rest : List Value} {I : Nat → Nat → Int32} {J : Nat → Nat → Int64} {K : Nat → Nat → Option Nat} {h : List xSh} {Φ : xPost} {x y1 : Int32} {off : Int} {tgt : Nat} (hd0 : xdec y pc = some (cn, .if_icmp .gt off, 3)) (ht : (pc : Int) + off = (tgt : Int)) (k0 : (y1 < x → EvP d y tgt ls rest (I, J, K, h) Φ)) (k1 : (¬ y1 < x → EvP d y (pc + 3) ls rest (I, J, K, h) Φ)) : EvP d y pc ls (.int y1 :: .int x :: rest) (I, J, K, h) Φ := by
  by_cases z : y1 < x
  · obtain ⟨r, t, g8, g9⟩ := k0 z
    exact ⟨r, t, e_icmp_gt hd0 ht (fun _ => g8) (fun w => absurd z w), g9⟩
  · obtain ⟨r, t, g8, g9⟩ := k1 z
    exact ⟨r, t, e_icmp_gt hd0 ht (fun w => absurd w z) (fun _ => g8), g9⟩
theorem p_icmp_le {d y pc cn : Nat} {ls : List (Nat × Value)} {rest : List Value} {I : Nat → Nat → Int32} {J : Nat → Nat → Int64} {K : Nat → Nat → Option Nat} {h : List xSh} {Φ : xPost} {x y1 : Int32} {off : Int} {tgt : Nat} (hd0 : xdec y pc = some (cn, .if_icmp .le off, 3)) (ht : (pc : Int) + off = (tgt : Int)) (k0 : (x ≤ y1 → EvP d y tgt ls rest (I, J, K, h) Φ)) (k1 : (¬ x ≤ y1 → EvP d y (pc + 3) ls rest (I, J, K, h) Φ)) : EvP d y pc ls (.int y1 :: .int x :: rest) (I, J, K, h) Φ := by
  by_cases z : x ≤ y1
  · obtain ⟨r, t, g8, g9⟩ := k0 z
    exact ⟨r, t, e_icmp_le hd0 ht (fun _ => g8) (fun w => absurd z w), g9⟩
  · obtain ⟨r, t, g8, g9⟩ := k1 z
    exact ⟨r, t, e_icmp_le hd0 ht (fun w => absurd w z) (fun _ => g8), g9⟩
theorem p_goto {d y pc cn : Nat} {ls : List (Nat × Value)} {rest : List Value} {I : Nat → Nat → Int32} {J : Nat → Nat → Int64} {K : Nat → Nat → Option Nat} {h : List xSh} {Φ : xPost} {off : Int} {tgt : Nat} (hd0 : xdec y pc = some (cn, .goto off, 3)) (ht : (pc : Int) + off = (tgt : Int)) (k0 : EvP d y tgt ls rest (I, J, K, h) Φ) : EvP d y pc ls rest (I, J, K, h) Φ := by
  obtain ⟨r, t, g8, g9⟩ := k0
  exact ⟨r, t, e_goto hd0 ht g8, g9⟩
theorem p_tableOut {d y pc cn : Nat} {ls : List (Nat × Value)} {rest : List Value} {I : Nat → Nat → Int32} {J : Nat → Nat → Int64} {K : Nat → Nat → Option Nat} {h : List xSh} {Φ : xPost} {dflt lo hi : Int} {offs : Array Int} {len : Nat} {x : Int32} {tgt : Nat} (hd0 : xdec y pc = some (cn, .tableswitch dflt lo hi offs, len)) (hx9 : x.toInt < lo ∨ hi < x.toInt) (ht : (pc : Int) + dflt = (tgt : Int)) (k0 : EvP d y tgt ls rest (I, J, K, h) Φ) : EvP d y pc ls (.int x :: rest) (I, J, K, h) Φ := by
  obtain ⟨r, t, g8, g9⟩ := k0
  exact ⟨r, t, e_tableOut hd0 hx9 ht g8, g9⟩
theorem p_tableIn {d y pc cn : Nat} {ls : List (Nat × Value)} {rest : List Value} {I : Nat → Nat → Int32} {J : Nat → Nat → Int64} {K : Nat → Nat → Option Nat} {h : List xSh} {Φ : xPost} {dflt lo hi : Int} {offs : Array Int} {len : Nat} {x : Int32} {off : Int} {tgt : Nat} (hd0 : xdec y pc = some (cn, .tableswitch dflt lo hi offs, len)) (h1 : ¬ x.toInt < lo) (h2 : ¬ hi < x.toInt) (ho : offs[(x.toInt - lo).toNat]? = some off) (ht : (pc : Int) + off = (tgt : Int)) (k0 : EvP d y tgt ls rest (I, J, K, h) Φ) : EvP d y pc ls (.int x :: rest) (I, J, K, h) Φ := by
  obtain ⟨r, t, g8, g9⟩ := k0
  exact ⟨r, t, e_tableIn hd0 h1 h2 ho ht g8, g9⟩
theorem p_lookup {d y pc cn : Nat} {ls : List (Nat × Value)} {rest : List Value} {I : Nat → Nat → Int32} {J : Nat → Nat → Int64} {K : Nat → Nat → Option Nat} {h : List xSh} {Φ : xPost} {dflt : Int} {ps : Array (Int × Int)} {len : Nat} {x : Int32} {off : Int} {tgt : Nat} (hd0 : xdec y pc = some (cn, .lookupswitch dflt ps, len)) (hp : (ps.toList.zip (ps.toList.drop 1)).all (fun (a, next) => a.1 < next.1) = true) (ho : Op.lookupswitch.offset ps.toList dflt x.toInt = off) (ht : (pc : Int) + off = (tgt : Int)) (k0 : EvP d y tgt ls rest (I, J, K, h) Φ) : EvP d y pc ls (.int x :: rest) (I, J, K, h) Φ := by
  obtain ⟨r, t, g8, g9⟩ := k0
  exact ⟨r, t, e_lookup hd0 hp ho ht g8, g9⟩
theorem p_getI {d y pc cn : Nat} {ls : List (Nat × Value)} {rest : List Value} {I : Nat → Nat → Int32} {J : Nat → Nat → Int64} {K : Nat → Nat → Option Nat} {h : List xSh} {Φ : xPost} {a idx ci k : Nat} (hd0 : xdec y pc = some (cn, .getfield idx, 3)) (hs : h[a]? = some (.inl ci)) (hf : xFh cn idx ci k) (hk : xkd (xty ci k) = 0) (k0 : EvP d y (pc + 3) ls (.int (I a k) :: rest) (I, J, K, h) Φ) : EvP d y pc ls (.ref a :: rest) (I, J, K, h) Φ := by
  obtain ⟨r, t, g8, g9⟩ := k0
  exact ⟨r, t, e_getI hd0 hs hf hk g8, g9⟩
theorem p_getR {d y pc cn : Nat} {ls : List (Nat × Value)} {rest : List Value} {I : Nat → Nat → Int32} {J : Nat → Nat → Int64} {K : Nat → Nat → Option Nat} {h : List xSh} {Φ : xPost} {a idx ci k : Nat} {j : Nat} (hd0 : xdec y pc = some (cn, .getfield idx, 3)) (hs : h[a]? = some (.inl ci)) (hf : xFh cn idx ci k) (hk : xkd (xty ci k) = 2) (hj : K a k = some j) (k0 : EvP d y (pc + 3) ls (.ref j :: rest) (I, J, K, h) Φ) : EvP d y pc ls (.ref a :: rest) (I, J, K, h) Φ := by
  obtain ⟨r, t, g8, g9⟩ := k0
  exact ⟨r, t, e_getR hd0 hs hf hk hj g8, g9⟩
theorem p_putI {d y pc cn : Nat} {ls : List (Nat × Value)} {rest : List Value} {I : Nat → Nat → Int32} {J : Nat → Nat → Int64} {K : Nat → Nat → Option Nat} {h : List xSh} {Φ : xPost} {a idx ci k : Nat} {x : Int32} (hd0 : xdec y pc = some (cn, .putfield idx, 3)) (hs : h[a]? = some (.inl ci)) (hf : xFh cn idx ci k) (hu : xfin y cn ci k = true) (hk : xty ci k = .int) (k0 : EvP d y (pc + 3) ls rest (upc I a (upc (I a) k x), J, K, h) Φ) : EvP d y pc ls (.int x :: .ref a :: rest) (I, J, K, h) Φ := by
  obtain ⟨r, t, g8, g9⟩ := k0
  exact ⟨r, t, e_putI hd0 hs hf hu hk g8, g9⟩
theorem p_putZ {d y pc cn : Nat} {ls : List (Nat × Value)} {rest : List Value} {I : Nat → Nat → Int32} {J : Nat → Nat → Int64} {K : Nat → Nat → Option Nat} {h : List xSh} {Φ : xPost} {a idx ci k : Nat} {x : Int32} (hd0 : xdec y pc = some (cn, .putfield idx, 3)) (hs : h[a]? = some (.inl ci)) (hf : xFh cn idx ci k) (hu : xfin y cn ci k = true) (hk : xty ci k = .boolean) (hx9 : x = 0 ∨ x = 1) (k0 : EvP d y (pc + 3) ls rest (upc I a (upc (I a) k x), J, K, h) Φ) : EvP d y pc ls (.int x :: .ref a :: rest) (I, J, K, h) Φ := by
  obtain ⟨r, t, g8, g9⟩ := k0
  exact ⟨r, t, e_putZ hd0 hs hf hu hk hx9 g8, g9⟩
theorem p_putR {d y pc cn : Nat} {ls : List (Nat × Value)} {rest : List Value} {I : Nat → Nat → Int32} {J : Nat → Nat → Int64} {K : Nat → Nat → Option Nat} {h : List xSh} {Φ : xPost} {a idx ci k : Nat} {j : Nat} (hd0 : xdec y pc = some (cn, .putfield idx, 3)) (hs : h[a]? = some (.inl ci)) (hf : xFh cn idx ci k) (hu : xfin y cn ci k = true) (hk : xkd (xty ci k) = 2) (k0 : EvP d y (pc + 3) ls rest (I, J, upc K a (upc (K a) k (some j)), h) Φ) : EvP d y pc ls (.ref j :: .ref a :: rest) (I, J, K, h) Φ := by
  obtain ⟨r, t, g8, g9⟩ := k0
  exact ⟨r, t, e_putR hd0 hs hf hu hk g8, g9⟩
theorem p_iald {d y pc cn : Nat} {ls : List (Nat × Value)} {rest : List Value} {I : Nat → Nat → Int32} {J : Nat → Nat → Int64} {K : Nat → Nat → Option Nat} {h : List xSh} {Φ : xPost} {a n : Nat} {i : Int32} (hd0 : xdec y pc = some (cn, .iaload, 1)) (hs : h[a]? = some (.inr (.int, n))) (hi : vp_in i n) (k0 : EvP d y (pc + 1) ls (.int (I a i.toNatClampNeg) :: rest) (I, J, K, h) Φ) : EvP d y pc ls (.int i :: .ref a :: rest) (I, J, K, h) Φ := by
  obtain ⟨r, t, g8, g9⟩ := k0
  exact ⟨r, t, e_iald hd0 hs hi g8, g9⟩
theorem p_bald {d y pc cn : Nat} {ls : List (Nat × Value)} {rest : List Value} {I : Nat → Nat → Int32} {J : Nat → Nat → Int64} {K : Nat → Nat → Option Nat} {h : List xSh} {Φ : xPost} {a n : Nat} {i : Int32} (hd0 : xdec y pc = some (cn, .baload, 1)) (hs : h[a]? = some (.inr (.byte, n))) (hi : vp_in i n) (k0 : EvP d y (pc + 1) ls (.int (I a i.toNatClampNeg) :: rest) (I, J, K, h) Φ) : EvP d y pc ls (.int i :: .ref a :: rest) (I, J, K, h) Φ := by
  obtain ⟨r, t, g8, g9⟩ := k0
  exact ⟨r, t, e_bald hd0 hs hi g8, g9⟩
theorem p_zald {d y pc cn : Nat} {ls : List (Nat × Value)} {rest : List Value} {I : Nat → Nat → Int32} {J : Nat → Nat → Int64} {K : Nat → Nat → Option Nat} {h : List xSh} {Φ : xPost} {a n : Nat} {i : Int32} (hd0 : xdec y pc = some (cn, .baload, 1)) (hs : h[a]? = some (.inr (.boolean, n))) (hi : vp_in i n) (k0 : EvP d y (pc + 1) ls (.int (I a i.toNatClampNeg) :: rest) (I, J, K, h) Φ) : EvP d y pc ls (.int i :: .ref a :: rest) (I, J, K, h) Φ := by
  obtain ⟨r, t, g8, g9⟩ := k0
  exact ⟨r, t, e_zald hd0 hs hi g8, g9⟩
theorem p_lald {d y pc cn : Nat} {ls : List (Nat × Value)} {rest : List Value} {I : Nat → Nat → Int32} {J : Nat → Nat → Int64} {K : Nat → Nat → Option Nat} {h : List xSh} {Φ : xPost} {a n : Nat} {i : Int32} (hd0 : xdec y pc = some (cn, .laload, 1)) (hs : h[a]? = some (.inr (.long, n))) (hi : vp_in i n) (k0 : EvP d y (pc + 1) ls (.long (J a i.toNatClampNeg) :: rest) (I, J, K, h) Φ) : EvP d y pc ls (.int i :: .ref a :: rest) (I, J, K, h) Φ := by
  obtain ⟨r, t, g8, g9⟩ := k0
  exact ⟨r, t, e_lald hd0 hs hi g8, g9⟩
theorem p_aald {d y pc cn : Nat} {ls : List (Nat × Value)} {rest : List Value} {I : Nat → Nat → Int32} {J : Nat → Nat → Int64} {K : Nat → Nat → Option Nat} {h : List xSh} {Φ : xPost} {a n : Nat} {i : Int32} {C : String} {j : Nat} (hd0 : xdec y pc = some (cn, .aaload, 1)) (hs : h[a]? = some (.inr (.object C, n))) (hi : vp_in i n) (hty : xaty (.object C)) (hj : K a i.toNatClampNeg = some j) (k0 : EvP d y (pc + 1) ls (.ref j :: rest) (I, J, K, h) Φ) : EvP d y pc ls (.int i :: .ref a :: rest) (I, J, K, h) Φ := by
  obtain ⟨r, t, g8, g9⟩ := k0
  exact ⟨r, t, e_aald hd0 hs hi hty hj g8, g9⟩
theorem p_aaldN {d y pc cn : Nat} {ls : List (Nat × Value)} {rest : List Value} {I : Nat → Nat → Int32} {J : Nat → Nat → Int64} {K : Nat → Nat → Option Nat} {h : List xSh} {Φ : xPost} {a n : Nat} {i : Int32} {C : String} (hd0 : xdec y pc = some (cn, .aaload, 1)) (hs : h[a]? = some (.inr (.object C, n))) (hi : vp_in i n) (hty : xaty (.object C)) (hj : K a i.toNatClampNeg = none) (k0 : EvP d y (pc + 1) ls (.null :: rest) (I, J, K, h) Φ) : EvP d y pc ls (.int i :: .ref a :: rest) (I, J, K, h) Φ := by
  obtain ⟨r, t, g8, g9⟩ := k0
  exact ⟨r, t, e_aaldN hd0 hs hi hty hj g8, g9⟩
theorem p_iast {d y pc cn : Nat} {ls : List (Nat × Value)} {rest : List Value} {I : Nat → Nat → Int32} {J : Nat → Nat → Int64} {K : Nat → Nat → Option Nat} {h : List xSh} {Φ : xPost} {a n : Nat} {i : Int32} {x : Int32} (hd0 : xdec y pc = some (cn, .iastore, 1)) (hs : h[a]? = some (.inr (.int, n))) (hi : vp_in i n) (k0 : EvP d y (pc + 1) ls rest (upc I a (upc (I a) i.toNatClampNeg x), J, K, h) Φ) : EvP d y pc ls (.int x :: .int i :: .ref a :: rest) (I, J, K, h) Φ := by
  obtain ⟨r, t, g8, g9⟩ := k0
  exact ⟨r, t, e_iast hd0 hs hi g8, g9⟩
theorem p_bast {d y pc cn : Nat} {ls : List (Nat × Value)} {rest : List Value} {I : Nat → Nat → Int32} {J : Nat → Nat → Int64} {K : Nat → Nat → Option Nat} {h : List xSh} {Φ : xPost} {a n : Nat} {i : Int32} {x : Int32} (hd0 : xdec y pc = some (cn, .bastore, 1)) (hs : h[a]? = some (.inr (.byte, n))) (hi : vp_in i n) (k0 : EvP d y (pc + 1) ls rest (upc I a (upc (I a) i.toNatClampNeg (vp_nar .byte x)), J, K, h) Φ) : EvP d y pc ls (.int x :: .int i :: .ref a :: rest) (I, J, K, h) Φ := by
  obtain ⟨r, t, g8, g9⟩ := k0
  exact ⟨r, t, e_bast hd0 hs hi g8, g9⟩
theorem p_zast {d y pc cn : Nat} {ls : List (Nat × Value)} {rest : List Value} {I : Nat → Nat → Int32} {J : Nat → Nat → Int64} {K : Nat → Nat → Option Nat} {h : List xSh} {Φ : xPost} {a n : Nat} {i : Int32} {x : Int32} (hd0 : xdec y pc = some (cn, .bastore, 1)) (hs : h[a]? = some (.inr (.boolean, n))) (hi : vp_in i n) (k0 : EvP d y (pc + 1) ls rest (upc I a (upc (I a) i.toNatClampNeg (vp_nar .boolean x)), J, K, h) Φ) : EvP d y pc ls (.int x :: .int i :: .ref a :: rest) (I, J, K, h) Φ := by
  obtain ⟨r, t, g8, g9⟩ := k0
  exact ⟨r, t, e_zast hd0 hs hi g8, g9⟩
theorem p_last {d y pc cn : Nat} {ls : List (Nat × Value)} {rest : List Value} {I : Nat → Nat → Int32} {J : Nat → Nat → Int64} {K : Nat → Nat → Option Nat} {h : List xSh} {Φ : xPost} {a n : Nat} {i : Int32} {x : Int64} (hd0 : xdec y pc = some (cn, .lastore, 1)) (hs : h[a]? = some (.inr (.long, n))) (hi : vp_in i n) (k0 : EvP d y (pc + 1) ls rest (I, upc J a (upc (J a) i.toNatClampNeg x), K, h) Φ) : EvP d y pc ls (.long x :: .int i :: .ref a :: rest) (I, J, K, h) Φ := by
  obtain ⟨r, t, g8, g9⟩ := k0
  exact ⟨r, t, e_last hd0 hs hi g8, g9⟩
theorem p_aast {d y pc cn : Nat} {ls : List (Nat × Value)} {rest : List Value} {I : Nat → Nat → Int32} {J : Nat → Nat → Int64} {K : Nat → Nat → Option Nat} {h : List xSh} {Φ : xPost} {a n : Nat} {i : Int32} {C : String} {j ci : Nat} (hd0 : xdec y pc = some (cn, .aastore, 1)) (hs : h[a]? = some (.inr (.object C, n))) (hi : vp_in i n) (hty : xaty (.object C)) (hj : h[j]? = some (.inl ci)) (hc : xasg ci C) (k0 : EvP d y (pc + 1) ls rest (I, J, upc K a (upc (K a) i.toNatClampNeg (some j)), h) Φ) : EvP d y pc ls (.ref j :: .int i :: .ref a :: rest) (I, J, K, h) Φ := by
  obtain ⟨r, t, g8, g9⟩ := k0
  exact ⟨r, t, e_aast hd0 hs hi hty hj hc g8, g9⟩
theorem p_aastN {d y pc cn : Nat} {ls : List (Nat × Value)} {rest : List Value} {I : Nat → Nat → Int32} {J : Nat → Nat → Int64} {K : Nat → Nat → Option Nat} {h : List xSh} {Φ : xPost} {a n : Nat} {i : Int32} {C : String} (hd0 : xdec y pc = some (cn, .aastore, 1)) (hs : h[a]? = some (.inr (.object C, n))) (hi : vp_in i n) (hty : xaty (.object C)) (k0 : EvP d y (pc + 1) ls rest (I, J, upc K a (upc (K a) i.toNatClampNeg none), h) Φ) : EvP d y pc ls (.null :: .int i :: .ref a :: rest) (I, J, K, h) Φ := by
  obtain ⟨r, t, g8, g9⟩ := k0
  exact ⟨r, t, e_aastN hd0 hs hi hty g8, g9⟩
theorem p_alen {d y pc cn : Nat} {ls : List (Nat × Value)} {rest : List Value} {I : Nat → Nat → Int32} {J : Nat → Nat → Int64} {K : Nat → Nat → Option Nat} {h : List xSh} {Φ : xPost} {a n : Nat} {ty : FieldType} (hd0 : xdec y pc = some (cn, .arraylength, 1)) (hs : h[a]? = some (.inr (ty, n))) (hty : xaty ty) (k0 : EvP d y (pc + 1) ls (.int (Int32.ofNat n) :: rest) (I, J, K, h) Φ) : EvP d y pc ls (.ref a :: rest) (I, J, K, h) Φ := by
  obtain ⟨r, t, g8, g9⟩ := k0
  exact ⟨r, t, e_alen hd0 hs hty g8, g9⟩
theorem p_newa {d y pc cn : Nat} {ls : List (Nat × Value)} {rest : List Value} {I : Nat → Nat → Int32} {J : Nat → Nat → Int64} {K : Nat → Nat → Option Nat} {h : List xSh} {Φ : xPost} {at1 : ArrayType} {n : Int32} {N : Nat} (hd0 : xdec y pc = some (cn, .newarray at1, 2)) (ha : xaty1 (newarray.typeOf at1)) (hn : ¬ n < 0) (hN : n.toNatClampNeg = N) (hb : N ≤ 1000) (hz9 : h.length < 900000) (k0 : EvP d y (pc + 2) ls (.ref h.length :: rest) (upc I h.length (fun _ => 0), upc J h.length (fun _ => 0), upc K h.length (fun _ => none), h ++ [.inr (newarray.typeOf at1, N)]) Φ) : EvP d y pc ls (.int n :: rest) (I, J, K, h) Φ := by
  obtain ⟨r, t, g8, g9⟩ := k0
  exact ⟨r, t, e_newa hd0 ha hn hN hb hz9 g8, g9⟩
theorem p_newq {d y pc cn : Nat} {ls : List (Nat × Value)} {rest : List Value} {I : Nat → Nat → Int32} {J : Nat → Nat → Int64} {K : Nat → Nat → Option Nat} {h : List xSh} {Φ : xPost} {idx ci : Nat} {n : Int32} {N : Nat} (hd0 : xdec y pc = some (cn, .anewarray idx, 3)) (hd : (cn, idx, ci) ∈ xDt) (ha : xaty (.object (xR ci))) (hn : ¬ n < 0) (hN : n.toNatClampNeg = N) (hb : N ≤ 1000) (hz9 : h.length < 900000) (k0 : EvP d y (pc + 3) ls (.ref h.length :: rest) (upc I h.length (fun _ => 0), upc J h.length (fun _ => 0), upc K h.length (fun _ => none), h ++ [.inr (.object (xR ci), N)]) Φ) : EvP d y pc ls (.int n :: rest) (I, J, K, h) Φ := by
  obtain ⟨r, t, g8, g9⟩ := k0
  exact ⟨r, t, e_newq hd0 hd ha hn hN hb hz9 g8, g9⟩
theorem p_new {d y pc cn : Nat} {ls : List (Nat × Value)} {rest : List Value} {I : Nat → Nat → Int32} {J : Nat → Nat → Int64} {K : Nat → Nat → Option Nat} {h : List xSh} {Φ : xPost} {idx ci : Nat} (hd0 : xdec y pc = some (cn, .new idx, 3)) (hd : (cn, idx, ci) ∈ xDt) (hz9 : h.length < 900000) (k0 : EvP d y (pc + 3) ls (.ref h.length :: rest) (upc I h.length (fun _ => 0), upc J h.length (fun _ => 0), upc K h.length (fun _ => none), h ++ [.inl ci]) Φ) : EvP d y pc ls rest (I, J, K, h) Φ := by
  obtain ⟨r, t, g8, g9⟩ := k0
  exact ⟨r, t, e_new hd0 hd hz9 g8, g9⟩
theorem p_inst1 {d y pc cn : Nat} {ls : List (Nat × Value)} {rest : List Value} {I : Nat → Nat → Int32} {J : Nat → Nat → Int64} {K : Nat → Nat → Option Nat} {h : List xSh} {Φ : xPost} {a idx ci ti : Nat} (hd0 : xdec y pc = some (cn, .instanceof idx, 3)) (hs : h[a]? = some (.inl ci)) (hd : (cn, idx, ti) ∈ xDt) (hc : (ci, ti) ∈ xYes) (k0 : EvP d y (pc + 3) ls (.int 1 :: rest) (I, J, K, h) Φ) : EvP d y pc ls (.ref a :: rest) (I, J, K, h) Φ := by
  obtain ⟨r, t, g8, g9⟩ := k0
  exact ⟨r, t, e_inst1 hd0 hs hd hc g8, g9⟩
theorem p_inst0 {d y pc cn : Nat} {ls : List (Nat × Value)} {rest : List Value} {I : Nat → Nat → Int32} {J : Nat → Nat → Int64} {K : Nat → Nat → Option Nat} {h : List xSh} {Φ : xPost} {a idx ci ti : Nat} (hd0 : xdec y pc = some (cn, .instanceof idx, 3)) (hs : h[a]? = some (.inl ci)) (hd : (cn, idx, ti) ∈ xDt) (hc : (ci, ti) ∈ xNo) (k0 : EvP d y (pc + 3) ls (.int 0 :: rest) (I, J, K, h) Φ) : EvP d y pc ls (.ref a :: rest) (I, J, K, h) Φ := by
  obtain ⟨r, t, g8, g9⟩ := k0
  exact ⟨r, t, e_inst0 hd0 hs hd hc g8, g9⟩
theorem p_gets {d y pc cn : Nat} {ls : List (Nat × Value)} {rest : List Value} {I : Nat → Nat → Int32} {J : Nat → Nat → Int64} {K : Nat → Nat → Option Nat} {h : List xSh} {Φ : xPost} (hd0 : xdec y pc = some (cn, .getstatic 37, 3)) (hc : cn = 8) (k0 : EvP d y (pc + 3) ls (.ref 1000010 :: rest) (I, J, K, h) Φ) : EvP d y pc ls rest (I, J, K, h) Φ := by
  obtain ⟨r, t, g8, g9⟩ := k0
  exact ⟨r, t, e_gets hd0 hc g8, g9⟩
theorem p_sld {d y pc cn : Nat} {ls : List (Nat × Value)} {rest : List Value} {I : Nat → Nat → Int32} {J : Nat → Nat → Int64} {K : Nat → Nat → Option Nat} {h : List xSh} {Φ : xPost} {i : Int32} (hd0 : xdec y pc = some (cn, .iaload, 1)) (hi : vp_in i (I 1000001 0).toNatClampNeg) (k0 : EvP d y (pc + 1) ls (.int (I 1000000 i.toNatClampNeg) :: rest) (I, J, K, h) Φ) : EvP d y pc ls (.int i :: .ref 1000000 :: rest) (I, J, K, h) Φ := by
  obtain ⟨r, t, g8, g9⟩ := k0
  exact ⟨r, t, e_sld hd0 hi g8, g9⟩
theorem p_slen {d y pc cn : Nat} {ls : List (Nat × Value)} {rest : List Value} {I : Nat → Nat → Int32} {J : Nat → Nat → Int64} {K : Nat → Nat → Option Nat} {h : List xSh} {Φ : xPost} (hd0 : xdec y pc = some (cn, .arraylength, 1)) (k0 : EvP d y (pc + 1) ls (.int (I 1000001 0) :: rest) (I, J, K, h) Φ) : EvP d y pc ls (.ref 1000000 :: rest) (I, J, K, h) Φ := by
  obtain ⟨r, t, g8, g9⟩ := k0
  exact ⟨r, t, e_slen hd0 g8, g9⟩
theorem p_max {d y pc cn : Nat} {ls : List (Nat × Value)} {rest : List Value} {I : Nat → Nat → Int32} {J : Nat → Nat → Int64} {K : Nat → Nat → Option Nat} {h : List xSh} {Φ : xPost} {idx : Nat} {x y1 : Int32} (hd0 : xdec y pc = some (cn, .invokestatic idx, 3)) (hp : (cn, idx, 10) ∈ xPt) (hw : (rest.map fun v => v.category).sum ≤ 8) (k0 : EvP (d + 1) y (pc + 3) ls (.int (if x < y1 then y1 else x) :: rest) (I, J, K, h) Φ) : EvP (d + 1) y pc ls (.int y1 :: .int x :: rest) (I, J, K, h) Φ := by
  obtain ⟨r, t, g8, g9⟩ := k0
  exact ⟨r, t, e_max hd0 hp hw g8, g9⟩
theorem p_min {d y pc cn : Nat} {ls : List (Nat × Value)} {rest : List Value} {I : Nat → Nat → Int32} {J : Nat → Nat → Int64} {K : Nat → Nat → Option Nat} {h : List xSh} {Φ : xPost} {idx : Nat} {x y1 : Int32} (hd0 : xdec y pc = some (cn, .invokestatic idx, 3)) (hp : (cn, idx, 11) ∈ xPt) (hw : (rest.map fun v => v.category).sum ≤ 8) (k0 : EvP (d + 1) y (pc + 3) ls (.int (if y1 < x then y1 else x) :: rest) (I, J, K, h) Φ) : EvP (d + 1) y pc ls (.int y1 :: .int x :: rest) (I, J, K, h) Φ := by
  obtain ⟨r, t, g8, g9⟩ := k0
  exact ⟨r, t, e_min hd0 hp hw g8, g9⟩
theorem p_abs {d y pc cn : Nat} {ls : List (Nat × Value)} {rest : List Value} {I : Nat → Nat → Int32} {J : Nat → Nat → Int64} {K : Nat → Nat → Option Nat} {h : List xSh} {Φ : xPost} {idx : Nat} {x : Int32} (hd0 : xdec y pc = some (cn, .invokestatic idx, 3)) (hp : (cn, idx, 12) ∈ xPt) (hw : (rest.map fun v => v.category).sum ≤ 8) (k0 : EvP (d + 1) y (pc + 3) ls (.int (if 0 ≤ x then x else 0 - x) :: rest) (I, J, K, h) Φ) : EvP (d + 1) y pc ls (.int x :: rest) (I, J, K, h) Φ := by
  obtain ⟨r, t, g8, g9⟩ := k0
  exact ⟨r, t, e_abs hd0 hp hw g8, g9⟩
theorem p_cpyi {d y pc cn : Nat} {ls : List (Nat × Value)} {rest : List Value} {I : Nat → Nat → Int32} {J : Nat → Nat → Int64} {K : Nat → Nat → Option Nat} {h : List xSh} {Φ : xPost} {idx : Nat} {a0 a n0 n1 : Nat} {sp dp n : Int32} (hd0 : xdec y pc = some (cn, .invokestatic idx, 3)) (hp : (cn, idx, 13) ∈ xPt) (hw : (rest.map fun v => v.category).sum ≤ 8) (hs0 : h[a0]? = some (.inr (.int, n0))) (hs1 : h[a]? = some (.inr (.int, n1))) (h1 : ¬ sp < 0) (h2 : ¬ dp < 0) (h3 : ¬ n < 0) (h4 : sp.toNatClampNeg + n.toNatClampNeg ≤ n0) (h5 : dp.toNatClampNeg + n.toNatClampNeg ≤ n1) (k0 : EvP (d + 1) y (pc + 3) ls rest (upc I a (va_cpy (I a0) (I a) sp.toNatClampNeg dp.toNatClampNeg n.toNatClampNeg), J, K, h) Φ) : EvP (d + 1) y pc ls (.int n :: .int dp :: .ref a :: .int sp :: .ref a0 :: rest) (I, J, K, h) Φ := by
  obtain ⟨r, t, g8, g9⟩ := k0
  exact ⟨r, t, e_cpyi hd0 hp hw hs0 hs1 h1 h2 h3 h4 h5 g8, g9⟩
theorem p_cpyl {d y pc cn : Nat} {ls : List (Nat × Value)} {rest : List Value} {I : Nat → Nat → Int32} {J : Nat → Nat → Int64} {K : Nat → Nat → Option Nat} {h : List xSh} {Φ : xPost} {idx : Nat} {a0 a n0 n1 : Nat} {sp dp n : Int32} (hd0 : xdec y pc = some (cn, .invokestatic idx, 3)) (hp : (cn, idx, 13) ∈ xPt) (hw : (rest.map fun v => v.category).sum ≤ 8) (hs0 : h[a0]? = some (.inr (.long, n0))) (hs1 : h[a]? = some (.inr (.long, n1))) (h1 : ¬ sp < 0) (h2 : ¬ dp < 0) (h3 : ¬ n < 0) (h4 : sp.toNatClampNeg + n.toNatClampNeg ≤ n0) (h5 : dp.toNatClampNeg + n.toNatClampNeg ≤ n1) (k0 : EvP (d + 1) y (pc + 3) ls rest (I, upc J a (va_cpy (J a0) (J a) sp.toNatClampNeg dp.toNatClampNeg n.toNatClampNeg), K, h) Φ) : EvP (d + 1) y pc ls (.int n :: .int dp :: .ref a :: .int sp :: .ref a0 :: rest) (I, J, K, h) Φ := by
  obtain ⟨r, t, g8, g9⟩ := k0
  exact ⟨r, t, e_cpyl hd0 hp hw hs0 hs1 h1 h2 h3 h4 h5 g8, g9⟩
theorem p_oinit {d y pc cn : Nat} {ls : List (Nat × Value)} {rest : List Value} {I : Nat → Nat → Int32} {J : Nat → Nat → Int64} {K : Nat → Nat → Option Nat} {h : List xSh} {Φ : xPost} {idx : Nat} {a : Nat} (hd0 : xdec y pc = some (cn, .invokespecial idx, 3)) (hp : (cn, idx, 14) ∈ xPt) (hw : (rest.map fun v => v.category).sum ≤ 8) (k0 : EvP (d + 1) y (pc + 3) ls rest (I, J, K, h) Φ) : EvP (d + 1) y pc ls (.ref a :: rest) (I, J, K, h) Φ := by
  obtain ⟨r, t, g8, g9⟩ := k0
  exact ⟨r, t, e_oinit hd0 hp hw g8, g9⟩
theorem p_sgetV {d y pc cn : Nat} {ls : List (Nat × Value)} {rest : List Value} {I : Nat → Nat → Int32} {J : Nat → Nat → Int64} {K : Nat → Nat → Option Nat} {h : List xSh} {Φ : xPost} {k : Nat} (hd0 : xdec y pc = some (cn, .getfield 9, 3)) (hc : cn = 16) (hk : k < 5) (k0 : EvP d y (pc + 3) ls (.ref (1000021 + k) :: rest) (I, J, K, h) Φ) : EvP d y pc ls (.ref (1000001 + k) :: rest) (I, J, K, h) Φ := by
  obtain ⟨r, t, g8, g9⟩ := k0
  exact ⟨r, t, e_sgetV hd0 hc hk g8, g9⟩
theorem p_sgetC {d y pc cn : Nat} {ls : List (Nat × Value)} {rest : List Value} {I : Nat → Nat → Int32} {J : Nat → Nat → Int64} {K : Nat → Nat → Option Nat} {h : List xSh} {Φ : xPost} {k : Nat} (hd0 : xdec y pc = some (cn, .getfield 15, 3)) (hc : cn = 16) (hk : k < 5) (k0 : EvP d y (pc + 3) ls (.int 0 :: rest) (I, J, K, h) Φ) : EvP d y pc ls (.ref (1000001 + k) :: rest) (I, J, K, h) Φ := by
  obtain ⟨r, t, g8, g9⟩ := k0
  exact ⟨r, t, e_sgetC hd0 hc hk g8, g9⟩
theorem p_sblen {d y pc cn : Nat} {ls : List (Nat × Value)} {rest : List Value} {I : Nat → Nat → Int32} {J : Nat → Nat → Int64} {K : Nat → Nat → Option Nat} {h : List xSh} {Φ : xPost} {k : Nat} (hd0 : xdec y pc = some (cn, .arraylength, 1)) (hk : k < 5) (k0 : EvP d y (pc + 1) ls (.int (nI (xStr k).length) :: rest) (I, J, K, h) Φ) : EvP d y pc ls (.ref (1000021 + k) :: rest) (I, J, K, h) Φ := by
  obtain ⟨r, t, g8, g9⟩ := k0
  exact ⟨r, t, e_sblen hd0 hk g8, g9⟩
theorem p_sbald {d y pc cn : Nat} {ls : List (Nat × Value)} {rest : List Value} {I : Nat → Nat → Int32} {J : Nat → Nat → Int64} {K : Nat → Nat → Option Nat} {h : List xSh} {Φ : xPost} {k j : Nat} (hd0 : xdec y pc = some (cn, .baload, 1)) (hk : k < 5) (hj : j < (xStr k).length) (k0 : EvP d y (pc + 1) ls (.int ((xStr k).getD j 0) :: rest) (I, J, K, h) Φ) : EvP d y pc ls (.int (nI j) :: .ref (1000021 + k) :: rest) (I, J, K, h) Φ := by
  obtain ⟨r, t, g8, g9⟩ := k0
  exact ⟨r, t, e_sbald hd0 hk hj g8, g9⟩
theorem p_getsC {d y pc cn : Nat} {ls : List (Nat × Value)} {rest : List Value} {I : Nat → Nat → Int32} {J : Nat → Nat → Int64} {K : Nat → Nat → Option Nat} {h : List xSh} {Φ : xPost} (hd0 : xdec y pc = some (cn, .getstatic 38, 3)) (hc : cn = 16) (k0 : EvP d y (pc + 3) ls (.int 1 :: rest) (I, J, K, h) Φ) : EvP d y pc ls rest (I, J, K, h) Φ := by
  obtain ⟨r, t, g8, g9⟩ := k0
  exact ⟨r, t, e_getsC hd0 hc g8, g9⟩
theorem p_aload_nN {d y pc cn : Nat} {ls : List (Nat × Value)} {rest : List Value} {I : Nat → Nat → Int32} {J : Nat → Nat → Int64} {K : Nat → Nat → Option Nat} {h : List xSh} {Φ : xPost} {k : Fin 4} (hd0 : xdec y pc = some (cn, .aload_n k, 1)) (hl9 : xlg ls (k : Nat) = some .null) (k0 : EvP d y (pc + 1) ls (.null :: rest) (I, J, K, h) Φ) : EvP d y pc ls rest (I, J, K, h) Φ := by
  obtain ⟨r, t, g8, g9⟩ := k0
  exact ⟨r, t, e_aload_nN hd0 hl9 g8, g9⟩
theorem p_i2c {d y pc cn : Nat} {ls : List (Nat × Value)} {rest : List Value} {I : Nat → Nat → Int32} {J : Nat → Nat → Int64} {K : Nat → Nat → Option Nat} {h : List xSh} {Φ : xPost} {x : Int32} (hd0 : xdec y pc = some (cn, .i2c, 1)) (k0 : EvP d y (pc + 1) ls (.int (x.toUInt32 % 65536).toInt32 :: rest) (I, J, K, h) Φ) : EvP d y pc ls (.int x :: rest) (I, J, K, h) Φ := by
  obtain ⟨r, t, g8, g9⟩ := k0
  exact ⟨r, t, e_i2c hd0 g8, g9⟩
theorem p_drop (ks : List Nat) {d y pc : Nat} {ls ls1 : List (Nat × Value)} {rest : List Value} {I : Nat → Nat → Int32} {J : Nat → Nat → Int64} {K : Nat → Nat → Option Nat} {h : List xSh} {Φ : xPost} (hl9 : ls.filter (fun q => ks.contains q.1) = ls1) (k0 : EvP d y pc ls1 rest (I, J, K, h) Φ) : EvP d y pc ls rest (I, J, K, h) Φ := by
  obtain ⟨r, t, g8, g9⟩ := k0
  exact ⟨r, t, e_drop (cn := 0) hl9 g8, g9⟩
section EVP
variable {d y pc cn : Nat} {ls ls1 : List (Nat × Value)} {rest : List Value} {I : Nat → Nat → Int32} {J : Nat → Nat → Int64} {K : Nat → Nat → Option Nat} {h : List xSh} {Φ : xPost}
theorem p_ireturn {x : Int32} {ψ : Int32 → xMem → Prop} (hd0 : xdec y pc = some (cn, .ireturn, 1)) (hr : xrt y = some .int) (hq : ψ x (I, J, K, h)) : EvP d y pc ls [.int x] (I, J, K, h) (QI ψ) := ⟨_, _, e_ireturn hd0 hr, x, rfl, hq⟩
theorem p_returnB {b : Bool} {ψ : Int32 → xMem → Prop} (hd0 : xdec y pc = some (cn, .ireturn, 1)) (hr : xrt y = some .boolean) (hq : ψ (bI b) (I, J, K, h)) : EvP d y pc ls [.int (bI b)] (I, J, K, h) (QI ψ) := ⟨_, _, e_zreturn hd0 hr (bI_01 b), _, rfl, hq⟩
theorem p_zreturn {x : Int32} {ψ : Int32 → xMem → Prop} (hd0 : xdec y pc = some (cn, .ireturn, 1)) (hr : xrt y = some .boolean) (hx : x = 0 ∨ x = 1) (hq : ψ x (I, J, K, h)) : EvP d y pc ls [.int x] (I, J, K, h) (QI ψ) := ⟨_, _, e_zreturn hd0 hr hx, _, rfl, hq⟩
theorem p_treturn {x : Int32} {ty : FieldType} {ψ : Int32 → xMem → Prop} (hd0 : xdec y pc = some (cn, .ireturn, 1)) (hr : xrt y = some ty) (hx : narrow ty (.int x) = .int x) (hq : ψ x (I, J, K, h)) : EvP d y pc ls [.int x] (I, J, K, h) (QI ψ) := ⟨_, _, e_treturn hd0 hr hx, _, rfl, hq⟩
theorem p_lreturn {x : Int64} {ψ : Int64 → xMem → Prop} (hd0 : xdec y pc = some (cn, .lreturn, 1)) (hr : xrt y = some .long) (hq : ψ x (I, J, K, h)) : EvP d y pc ls [.long x] (I, J, K, h) (QL ψ) := ⟨_, _, e_lreturn hd0 hr, x, rfl, hq⟩
theorem p_areturn {a : Nat} {C : String} {ψ : Nat → xMem → Prop} (hd0 : xdec y pc = some (cn, .areturn, 1)) (hr : xrt y = some (.object C)) (hq : ψ a (I, J, K, h)) : EvP d y pc ls [.ref a] (I, J, K, h) (QR ψ) := ⟨_, _, e_areturn hd0 hr, a, rfl, hq⟩
theorem p_return {ψ : xMem → Prop} (hd0 : xdec y pc = some (cn, .return_, 1)) (hr : xrt y = none) (hq : ψ (I, J, K, h)) : EvP d y pc ls [] (I, J, K, h) (QV ψ) := ⟨_, _, e_return hd0 hr, rfl, hq⟩
theorem p_getsF (hd0 : xdec y pc = some (cn, .getstatic 1053, 3)) (hc : cn = 16) {r : Option Value} {t : xMem} (k0 : Ev d y (pc + 3) ls (.null :: rest) (I, J, K, h) r t) (k1 : Ev d y (pc + 3) ls (.ref 1000011 :: rest) (I, J, K, h) r t) (hq : Φ r t) : EvP d y pc ls rest (I, J, K, h) Φ := ⟨r, t, e_getsF hd0 hc k0 k1, hq⟩
theorem p_iincN {i k : Nat} (hd0 : xdec y pc = some (cn, .iinc i 1, 3)) (hg : xlg ls i = some (.int (nI k))) (hl : xls ls i (.int (nI (k + 1))) = ls1) (k0 : EvP d y (pc + 3) ls1 rest (I, J, K, h) Φ) : EvP d y pc ls rest (I, J, K, h) Φ := p_iinc hd0 hg (by rw [nI_succ]; rfl) hl k0
theorem p_iincD {i k : Nat} (hd0 : xdec y pc = some (cn, .iinc i (-1), 3)) (hg : xlg ls i = some (.int (nI (k + 1)))) (hl : xls ls i (.int (nI k)) = ls1) (k0 : EvP d y (pc + 3) ls1 rest (I, J, K, h) Φ) : EvP d y pc ls rest (I, J, K, h) Φ := p_iinc hd0 hg (by rw [show Int32.ofInt (-1) = -1 by decide, pk_m1]) hl k0
theorem p_getIv {a idx ci k : Nat} {v : Int32} (hd0 : xdec y pc = some (cn, .getfield idx, 3)) (hs : h[a]? = some (.inl ci)) (hf : xFh cn idx ci k ∧ xkd (xty ci k) = 0) (hv : I a k = v) (k0 : EvP d y (pc + 3) ls (.int v :: rest) (I, J, K, h) Φ) : EvP d y pc ls (.ref a :: rest) (I, J, K, h) Φ := p_getI hd0 hs hf.1 hf.2 (by rw [hv]; exact k0)
theorem p_getRv {a idx ci k j : Nat} (hd0 : xdec y pc = some (cn, .getfield idx, 3)) (hs : h[a]? = some (.inl ci)) (hf : xFh cn idx ci k ∧ xkd (xty ci k) = 2) (hj : K a k = some j) (k0 : EvP d y (pc + 3) ls (.ref j :: rest) (I, J, K, h) Φ) : EvP d y pc ls (.ref a :: rest) (I, J, K, h) Φ := p_getR hd0 hs hf.1 hf.2 hj k0
theorem p_putIv {a idx ci k : Nat} {x : Int32} (hd0 : xdec y pc = some (cn, .putfield idx, 3)) (hs : h[a]? = some (.inl ci)) (hf : xFh cn idx ci k ∧ xty ci k = .int) (hu : xfin y cn ci k = true) (k0 : EvP d y (pc + 3) ls rest (upc I a (upc (I a) k x), J, K, h) Φ) : EvP d y pc ls (.int x :: .ref a :: rest) (I, J, K, h) Φ := p_putI hd0 hs hf.1 hu hf.2 k0
theorem p_putZv {a idx ci k : Nat} {x : Int32} (hd0 : xdec y pc = some (cn, .putfield idx, 3)) (hs : h[a]? = some (.inl ci)) (hf : xFh cn idx ci k ∧ xty ci k = .boolean) (hu : xfin y cn ci k = true) (hx : x = 0 ∨ x = 1) (k0 : EvP d y (pc + 3) ls rest (upc I a (upc (I a) k x), J, K, h) Φ) : EvP d y pc ls (.int x :: .ref a :: rest) (I, J, K, h) Φ := p_putZ hd0 hs hf.1 hu hf.2 hx k0
theorem p_putRv {a idx ci k j : Nat} (hd0 : xdec y pc = some (cn, .putfield idx, 3)) (hs : h[a]? = some (.inl ci)) (hf : xFh cn idx ci k ∧ xkd (xty ci k) = 2) (hu : xfin y cn ci k = true) (k0 : EvP d y (pc + 3) ls rest (I, J, upc K a (upc (K a) k (some j)), h) Φ) : EvP d y pc ls (.ref j :: .ref a :: rest) (I, J, K, h) Φ := p_putR hd0 hs hf.1 hu hf.2 k0
theorem p_ialdN {a n k : Nat} {v : Int32} (hd0 : xdec y pc = some (cn, .iaload, 1)) (hs : h[a]? = some (.inr (.int, n))) (hk : k < n) (hn : n < 2 ^ 31) (hv : I a k = v) (k0 : EvP d y (pc + 1) ls (.int v :: rest) (I, J, K, h) Φ) : EvP d y pc ls (.int (nI k) :: .ref a :: rest) (I, J, K, h) Φ := p_iald hd0 hs (vp_in_nI hk hn) (by rw [nI_clamp (Nat.lt_trans hk hn), hv]; exact k0)
theorem p_baldN {a n k : Nat} {v : Int32} (hd0 : xdec y pc = some (cn, .baload, 1)) (hs : h[a]? = some (.inr (.byte, n))) (hk : k < n) (hn : n < 2 ^ 31) (hv : I a k = v) (k0 : EvP d y (pc + 1) ls (.int v :: rest) (I, J, K, h) Φ) : EvP d y pc ls (.int (nI k) :: .ref a :: rest) (I, J, K, h) Φ := p_bald hd0 hs (vp_in_nI hk hn) (by rw [nI_clamp (Nat.lt_trans hk hn), hv]; exact k0)
theorem p_zaldN {a n k : Nat} {v : Int32} (hd0 : xdec y pc = some (cn, .baload, 1)) (hs : h[a]? = some (.inr (.boolean, n))) (hk : k < n) (hn : n < 2 ^ 31) (hv : I a k = v) (k0 : EvP d y (pc + 1) ls (.int v :: rest) (I, J, K, h) Φ) : EvP d y pc ls (.int (nI k) :: .ref a :: rest) (I, J, K, h) Φ := p_zald hd0 hs (vp_in_nI hk hn) (by rw [nI_clamp (Nat.lt_trans hk hn), hv]; exact k0)
theorem p_laldN {a n k : Nat} {v : Int64} (hd0 : xdec y pc = some (cn, .laload, 1)) (hs : h[a]? = some (.inr (.long, n))) (hk : k < n) (hn : n < 2 ^ 31) (hv : J a k = v) (k0 : EvP d y (pc + 1) ls (.long v :: rest) (I, J, K, h) Φ) : EvP d y pc ls (.int (nI k) :: .ref a :: rest) (I, J, K, h) Φ := p_lald hd0 hs (vp_in_nI hk hn) (by rw [nI_clamp (Nat.lt_trans hk hn), hv]; exact k0)
theorem p_aaldNj {a n k j : Nat} {C : String} (hd0 : xdec y pc = some (cn, .aaload, 1)) (hs : h[a]? = some (.inr (.object C, n))) (hty : xaty (.object C)) (hk : k < n) (hn : n < 2 ^ 31) (hj : K a k = some j) (k0 : EvP d y (pc + 1) ls (.ref j :: rest) (I, J, K, h) Φ) : EvP d y pc ls (.int (nI k) :: .ref a :: rest) (I, J, K, h) Φ := p_aald hd0 hs (vp_in_nI hk hn) hty (by rw [nI_clamp (Nat.lt_trans hk hn)]; exact hj) k0
theorem p_iastN {a n k : Nat} {x : Int32} (hd0 : xdec y pc = some (cn, .iastore, 1)) (hs : h[a]? = some (.inr (.int, n))) (hk : k < n) (hn : n < 2 ^ 31) (k0 : EvP d y (pc + 1) ls rest (upc I a (upc (I a) k x), J, K, h) Φ) : EvP d y pc ls (.int x :: .int (nI k) :: .ref a :: rest) (I, J, K, h) Φ := p_iast hd0 hs (vp_in_nI hk hn) (by rw [nI_clamp (Nat.lt_trans hk hn)]; exact k0)
theorem p_bastN {a n k : Nat} {x : Int32} (hd0 : xdec y pc = some (cn, .bastore, 1)) (hs : h[a]? = some (.inr (.byte, n))) (hk : k < n) (hn : n < 2 ^ 31) (hx : vp_nar .byte x = x) (k0 : EvP d y (pc + 1) ls rest (upc I a (upc (I a) k x), J, K, h) Φ) : EvP d y pc ls (.int x :: .int (nI k) :: .ref a :: rest) (I, J, K, h) Φ := p_bast hd0 hs (vp_in_nI hk hn) (by rw [nI_clamp (Nat.lt_trans hk hn), hx]; exact k0)
theorem p_zastN {a n k : Nat} {b : Bool} (hd0 : xdec y pc = some (cn, .bastore, 1)) (hs : h[a]? = some (.inr (.boolean, n))) (hk : k < n) (hn : n < 2 ^ 31) (k0 : EvP d y (pc + 1) ls rest (upc I a (upc (I a) k (bI b)), J, K, h) Φ) : EvP d y pc ls (.int (bI b) :: .int (nI k) :: .ref a :: rest) (I, J, K, h) Φ := p_zast hd0 hs (vp_in_nI hk hn) (by rw [nI_clamp (Nat.lt_trans hk hn), show vp_nar .boolean (bI b) = bI b by cases b <;> rfl]; exact k0)
theorem p_lastN {a n k : Nat} {x : Int64} (hd0 : xdec y pc = some (cn, .lastore, 1)) (hs : h[a]? = some (.inr (.long, n))) (hk : k < n) (hn : n < 2 ^ 31) (k0 : EvP d y (pc + 1) ls rest (I, upc J a (upc (J a) k x), K, h) Φ) : EvP d y pc ls (.long x :: .int (nI k) :: .ref a :: rest) (I, J, K, h) Φ := p_last hd0 hs (vp_in_nI hk hn) (by rw [nI_clamp (Nat.lt_trans hk hn)]; exact k0)
theorem p_iaddN {a b : Nat} (hd0 : xdec y pc = some (cn, .iadd, 1)) (k0 : EvP d y (pc + 1) ls (.int (nI (a + b)) :: rest) (I, J, K, h) Φ) : EvP d y pc ls (.int (nI b) :: .int (nI a) :: rest) (I, J, K, h) Φ := p_iadd hd0 (by rw [nI_add]; exact k0)
theorem p_imulN {a b : Nat} (hd0 : xdec y pc = some (cn, .imul, 1)) (k0 : EvP d y (pc + 1) ls (.int (nI (a * b)) :: rest) (I, J, K, h) Φ) : EvP d y pc ls (.int (nI b) :: .int (nI a) :: rest) (I, J, K, h) Φ := p_imul hd0 (by rw [pk_mul]; exact k0)
theorem p_isubN {a b : Nat} (hab : b ≤ a) (hd0 : xdec y pc = some (cn, .isub, 1)) (k0 : EvP d y (pc + 1) ls (.int (nI (a - b)) :: rest) (I, J, K, h) Φ) : EvP d y pc ls (.int (nI b) :: .int (nI a) :: rest) (I, J, K, h) Φ := p_isub hd0 (by rw [pk_sub hab]; exact k0)
theorem p_if_eqB {b : Bool} {off : Int} {tgt : Nat} (hd0 : xdec y pc = some (cn, .ifCond .eq off, 3)) (ht : (pc : Int) + off = (tgt : Int)) (kt : b = false → EvP d y tgt ls rest (I, J, K, h) Φ) (kf : b = true → EvP d y (pc + 3) ls rest (I, J, K, h) Φ) : EvP d y pc ls (.int (bI b) :: rest) (I, J, K, h) Φ := p_if_eq hd0 ht (fun c => kt (by cases b; rfl; exact absurd c (by decide))) (fun c => kf (by cases b; exact absurd rfl c; rfl))
theorem p_if_neB {b : Bool} {off : Int} {tgt : Nat} (hd0 : xdec y pc = some (cn, .ifCond .ne off, 3)) (ht : (pc : Int) + off = (tgt : Int)) (kt : b = true → EvP d y tgt ls rest (I, J, K, h) Φ) (kf : b = false → EvP d y (pc + 3) ls rest (I, J, K, h) Φ) : EvP d y pc ls (.int (bI b) :: rest) (I, J, K, h) Φ := p_if_ne hd0 ht (fun c => kt (by cases b; exact absurd rfl c; rfl)) (fun c => kf (by cases b; rfl; exact absurd c (by decide)))
theorem p_icmp_eqN {a b : Nat} {off : Int} {tgt : Nat} (hd0 : xdec y pc = some (cn, .if_icmp .eq off, 3)) (ht : (pc : Int) + off = (tgt : Int)) (ha : a < 2 ^ 31) (hb : b < 2 ^ 31) (kt : a = b → EvP d y tgt ls rest (I, J, K, h) Φ) (kf : a ≠ b → EvP d y (pc + 3) ls rest (I, J, K, h) Φ) : EvP d y pc ls (.int (nI b) :: .int (nI a) :: rest) (I, J, K, h) Φ := p_icmp_eq hd0 ht (fun c => kt ((nI_eq ha hb).mp c)) (fun c => kf (fun z => c ((nI_eq ha hb).mpr z)))
theorem p_icmp_neN {a b : Nat} {off : Int} {tgt : Nat} (hd0 : xdec y pc = some (cn, .if_icmp .ne off, 3)) (ht : (pc : Int) + off = (tgt : Int)) (ha : a < 2 ^ 31) (hb : b < 2 ^ 31) (kt : a ≠ b → EvP d y tgt ls rest (I, J, K, h) Φ) (kf : a = b → EvP d y (pc + 3) ls rest (I, J, K, h) Φ) : EvP d y pc ls (.int (nI b) :: .int (nI a) :: rest) (I, J, K, h) Φ := p_icmp_ne hd0 ht (fun c => kt (fun z => c ((nI_eq ha hb).mpr z))) (fun c => kf ((nI_eq ha hb).mp c))
theorem p_icmp_ltN {a b : Nat} {off : Int} {tgt : Nat} (hd0 : xdec y pc = some (cn, .if_icmp .lt off, 3)) (ht : (pc : Int) + off = (tgt : Int)) (ha : a < 2 ^ 31) (hb : b < 2 ^ 31) (kt : a < b → EvP d y tgt ls rest (I, J, K, h) Φ) (kf : b ≤ a → EvP d y (pc + 3) ls rest (I, J, K, h) Φ) : EvP d y pc ls (.int (nI b) :: .int (nI a) :: rest) (I, J, K, h) Φ := p_icmp_lt hd0 ht (fun c => kt ((nI_ltI ha hb).mp c)) (fun c => kf (Nat.not_lt.mp (fun z => c ((nI_ltI ha hb).mpr z))))
theorem p_icmp_geN {a b : Nat} {off : Int} {tgt : Nat} (hd0 : xdec y pc = some (cn, .if_icmp .ge off, 3)) (ht : (pc : Int) + off = (tgt : Int)) (ha : a < 2 ^ 31) (hb : b < 2 ^ 31) (kt : b ≤ a → EvP d y tgt ls rest (I, J, K, h) Φ) (kf : a < b → EvP d y (pc + 3) ls rest (I, J, K, h) Φ) : EvP d y pc ls (.int (nI b) :: .int (nI a) :: rest) (I, J, K, h) Φ := p_icmp_ge hd0 ht (fun c => kt ((nI_leI hb ha).mp c)) (fun c => kf (Nat.not_le.mp (fun z => c ((nI_leI hb ha).mpr z))))
theorem p_icmp_gtN {a b : Nat} {off : Int} {tgt : Nat} (hd0 : xdec y pc = some (cn, .if_icmp .gt off, 3)) (ht : (pc : Int) + off = (tgt : Int)) (ha : a < 2 ^ 31) (hb : b < 2 ^ 31) (kt : b < a → EvP d y tgt ls rest (I, J, K, h) Φ) (kf : a ≤ b → EvP d y (pc + 3) ls rest (I, J, K, h) Φ) : EvP d y pc ls (.int (nI b) :: .int (nI a) :: rest) (I, J, K, h) Φ := p_icmp_gt hd0 ht (fun c => kt ((nI_ltI hb ha).mp c)) (fun c => kf (Nat.not_lt.mp (fun z => c ((nI_ltI hb ha).mpr z))))
theorem p_icmp_leN {a b : Nat} {off : Int} {tgt : Nat} (hd0 : xdec y pc = some (cn, .if_icmp .le off, 3)) (ht : (pc : Int) + off = (tgt : Int)) (ha : a < 2 ^ 31) (hb : b < 2 ^ 31) (kt : a ≤ b → EvP d y tgt ls rest (I, J, K, h) Φ) (kf : b < a → EvP d y (pc + 3) ls rest (I, J, K, h) Φ) : EvP d y pc ls (.int (nI b) :: .int (nI a) :: rest) (I, J, K, h) Φ := p_icmp_le hd0 ht (fun c => kt ((nI_leI ha hb).mp c)) (fun c => kf (Nat.not_le.mp (fun z => c ((nI_leI ha hb).mpr z))))
end EVP
theorem xcat_ref (a : Nat) : (Value.ref a).category = 1 := rfl
def xCv (cn idx rc mid n : Nat) : Prop := ∃ kd : Nat, (cn, idx, rc, kd, mid, n) ∈ xCt ∧ (kd = 3 ∨ kd = 4 ∨ kd = 5) ∧ n + 1 ≤ xml mid
def xCs (cn idx mid n : Nat) : Prop := ∃ kd : Nat, (cn, idx, 99, kd, mid, n) ∈ xCt ∧ (kd = 0 ∨ kd = 7) ∧ n ≤ xml mid
def xCi (cn idx mid n : Nat) : Prop := ∃ kd : Nat, (cn, idx, 99, kd, mid, n) ∈ xCt ∧ (kd = 1 ∨ kd = 6) ∧ n + 1 ≤ xml mid
def xCu (cn idx mid n : Nat) : Prop := ∃ kd : Nat, (cn, idx, 99, kd, mid, n) ∈ xCt ∧ (kd = 2 ∨ kd = 8) ∧ n + 1 ≤ xml mid
def xCs9 (cn idx mid n : Nat) : Prop := (cn, idx, 16, 9, mid, n) ∈ xCt ∧ n + 1 ≤ xml mid
section EVC
variable {d y pc cn : Nat} {ls ls1 : List (Nat × Value)} {rest : List Value} {I : Nat → Nat → Int32} {J : Nat → Nat → Int64} {K : Nat → Nat → Option Nat} {h : List xSh} {Φ : xPost}
theorem p_cV0i {idx mid : Nat} {ψ : Int32 → xMem → Prop} (hd0 : xdec y pc = some (cn, .invokevirtual idx, 3)) {a ci : Nat} (hs : h[a]? = some (.inl ci)) (hc : xCv cn idx ci mid 0)  (hw : (rest.map fun v => v.category).sum ≤ 8) (k0 : EvP d mid 0 [(0, .ref a)] [] (I, J, K, h) (QI ψ)) (k1 : ∀ (x : Int32) (m1 : xMem), ψ x m1 → EvP (d + 1) y (pc + 3) ls (.int x :: rest) m1 Φ) : EvP (d + 1) y pc ls (.ref a :: rest) (I, J, K, h) Φ := by
  obtain ⟨kd, hm, hkd, hl⟩ := hc
  have e : lv_args 0 ([.ref a]) = [(0, .ref a)] := by simp [lv_args, xcat_ref]
  obtain ⟨_, m1, g1, x, rfl, g2⟩ := k0
  obtain ⟨r, t, g3, g4⟩ := k1 x m1 g2
  exact ⟨r, t, e_callV (As := []) (q := some (.int x)) hd0 hs hm hkd rfl rfl (by simp; omega) hw (by rw [e]; exact g1) g3, g4⟩
theorem p_cV0v {idx mid : Nat} {ψ : xMem → Prop} (hd0 : xdec y pc = some (cn, .invokevirtual idx, 3)) {a ci : Nat} (hs : h[a]? = some (.inl ci)) (hc : xCv cn idx ci mid 0)  (hw : (rest.map fun v => v.category).sum ≤ 8) (k0 : EvP d mid 0 [(0, .ref a)] [] (I, J, K, h) (QV ψ)) (k1 : ∀ (m1 : xMem), ψ m1 → EvP (d + 1) y (pc + 3) ls rest m1 Φ) : EvP (d + 1) y pc ls (.ref a :: rest) (I, J, K, h) Φ := by
  obtain ⟨kd, hm, hkd, hl⟩ := hc
  have e : lv_args 0 ([.ref a]) = [(0, .ref a)] := by simp [lv_args, xcat_ref]
  obtain ⟨_, m1, g1, rfl, g2⟩ := k0
  obtain ⟨r, t, g3, g4⟩ := k1 m1 g2
  exact ⟨r, t, e_callV (As := []) (q := none) hd0 hs hm hkd rfl rfl (by simp; omega) hw (by rw [e]; exact g1) g3, g4⟩
theorem p_cV0l {idx mid : Nat} {ψ : Int64 → xMem → Prop} (hd0 : xdec y pc = some (cn, .invokevirtual idx, 3)) {a ci : Nat} (hs : h[a]? = some (.inl ci)) (hc : xCv cn idx ci mid 0)  (hw : (rest.map fun v => v.category).sum ≤ 8) (k0 : EvP d mid 0 [(0, .ref a)] [] (I, J, K, h) (QL ψ)) (k1 : ∀ (x : Int64) (m1 : xMem), ψ x m1 → EvP (d + 1) y (pc + 3) ls (.long x :: rest) m1 Φ) : EvP (d + 1) y pc ls (.ref a :: rest) (I, J, K, h) Φ := by
  obtain ⟨kd, hm, hkd, hl⟩ := hc
  have e : lv_args 0 ([.ref a]) = [(0, .ref a)] := by simp [lv_args, xcat_ref]
  obtain ⟨_, m1, g1, x, rfl, g2⟩ := k0
  obtain ⟨r, t, g3, g4⟩ := k1 x m1 g2
  exact ⟨r, t, e_callV (As := []) (q := some (.long x)) hd0 hs hm hkd rfl rfl (by simp; omega) hw (by rw [e]; exact g1) g3, g4⟩
theorem p_cV0r {idx mid : Nat} {ψ : Nat → xMem → Prop} (hd0 : xdec y pc = some (cn, .invokevirtual idx, 3)) {a ci : Nat} (hs : h[a]? = some (.inl ci)) (hc : xCv cn idx ci mid 0)  (hw : (rest.map fun v => v.category).sum ≤ 8) (k0 : EvP d mid 0 [(0, .ref a)] [] (I, J, K, h) (QR ψ)) (k1 : ∀ (x : Nat) (m1 : xMem), ψ x m1 → EvP (d + 1) y (pc + 3) ls (.ref x :: rest) m1 Φ) : EvP (d + 1) y pc ls (.ref a :: rest) (I, J, K, h) Φ := by
  obtain ⟨kd, hm, hkd, hl⟩ := hc
  have e : lv_args 0 ([.ref a]) = [(0, .ref a)] := by simp [lv_args, xcat_ref]
  obtain ⟨_, m1, g1, x, rfl, g2⟩ := k0
  obtain ⟨r, t, g3, g4⟩ := k1 x m1 g2
  exact ⟨r, t, e_callV (As := []) (q := some (.ref x)) hd0 hs hm hkd rfl rfl (by simp; omega) hw (by rw [e]; exact g1) g3, g4⟩
theorem p_cV1i {idx mid : Nat} {v1 : Value} {ψ : Int32 → xMem → Prop} (hd0 : xdec y pc = some (cn, .invokevirtual idx, 3)) {a ci : Nat} (hs : h[a]? = some (.inl ci)) (hc : xCv cn idx ci mid 1) (hv1 : v1.category = 1) (hw : (rest.map fun v => v.category).sum ≤ 8) (k0 : EvP d mid 0 [(0, .ref a), (1, v1)] [] (I, J, K, h) (QI ψ)) (k1 : ∀ (x : Int32) (m1 : xMem), ψ x m1 → EvP (d + 1) y (pc + 3) ls (.int x :: rest) m1 Φ) : EvP (d + 1) y pc ls (v1 :: .ref a :: rest) (I, J, K, h) Φ := by
  obtain ⟨kd, hm, hkd, hl⟩ := hc
  have e : lv_args 0 ([.ref a, v1]) = [(0, .ref a), (1, v1)] := by simp [lv_args, xcat_ref, hv1]
  obtain ⟨_, m1, g1, x, rfl, g2⟩ := k0
  obtain ⟨r, t, g3, g4⟩ := k1 x m1 g2
  exact ⟨r, t, e_callV (As := [v1]) (q := some (.int x)) hd0 hs hm hkd rfl rfl (by simp [hv1]; omega) hw (by rw [e]; exact g1) g3, g4⟩
theorem p_cV1v {idx mid : Nat} {v1 : Value} {ψ : xMem → Prop} (hd0 : xdec y pc = some (cn, .invokevirtual idx, 3)) {a ci : Nat} (hs : h[a]? = some (.inl ci)) (hc : xCv cn idx ci mid 1) (hv1 : v1.category = 1) (hw : (rest.map fun v => v.category).sum ≤ 8) (k0 : EvP d mid 0 [(0, .ref a), (1, v1)] [] (I, J, K, h) (QV ψ)) (k1 : ∀ (m1 : xMem), ψ m1 → EvP (d + 1) y (pc + 3) ls rest m1 Φ) : EvP (d + 1) y pc ls (v1 :: .ref a :: rest) (I, J, K, h) Φ := by
  obtain ⟨kd, hm, hkd, hl⟩ := hc
  have e : lv_args 0 ([.ref a, v1]) = [(0, .ref a), (1, v1)] := by simp [lv_args, xcat_ref, hv1]
  obtain ⟨_, m1, g1, rfl, g2⟩ := k0
  obtain ⟨r, t, g3, g4⟩ := k1 m1 g2
  exact ⟨r, t, e_callV (As := [v1]) (q := none) hd0 hs hm hkd rfl rfl (by simp [hv1]; omega) hw (by rw [e]; exact g1) g3, g4⟩
theorem p_cV1l {idx mid : Nat} {v1 : Value} {ψ : Int64 → xMem → Prop} (hd0 : xdec y pc = some (cn, .invokevirtual idx, 3)) {a ci : Nat} (hs : h[a]? = some (.inl ci)) (hc : xCv cn idx ci mid 1) (hv1 : v1.category = 1) (hw : (rest.map fun v => v.category).sum ≤ 8) (k0 : EvP d mid 0 [(0, .ref a), (1, v1)] [] (I, J, K, h) (QL ψ)) (k1 : ∀ (x : Int64) (m1 : xMem), ψ x m1 → EvP (d + 1) y (pc + 3) ls (.long x :: rest) m1 Φ) : EvP (d + 1) y pc ls (v1 :: .ref a :: rest) (I, J, K, h) Φ := by
  obtain ⟨kd, hm, hkd, hl⟩ := hc
  have e : lv_args 0 ([.ref a, v1]) = [(0, .ref a), (1, v1)] := by simp [lv_args, xcat_ref, hv1]
  obtain ⟨_, m1, g1, x, rfl, g2⟩ := k0
  obtain ⟨r, t, g3, g4⟩ := k1 x m1 g2
  exact ⟨r, t, e_callV (As := [v1]) (q := some (.long x)) hd0 hs hm hkd rfl rfl (by simp [hv1]; omega) hw (by rw [e]; exact g1) g3, g4⟩
theorem p_cV1r {idx mid : Nat} {v1 : Value} {ψ : Nat → xMem → Prop} (hd0 : xdec y pc = some (cn, .invokevirtual idx, 3)) {a ci : Nat} (hs : h[a]? = some (.inl ci)) (hc : xCv cn idx ci mid 1) (hv1 : v1.category = 1) (hw : (rest.map fun v => v.category).sum ≤ 8) (k0 : EvP d mid 0 [(0, .ref a), (1, v1)] [] (I, J, K, h) (QR ψ)) (k1 : ∀ (x : Nat) (m1 : xMem), ψ x m1 → EvP (d + 1) y (pc + 3) ls (.ref x :: rest) m1 Φ) : EvP (d + 1) y pc ls (v1 :: .ref a :: rest) (I, J, K, h) Φ := by
  obtain ⟨kd, hm, hkd, hl⟩ := hc
  have e : lv_args 0 ([.ref a, v1]) = [(0, .ref a), (1, v1)] := by simp [lv_args, xcat_ref, hv1]
  obtain ⟨_, m1, g1, x, rfl, g2⟩ := k0
  obtain ⟨r, t, g3, g4⟩ := k1 x m1 g2
  exact ⟨r, t, e_callV (As := [v1]) (q := some (.ref x)) hd0 hs hm hkd rfl rfl (by simp [hv1]; omega) hw (by rw [e]; exact g1) g3, g4⟩
theorem p_cV2i {idx mid : Nat} {v1 v2 : Value} {ψ : Int32 → xMem → Prop} (hd0 : xdec y pc = some (cn, .invokevirtual idx, 3)) {a ci : Nat} (hs : h[a]? = some (.inl ci)) (hc : xCv cn idx ci mid 2) (hv1 : v1.category = 1) (hv2 : v2.category = 1) (hw : (rest.map fun v => v.category).sum ≤ 8) (k0 : EvP d mid 0 [(0, .ref a), (1, v1), (2, v2)] [] (I, J, K, h) (QI ψ)) (k1 : ∀ (x : Int32) (m1 : xMem), ψ x m1 → EvP (d + 1) y (pc + 3) ls (.int x :: rest) m1 Φ) : EvP (d + 1) y pc ls (v2 :: v1 :: .ref a :: rest) (I, J, K, h) Φ := by
  obtain ⟨kd, hm, hkd, hl⟩ := hc
  have e : lv_args 0 ([.ref a, v1, v2]) = [(0, .ref a), (1, v1), (2, v2)] := by simp [lv_args, xcat_ref, hv1, hv2]
  obtain ⟨_, m1, g1, x, rfl, g2⟩ := k0
  obtain ⟨r, t, g3, g4⟩ := k1 x m1 g2
  exact ⟨r, t, e_callV (As := [v1, v2]) (q := some (.int x)) hd0 hs hm hkd rfl rfl (by simp [hv1, hv2]; omega) hw (by rw [e]; exact g1) g3, g4⟩
theorem p_cV2v {idx mid : Nat} {v1 v2 : Value} {ψ : xMem → Prop} (hd0 : xdec y pc = some (cn, .invokevirtual idx, 3)) {a ci : Nat} (hs : h[a]? = some (.inl ci)) (hc : xCv cn idx ci mid 2) (hv1 : v1.category = 1) (hv2 : v2.category = 1) (hw : (rest.map fun v => v.category).sum ≤ 8) (k0 : EvP d mid 0 [(0, .ref a), (1, v1), (2, v2)] [] (I, J, K, h) (QV ψ)) (k1 : ∀ (m1 : xMem), ψ m1 → EvP (d + 1) y (pc + 3) ls rest m1 Φ) : EvP (d + 1) y pc ls (v2 :: v1 :: .ref a :: rest) (I, J, K, h) Φ := by
  obtain ⟨kd, hm, hkd, hl⟩ := hc
  have e : lv_args 0 ([.ref a, v1, v2]) = [(0, .ref a), (1, v1), (2, v2)] := by simp [lv_args, xcat_ref, hv1, hv2]
  obtain ⟨_, m1, g1, rfl, g2⟩ := k0
  obtain ⟨r, t, g3, g4⟩ := k1 m1 g2
  exact ⟨r, t, e_callV (As := [v1, v2]) (q := none) hd0 hs hm hkd rfl rfl (by simp [hv1, hv2]; omega) hw (by rw [e]; exact g1) g3, g4⟩
theorem p_cV2l {idx mid : Nat} {v1 v2 : Value} {ψ : Int64 → xMem → Prop} (hd0 : xdec y pc = some (cn, .invokevirtual idx, 3)) {a ci : Nat} (hs : h[a]? = some (.inl ci)) (hc : xCv cn idx ci mid 2) (hv1 : v1.category = 1) (hv2 : v2.category = 1) (hw : (rest.map fun v => v.category).sum ≤ 8) (k0 : EvP d mid 0 [(0, .ref a), (1, v1), (2, v2)] [] (I, J, K, h) (QL ψ)) (k1 : ∀ (x : Int64) (m1 : xMem), ψ x m1 → EvP (d + 1) y (pc + 3) ls (.long x :: rest) m1 Φ) : EvP (d + 1) y pc ls (v2 :: v1 :: .ref a :: rest) (I, J, K, h) Φ := by
  obtain ⟨kd, hm, hkd, hl⟩ := hc
  have e : lv_args 0 ([.ref a, v1, v2]) = [(0, .ref a), (1, v1), (2, v2)] := by simp [lv_args, xcat_ref, hv1, hv2]
  obtain ⟨_, m1, g1, x, rfl, g2⟩ := k0
  obtain ⟨r, t, g3, g4⟩ := k1 x m1 g2
  exact ⟨r, t, e_callV (As := [v1, v2]) (q := some (.long x)) hd0 hs hm hkd rfl rfl (by simp [hv1, hv2]; omega) hw (by rw [e]; exact g1) g3, g4⟩
theorem p_cV2r {idx mid : Nat} {v1 v2 : Value} {ψ : Nat → xMem → Prop} (hd0 : xdec y pc = some (cn, .invokevirtual idx, 3)) {a ci : Nat} (hs : h[a]? = some (.inl ci)) (hc : xCv cn idx ci mid 2) (hv1 : v1.category = 1) (hv2 : v2.category = 1) (hw : (rest.map fun v => v.category).sum ≤ 8) (k0 : EvP d mid 0 [(0, .ref a), (1, v1), (2, v2)] [] (I, J, K, h) (QR ψ)) (k1 : ∀ (x : Nat) (m1 : xMem), ψ x m1 → EvP (d + 1) y (pc + 3) ls (.ref x :: rest) m1 Φ) : EvP (d + 1) y pc ls (v2 :: v1 :: .ref a :: rest) (I, J, K, h) Φ := by
  obtain ⟨kd, hm, hkd, hl⟩ := hc
  have e : lv_args 0 ([.ref a, v1, v2]) = [(0, .ref a), (1, v1), (2, v2)] := by simp [lv_args, xcat_ref, hv1, hv2]
  obtain ⟨_, m1, g1, x, rfl, g2⟩ := k0
  obtain ⟨r, t, g3, g4⟩ := k1 x m1 g2
  exact ⟨r, t, e_callV (As := [v1, v2]) (q := some (.ref x)) hd0 hs hm hkd rfl rfl (by simp [hv1, hv2]; omega) hw (by rw [e]; exact g1) g3, g4⟩
theorem p_cV3i {idx mid : Nat} {v1 v2 v3 : Value} {ψ : Int32 → xMem → Prop} (hd0 : xdec y pc = some (cn, .invokevirtual idx, 3)) {a ci : Nat} (hs : h[a]? = some (.inl ci)) (hc : xCv cn idx ci mid 3) (hv1 : v1.category = 1) (hv2 : v2.category = 1) (hv3 : v3.category = 1) (hw : (rest.map fun v => v.category).sum ≤ 8) (k0 : EvP d mid 0 [(0, .ref a), (1, v1), (2, v2), (3, v3)] [] (I, J, K, h) (QI ψ)) (k1 : ∀ (x : Int32) (m1 : xMem), ψ x m1 → EvP (d + 1) y (pc + 3) ls (.int x :: rest) m1 Φ) : EvP (d + 1) y pc ls (v3 :: v2 :: v1 :: .ref a :: rest) (I, J, K, h) Φ := by
  obtain ⟨kd, hm, hkd, hl⟩ := hc
  have e : lv_args 0 ([.ref a, v1, v2, v3]) = [(0, .ref a), (1, v1), (2, v2), (3, v3)] := by simp [lv_args, xcat_ref, hv1, hv2, hv3]
  obtain ⟨_, m1, g1, x, rfl, g2⟩ := k0
  obtain ⟨r, t, g3, g4⟩ := k1 x m1 g2
  exact ⟨r, t, e_callV (As := [v1, v2, v3]) (q := some (.int x)) hd0 hs hm hkd rfl rfl (by simp [hv1, hv2, hv3]; omega) hw (by rw [e]; exact g1) g3, g4⟩
theorem p_cV3v {idx mid : Nat} {v1 v2 v3 : Value} {ψ : xMem → Prop} (hd0 : xdec y pc = some (cn, .invokevirtual idx, 3)) {a ci : Nat} (hs : h[a]? = some (.inl ci)) (hc : xCv cn idx ci mid 3) (hv1 : v1.category = 1) (hv2 : v2.category = 1) (hv3 : v3.category = 1) (hw : (rest.map fun v => v.category).sum ≤ 8) (k0 : EvP d mid 0 [(0, .ref a), (1, v1), (2, v2), (3, v3)] [] (I, J, K, h) (QV ψ)) (k1 : ∀ (m1 : xMem), ψ m1 → EvP (d + 1) y (pc + 3) ls rest m1 Φ) : EvP (d + 1) y pc ls (v3 :: v2 :: v1 :: .ref a :: rest) (I, J, K, h) Φ := by
  obtain ⟨kd, hm, hkd, hl⟩ := hc
  have e : lv_args 0 ([.ref a, v1, v2, v3]) = [(0, .ref a), (1, v1), (2, v2), (3, v3)] := by simp [lv_args, xcat_ref, hv1, hv2, hv3]
  obtain ⟨_, m1, g1, rfl, g2⟩ := k0
  obtain ⟨r, t, g3, g4⟩ := k1 m1 g2
  exact ⟨r, t, e_callV (As := [v1, v2, v3]) (q := none) hd0 hs hm hkd rfl rfl (by simp [hv1, hv2, hv3]; omega) hw (by rw [e]; exact g1) g3, g4⟩
theorem p_cV3l {idx mid : Nat} {v1 v2 v3 : Value} {ψ : Int64 → xMem → Prop} (hd0 : xdec y pc = some (cn, .invokevirtual idx, 3)) {a ci : Nat} (hs : h[a]? = some (.inl ci)) (hc : xCv cn idx ci mid 3) (hv1 : v1.category = 1) (hv2 : v2.category = 1) (hv3 : v3.category = 1) (hw : (rest.map fun v => v.category).sum ≤ 8) (k0 : EvP d mid 0 [(0, .ref a), (1, v1), (2, v2), (3, v3)] [] (I, J, K, h) (QL ψ)) (k1 : ∀ (x : Int64) (m1 : xMem), ψ x m1 → EvP (d + 1) y (pc + 3) ls (.long x :: rest) m1 Φ) : EvP (d + 1) y pc ls (v3 :: v2 :: v1 :: .ref a :: rest) (I, J, K, h) Φ := by
  obtain ⟨kd, hm, hkd, hl⟩ := hc
  have e : lv_args 0 ([.ref a, v1, v2, v3]) = [(0, .ref a), (1, v1), (2, v2), (3, v3)] := by simp [lv_args, xcat_ref, hv1, hv2, hv3]
  obtain ⟨_, m1, g1, x, rfl, g2⟩ := k0
  obtain ⟨r, t, g3, g4⟩ := k1 x m1 g2
  exact ⟨r, t, e_callV (As := [v1, v2, v3]) (q := some (.long x)) hd0 hs hm hkd rfl rfl (by simp [hv1, hv2, hv3]; omega) hw (by rw [e]; exact g1) g3, g4⟩
theorem p_cV3r {idx mid : Nat} {v1 v2 v3 : Value} {ψ : Nat → xMem → Prop} (hd0 : xdec y pc = some (cn, .invokevirtual idx, 3)) {a ci : Nat} (hs : h[a]? = some (.inl ci)) (hc : xCv cn idx ci mid 3) (hv1 : v1.category = 1) (hv2 : v2.category = 1) (hv3 : v3.category = 1) (hw : (rest.map fun v => v.category).sum ≤ 8) (k0 : EvP d mid 0 [(0, .ref a), (1, v1), (2, v2), (3, v3)] [] (I, J, K, h) (QR ψ)) (k1 : ∀ (x : Nat) (m1 : xMem), ψ x m1 → EvP (d + 1) y (pc + 3) ls (.ref x :: rest) m1 Φ) : EvP (d + 1) y pc ls (v3 :: v2 :: v1 :: .ref a :: rest) (I, J, K, h) Φ := by
  obtain ⟨kd, hm, hkd, hl⟩ := hc
  have e : lv_args 0 ([.ref a, v1, v2, v3]) = [(0, .ref a), (1, v1), (2, v2), (3, v3)] := by simp [lv_args, xcat_ref, hv1, hv2, hv3]
  obtain ⟨_, m1, g1, x, rfl, g2⟩ := k0
  obtain ⟨r, t, g3, g4⟩ := k1 x m1 g2
  exact ⟨r, t, e_callV (As := [v1, v2, v3]) (q := some (.ref x)) hd0 hs hm hkd rfl rfl (by simp [hv1, hv2, hv3]; omega) hw (by rw [e]; exact g1) g3, g4⟩
theorem p_cV4i {idx mid : Nat} {v1 v2 v3 v4 : Value} {ψ : Int32 → xMem → Prop} (hd0 : xdec y pc = some (cn, .invokevirtual idx, 3)) {a ci : Nat} (hs : h[a]? = some (.inl ci)) (hc : xCv cn idx ci mid 4) (hv1 : v1.category = 1) (hv2 : v2.category = 1) (hv3 : v3.category = 1) (hv4 : v4.category = 1) (hw : (rest.map fun v => v.category).sum ≤ 8) (k0 : EvP d mid 0 [(0, .ref a), (1, v1), (2, v2), (3, v3), (4, v4)] [] (I, J, K, h) (QI ψ)) (k1 : ∀ (x : Int32) (m1 : xMem), ψ x m1 → EvP (d + 1) y (pc + 3) ls (.int x :: rest) m1 Φ) : EvP (d + 1) y pc ls (v4 :: v3 :: v2 :: v1 :: .ref a :: rest) (I, J, K, h) Φ := by
  obtain ⟨kd, hm, hkd, hl⟩ := hc
  have e : lv_args 0 ([.ref a, v1, v2, v3, v4]) = [(0, .ref a), (1, v1), (2, v2), (3, v3), (4, v4)] := by simp [lv_args, xcat_ref, hv1, hv2, hv3, hv4]
  obtain ⟨_, m1, g1, x, rfl, g2⟩ := k0
  obtain ⟨r, t, g3, g4⟩ := k1 x m1 g2
  exact ⟨r, t, e_callV (As := [v1, v2, v3, v4]) (q := some (.int x)) hd0 hs hm hkd rfl rfl (by simp [hv1, hv2, hv3, hv4]; omega) hw (by rw [e]; exact g1) g3, g4⟩
theorem p_cV4v {idx mid : Nat} {v1 v2 v3 v4 : Value} {ψ : xMem → Prop} (hd0 : xdec y pc = some (cn, .invokevirtual idx, 3)) {a ci : Nat} (hs : h[a]? = some (.inl ci)) (hc : xCv cn idx ci mid 4) (hv1 : v1.category = 1) (hv2 : v2.category = 1) (hv3 : v3.category = 1) (hv4 : v4.category = 1) (hw : (rest.map fun v => v.category).sum ≤ 8) (k0 : EvP d mid 0 [(0, .ref a), (1, v1), (2, v2), (3, v3), (4, v4)] [] (I, J, K, h) (QV ψ)) (k1 : ∀ (m1 : xMem), ψ m1 → EvP (d + 1) y (pc + 3) ls rest m1 Φ) : EvP (d + 1) y pc ls (v4 :: v3 :: v2 :: v1 :: .ref a :: rest) (I, J, K, h) Φ := by
  obtain ⟨kd, hm, hkd, hl⟩ := hc
  have e : lv_args 0 ([.ref a, v1, v2, v3, v4]) = [(0, .ref a), (1, v1), (2, v2), (3, v3), (4, v4)] := by simp [lv_args, xcat_ref, hv1, hv2, hv3, hv4]
  obtain ⟨_, m1, g1, rfl, g2⟩ := k0
  obtain ⟨r, t, g3, g4⟩ := k1 m1 g2
  exact ⟨r, t, e_callV (As := [v1, v2, v3, v4]) (q := none) hd0 hs hm hkd rfl rfl (by simp [hv1, hv2, hv3, hv4]; omega) hw (by rw [e]; exact g1) g3, g4⟩
theorem p_cV4l {idx mid : Nat} {v1 v2 v3 v4 : Value} {ψ : Int64 → xMem → Prop} (hd0 : xdec y pc = some (cn, .invokevirtual idx, 3)) {a ci : Nat} (hs : h[a]? = some (.inl ci)) (hc : xCv cn idx ci mid 4) (hv1 : v1.category = 1) (hv2 : v2.category = 1) (hv3 : v3.category = 1) (hv4 : v4.category = 1) (hw : (rest.map fun v => v.category).sum ≤ 8) (k0 : EvP d mid 0 [(0, .ref a), (1, v1), (2, v2), (3, v3), (4, v4)] [] (I, J, K, h) (QL ψ)) (k1 : ∀ (x : Int64) (m1 : xMem), ψ x m1 → EvP (d + 1) y (pc + 3) ls (.long x :: rest) m1 Φ) : EvP (d + 1) y pc ls (v4 :: v3 :: v2 :: v1 :: .ref a :: rest) (I, J, K, h) Φ := by
  obtain ⟨kd, hm, hkd, hl⟩ := hc
  have e : lv_args 0 ([.ref a, v1, v2, v3, v4]) = [(0, .ref a), (1, v1), (2, v2), (3, v3), (4, v4)] := by simp [lv_args, xcat_ref, hv1, hv2, hv3, hv4]
  obtain ⟨_, m1, g1, x, rfl, g2⟩ := k0
  obtain ⟨r, t, g3, g4⟩ := k1 x m1 g2
  exact ⟨r, t, e_callV (As := [v1, v2, v3, v4]) (q := some (.long x)) hd0 hs hm hkd rfl rfl (by simp [hv1, hv2, hv3, hv4]; omega) hw (by rw [e]; exact g1) g3, g4⟩
theorem p_cV4r {idx mid : Nat} {v1 v2 v3 v4 : Value} {ψ : Nat → xMem → Prop} (hd0 : xdec y pc = some (cn, .invokevirtual idx, 3)) {a ci : Nat} (hs : h[a]? = some (.inl ci)) (hc : xCv cn idx ci mid 4) (hv1 : v1.category = 1) (hv2 : v2.category = 1) (hv3 : v3.category = 1) (hv4 : v4.category = 1) (hw : (rest.map fun v => v.category).sum ≤ 8) (k0 : EvP d mid 0 [(0, .ref a), (1, v1), (2, v2), (3, v3), (4, v4)] [] (I, J, K, h) (QR ψ)) (k1 : ∀ (x : Nat) (m1 : xMem), ψ x m1 → EvP (d + 1) y (pc + 3) ls (.ref x :: rest) m1 Φ) : EvP (d + 1) y pc ls (v4 :: v3 :: v2 :: v1 :: .ref a :: rest) (I, J, K, h) Φ := by
  obtain ⟨kd, hm, hkd, hl⟩ := hc
  have e : lv_args 0 ([.ref a, v1, v2, v3, v4]) = [(0, .ref a), (1, v1), (2, v2), (3, v3), (4, v4)] := by simp [lv_args, xcat_ref, hv1, hv2, hv3, hv4]
  obtain ⟨_, m1, g1, x, rfl, g2⟩ := k0
  obtain ⟨r, t, g3, g4⟩ := k1 x m1 g2
  exact ⟨r, t, e_callV (As := [v1, v2, v3, v4]) (q := some (.ref x)) hd0 hs hm hkd rfl rfl (by simp [hv1, hv2, hv3, hv4]; omega) hw (by rw [e]; exact g1) g3, g4⟩
theorem p_cV5i {idx mid : Nat} {v1 v2 v3 v4 v5 : Value} {ψ : Int32 → xMem → Prop} (hd0 : xdec y pc = some (cn, .invokevirtual idx, 3)) {a ci : Nat} (hs : h[a]? = some (.inl ci)) (hc : xCv cn idx ci mid 5) (hv1 : v1.category = 1) (hv2 : v2.category = 1) (hv3 : v3.category = 1) (hv4 : v4.category = 1) (hv5 : v5.category = 1) (hw : (rest.map fun v => v.category).sum ≤ 8) (k0 : EvP d mid 0 [(0, .ref a), (1, v1), (2, v2), (3, v3), (4, v4), (5, v5)] [] (I, J, K, h) (QI ψ)) (k1 : ∀ (x : Int32) (m1 : xMem), ψ x m1 → EvP (d + 1) y (pc + 3) ls (.int x :: rest) m1 Φ) : EvP (d + 1) y pc ls (v5 :: v4 :: v3 :: v2 :: v1 :: .ref a :: rest) (I, J, K, h) Φ := by
  obtain ⟨kd, hm, hkd, hl⟩ := hc
  have e : lv_args 0 ([.ref a, v1, v2, v3, v4, v5]) = [(0, .ref a), (1, v1), (2, v2), (3, v3), (4, v4), (5, v5)] := by simp [lv_args, xcat_ref, hv1, hv2, hv3, hv4, hv5]
  obtain ⟨_, m1, g1, x, rfl, g2⟩ := k0
  obtain ⟨r, t, g3, g4⟩ := k1 x m1 g2
  exact ⟨r, t, e_callV (As := [v1, v2, v3, v4, v5]) (q := some (.int x)) hd0 hs hm hkd rfl rfl (by simp [hv1, hv2, hv3, hv4, hv5]; omega) hw (by rw [e]; exact g1) g3, g4⟩
theorem p_cV5v {idx mid : Nat} {v1 v2 v3 v4 v5 : Value} {ψ : xMem → Prop} (hd0 : xdec y pc = some (cn, .invokevirtual idx, 3)) {a ci : Nat} (hs : h[a]? = some (.inl ci)) (hc : xCv cn idx ci mid 5) (hv1 : v1.category = 1) (hv2 : v2.category = 1) (hv3 : v3.category = 1) (hv4 : v4.category = 1) (hv5 : v5.category = 1) (hw : (rest.map fun v => v.category).sum ≤ 8) (k0 : EvP d mid 0 [(0, .ref a), (1, v1), (2, v2), (3, v3), (4, v4), (5, v5)] [] (I, J, K, h) (QV ψ)) (k1 : ∀ (m1 : xMem), ψ m1 → EvP (d + 1) y (pc + 3) ls rest m1 Φ) : EvP (d + 1) y pc ls (v5 :: v4 :: v3 :: v2 :: v1 :: .ref a :: rest) (I, J, K, h) Φ := by
  obtain ⟨kd, hm, hkd, hl⟩ := hc
  have e : lv_args 0 ([.ref a, v1, v2, v3, v4, v5]) = [(0, .ref a), (1, v1), (2, v2), (3, v3), (4, v4), (5, v5)] := by simp [lv_args, xcat_ref, hv1, hv2, hv3, hv4, hv5]
  obtain ⟨_, m1, g1, rfl, g2⟩ := k0
  obtain ⟨r, t, g3, g4⟩ := k1 m1 g2
  exact ⟨r, t, e_callV (As := [v1, v2, v3, v4, v5]) (q := none) hd0 hs hm hkd rfl rfl (by simp [hv1, hv2, hv3, hv4, hv5]; omega) hw (by rw [e]; exact g1) g3, g4⟩
theorem p_cV5l {idx mid : Nat} {v1 v2 v3 v4 v5 : Value} {ψ : Int64 → xMem → Prop} (hd0 : xdec y pc = some (cn, .invokevirtual idx, 3)) {a ci : Nat} (hs : h[a]? = some (.inl ci)) (hc : xCv cn idx ci mid 5) (hv1 : v1.category = 1) (hv2 : v2.category = 1) (hv3 : v3.category = 1) (hv4 : v4.category = 1) (hv5 : v5.category = 1) (hw : (rest.map fun v => v.category).sum ≤ 8) (k0 : EvP d mid 0 [(0, .ref a), (1, v1), (2, v2), (3, v3), (4, v4), (5, v5)] [] (I, J, K, h) (QL ψ)) (k1 : ∀ (x : Int64) (m1 : xMem), ψ x m1 → EvP (d + 1) y (pc + 3) ls (.long x :: rest) m1 Φ) : EvP (d + 1) y pc ls (v5 :: v4 :: v3 :: v2 :: v1 :: .ref a :: rest) (I, J, K, h) Φ := by
  obtain ⟨kd, hm, hkd, hl⟩ := hc
  have e : lv_args 0 ([.ref a, v1, v2, v3, v4, v5]) = [(0, .ref a), (1, v1), (2, v2), (3, v3), (4, v4), (5, v5)] := by simp [lv_args, xcat_ref, hv1, hv2, hv3, hv4, hv5]
  obtain ⟨_, m1, g1, x, rfl, g2⟩ := k0
  obtain ⟨r, t, g3, g4⟩ := k1 x m1 g2
  exact ⟨r, t, e_callV (As := [v1, v2, v3, v4, v5]) (q := some (.long x)) hd0 hs hm hkd rfl rfl (by simp [hv1, hv2, hv3, hv4, hv5]; omega) hw (by rw [e]; exact g1) g3, g4⟩
theorem p_cV5r {idx mid : Nat} {v1 v2 v3 v4 v5 : Value} {ψ : Nat → xMem → Prop} (hd0 : xdec y pc = some (cn, .invokevirtual idx, 3)) {a ci : Nat} (hs : h[a]? = some (.inl ci)) (hc : xCv cn idx ci mid 5) (hv1 : v1.category = 1) (hv2 : v2.category = 1) (hv3 : v3.category = 1) (hv4 : v4.category = 1) (hv5 : v5.category = 1) (hw : (rest.map fun v => v.category).sum ≤ 8) (k0 : EvP d mid 0 [(0, .ref a), (1, v1), (2, v2), (3, v3), (4, v4), (5, v5)] [] (I, J, K, h) (QR ψ)) (k1 : ∀ (x : Nat) (m1 : xMem), ψ x m1 → EvP (d + 1) y (pc + 3) ls (.ref x :: rest) m1 Φ) : EvP (d + 1) y pc ls (v5 :: v4 :: v3 :: v2 :: v1 :: .ref a :: rest) (I, J, K, h) Φ := by
  obtain ⟨kd, hm, hkd, hl⟩ := hc
  have e : lv_args 0 ([.ref a, v1, v2, v3, v4, v5]) = [(0, .ref a), (1, v1), (2, v2), (3, v3), (4, v4), (5, v5)] := by simp [lv_args, xcat_ref, hv1, hv2, hv3, hv4, hv5]
  obtain ⟨_, m1, g1, x, rfl, g2⟩ := k0
  obtain ⟨r, t, g3, g4⟩ := k1 x m1 g2
  exact ⟨r, t, e_callV (As := [v1, v2, v3, v4, v5]) (q := some (.ref x)) hd0 hs hm hkd rfl rfl (by simp [hv1, hv2, hv3, hv4, hv5]; omega) hw (by rw [e]; exact g1) g3, g4⟩
theorem p_cV3Li {idx mid : Nat} {v1 v2 v3 : Value} {ψ : Int32 → xMem → Prop} (hd0 : xdec y pc = some (cn, .invokevirtual idx, 3)) {a ci : Nat} (hs : h[a]? = some (.inl ci)) (hc : xCv cn idx ci mid 3) (hl2 : 5 ≤ xml mid) (hv1 : v1.category = 1) (hv2 : v2.category = 1) (hv3 : v3.category = 2) (hw : (rest.map fun v => v.category).sum ≤ 8) (k0 : EvP d mid 0 [(0, .ref a), (1, v1), (2, v2), (3, v3)] [] (I, J, K, h) (QI ψ)) (k1 : ∀ (x : Int32) (m1 : xMem), ψ x m1 → EvP (d + 1) y (pc + 3) ls (.int x :: rest) m1 Φ) : EvP (d + 1) y pc ls (v3 :: v2 :: v1 :: .ref a :: rest) (I, J, K, h) Φ := by
  obtain ⟨kd, hm, hkd, hl⟩ := hc
  have e : lv_args 0 ([.ref a, v1, v2, v3]) = [(0, .ref a), (1, v1), (2, v2), (3, v3)] := by simp [lv_args, xcat_ref, hv1, hv2, hv3]
  obtain ⟨_, m1, g1, x, rfl, g2⟩ := k0
  obtain ⟨r, t, g3, g4⟩ := k1 x m1 g2
  exact ⟨r, t, e_callV (As := [v1, v2, v3]) (q := some (.int x)) hd0 hs hm hkd rfl rfl (by simp [hv1, hv2, hv3]; omega) hw (by rw [e]; exact g1) g3, g4⟩
theorem p_cS1i {idx mid : Nat} {v1 : Value} {ψ : Int32 → xMem → Prop} (hd0 : xdec y pc = some (cn, .invokestatic idx, 3)) (hc : xCs cn idx mid 1) (hv1 : v1.category = 1) (hw : (rest.map fun v => v.category).sum ≤ 8) (k0 : EvP d mid 0 [(0, v1)] [] (I, J, K, h) (QI ψ)) (k1 : ∀ (x : Int32) (m1 : xMem), ψ x m1 → EvP (d + 1) y (pc + 3) ls (.int x :: rest) m1 Φ) : EvP (d + 1) y pc ls (v1 :: rest) (I, J, K, h) Φ := by
  obtain ⟨kd, hm, hkd, hl⟩ := hc
  have e : lv_args 0 ([v1]) = [(0, v1)] := by simp [lv_args, xcat_ref, hv1]
  obtain ⟨_, m1, g1, x, rfl, g2⟩ := k0
  obtain ⟨r, t, g3, g4⟩ := k1 x m1 g2
  exact ⟨r, t, e_callS (As := [v1]) (q := some (.int x)) hd0 hm hkd rfl rfl (by simp [hv1]; omega) hw (by rw [e]; exact g1) g3, g4⟩
theorem p_cS1v {idx mid : Nat} {v1 : Value} {ψ : xMem → Prop} (hd0 : xdec y pc = some (cn, .invokestatic idx, 3)) (hc : xCs cn idx mid 1) (hv1 : v1.category = 1) (hw : (rest.map fun v => v.category).sum ≤ 8) (k0 : EvP d mid 0 [(0, v1)] [] (I, J, K, h) (QV ψ)) (k1 : ∀ (m1 : xMem), ψ m1 → EvP (d + 1) y (pc + 3) ls rest m1 Φ) : EvP (d + 1) y pc ls (v1 :: rest) (I, J, K, h) Φ := by
  obtain ⟨kd, hm, hkd, hl⟩ := hc
  have e : lv_args 0 ([v1]) = [(0, v1)] := by simp [lv_args, xcat_ref, hv1]
  obtain ⟨_, m1, g1, rfl, g2⟩ := k0
  obtain ⟨r, t, g3, g4⟩ := k1 m1 g2
  exact ⟨r, t, e_callS (As := [v1]) (q := none) hd0 hm hkd rfl rfl (by simp [hv1]; omega) hw (by rw [e]; exact g1) g3, g4⟩
theorem p_cS2i {idx mid : Nat} {v1 v2 : Value} {ψ : Int32 → xMem → Prop} (hd0 : xdec y pc = some (cn, .invokestatic idx, 3)) (hc : xCs cn idx mid 2) (hv1 : v1.category = 1) (hv2 : v2.category = 1) (hw : (rest.map fun v => v.category).sum ≤ 8) (k0 : EvP d mid 0 [(0, v1), (1, v2)] [] (I, J, K, h) (QI ψ)) (k1 : ∀ (x : Int32) (m1 : xMem), ψ x m1 → EvP (d + 1) y (pc + 3) ls (.int x :: rest) m1 Φ) : EvP (d + 1) y pc ls (v2 :: v1 :: rest) (I, J, K, h) Φ := by
  obtain ⟨kd, hm, hkd, hl⟩ := hc
  have e : lv_args 0 ([v1, v2]) = [(0, v1), (1, v2)] := by simp [lv_args, xcat_ref, hv1, hv2]
  obtain ⟨_, m1, g1, x, rfl, g2⟩ := k0
  obtain ⟨r, t, g3, g4⟩ := k1 x m1 g2
  exact ⟨r, t, e_callS (As := [v1, v2]) (q := some (.int x)) hd0 hm hkd rfl rfl (by simp [hv1, hv2]; omega) hw (by rw [e]; exact g1) g3, g4⟩
theorem p_cS2v {idx mid : Nat} {v1 v2 : Value} {ψ : xMem → Prop} (hd0 : xdec y pc = some (cn, .invokestatic idx, 3)) (hc : xCs cn idx mid 2) (hv1 : v1.category = 1) (hv2 : v2.category = 1) (hw : (rest.map fun v => v.category).sum ≤ 8) (k0 : EvP d mid 0 [(0, v1), (1, v2)] [] (I, J, K, h) (QV ψ)) (k1 : ∀ (m1 : xMem), ψ m1 → EvP (d + 1) y (pc + 3) ls rest m1 Φ) : EvP (d + 1) y pc ls (v2 :: v1 :: rest) (I, J, K, h) Φ := by
  obtain ⟨kd, hm, hkd, hl⟩ := hc
  have e : lv_args 0 ([v1, v2]) = [(0, v1), (1, v2)] := by simp [lv_args, xcat_ref, hv1, hv2]
  obtain ⟨_, m1, g1, rfl, g2⟩ := k0
  obtain ⟨r, t, g3, g4⟩ := k1 m1 g2
  exact ⟨r, t, e_callS (As := [v1, v2]) (q := none) hd0 hm hkd rfl rfl (by simp [hv1, hv2]; omega) hw (by rw [e]; exact g1) g3, g4⟩
theorem p_cS3i {idx mid : Nat} {v1 v2 v3 : Value} {ψ : Int32 → xMem → Prop} (hd0 : xdec y pc = some (cn, .invokestatic idx, 3)) (hc : xCs cn idx mid 3) (hv1 : v1.category = 1) (hv2 : v2.category = 1) (hv3 : v3.category = 1) (hw : (rest.map fun v => v.category).sum ≤ 8) (k0 : EvP d mid 0 [(0, v1), (1, v2), (2, v3)] [] (I, J, K, h) (QI ψ)) (k1 : ∀ (x : Int32) (m1 : xMem), ψ x m1 → EvP (d + 1) y (pc + 3) ls (.int x :: rest) m1 Φ) : EvP (d + 1) y pc ls (v3 :: v2 :: v1 :: rest) (I, J, K, h) Φ := by
  obtain ⟨kd, hm, hkd, hl⟩ := hc
  have e : lv_args 0 ([v1, v2, v3]) = [(0, v1), (1, v2), (2, v3)] := by simp [lv_args, xcat_ref, hv1, hv2, hv3]
  obtain ⟨_, m1, g1, x, rfl, g2⟩ := k0
  obtain ⟨r, t, g3, g4⟩ := k1 x m1 g2
  exact ⟨r, t, e_callS (As := [v1, v2, v3]) (q := some (.int x)) hd0 hm hkd rfl rfl (by simp [hv1, hv2, hv3]; omega) hw (by rw [e]; exact g1) g3, g4⟩
theorem p_cS3v {idx mid : Nat} {v1 v2 v3 : Value} {ψ : xMem → Prop} (hd0 : xdec y pc = some (cn, .invokestatic idx, 3)) (hc : xCs cn idx mid 3) (hv1 : v1.category = 1) (hv2 : v2.category = 1) (hv3 : v3.category = 1) (hw : (rest.map fun v => v.category).sum ≤ 8) (k0 : EvP d mid 0 [(0, v1), (1, v2), (2, v3)] [] (I, J, K, h) (QV ψ)) (k1 : ∀ (m1 : xMem), ψ m1 → EvP (d + 1) y (pc + 3) ls rest m1 Φ) : EvP (d + 1) y pc ls (v3 :: v2 :: v1 :: rest) (I, J, K, h) Φ := by
  obtain ⟨kd, hm, hkd, hl⟩ := hc
  have e : lv_args 0 ([v1, v2, v3]) = [(0, v1), (1, v2), (2, v3)] := by simp [lv_args, xcat_ref, hv1, hv2, hv3]
  obtain ⟨_, m1, g1, rfl, g2⟩ := k0
  obtain ⟨r, t, g3, g4⟩ := k1 m1 g2
  exact ⟨r, t, e_callS (As := [v1, v2, v3]) (q := none) hd0 hm hkd rfl rfl (by simp [hv1, hv2, hv3]; omega) hw (by rw [e]; exact g1) g3, g4⟩
theorem p_cS4i {idx mid : Nat} {v1 v2 v3 v4 : Value} {ψ : Int32 → xMem → Prop} (hd0 : xdec y pc = some (cn, .invokestatic idx, 3)) (hc : xCs cn idx mid 4) (hv1 : v1.category = 1) (hv2 : v2.category = 1) (hv3 : v3.category = 1) (hv4 : v4.category = 1) (hw : (rest.map fun v => v.category).sum ≤ 8) (k0 : EvP d mid 0 [(0, v1), (1, v2), (2, v3), (3, v4)] [] (I, J, K, h) (QI ψ)) (k1 : ∀ (x : Int32) (m1 : xMem), ψ x m1 → EvP (d + 1) y (pc + 3) ls (.int x :: rest) m1 Φ) : EvP (d + 1) y pc ls (v4 :: v3 :: v2 :: v1 :: rest) (I, J, K, h) Φ := by
  obtain ⟨kd, hm, hkd, hl⟩ := hc
  have e : lv_args 0 ([v1, v2, v3, v4]) = [(0, v1), (1, v2), (2, v3), (3, v4)] := by simp [lv_args, xcat_ref, hv1, hv2, hv3, hv4]
  obtain ⟨_, m1, g1, x, rfl, g2⟩ := k0
  obtain ⟨r, t, g3, g4⟩ := k1 x m1 g2
  exact ⟨r, t, e_callS (As := [v1, v2, v3, v4]) (q := some (.int x)) hd0 hm hkd rfl rfl (by simp [hv1, hv2, hv3, hv4]; omega) hw (by rw [e]; exact g1) g3, g4⟩
theorem p_cS4v {idx mid : Nat} {v1 v2 v3 v4 : Value} {ψ : xMem → Prop} (hd0 : xdec y pc = some (cn, .invokestatic idx, 3)) (hc : xCs cn idx mid 4) (hv1 : v1.category = 1) (hv2 : v2.category = 1) (hv3 : v3.category = 1) (hv4 : v4.category = 1) (hw : (rest.map fun v => v.category).sum ≤ 8) (k0 : EvP d mid 0 [(0, v1), (1, v2), (2, v3), (3, v4)] [] (I, J, K, h) (QV ψ)) (k1 : ∀ (m1 : xMem), ψ m1 → EvP (d + 1) y (pc + 3) ls rest m1 Φ) : EvP (d + 1) y pc ls (v4 :: v3 :: v2 :: v1 :: rest) (I, J, K, h) Φ := by
  obtain ⟨kd, hm, hkd, hl⟩ := hc
  have e : lv_args 0 ([v1, v2, v3, v4]) = [(0, v1), (1, v2), (2, v3), (3, v4)] := by simp [lv_args, xcat_ref, hv1, hv2, hv3, hv4]
  obtain ⟨_, m1, g1, rfl, g2⟩ := k0
  obtain ⟨r, t, g3, g4⟩ := k1 m1 g2
  exact ⟨r, t, e_callS (As := [v1, v2, v3, v4]) (q := none) hd0 hm hkd rfl rfl (by simp [hv1, hv2, hv3, hv4]; omega) hw (by rw [e]; exact g1) g3, g4⟩
theorem p_cI0v {idx mid : Nat} {ψ : xMem → Prop} (hd0 : xdec y pc = some (cn, .invokespecial idx, 3)) {a : Nat} (hc : xCi cn idx mid 0)  (hw : (rest.map fun v => v.category).sum ≤ 8) (k0 : EvP d mid 0 [(0, .ref a)] [] (I, J, K, h) (QV ψ)) (k1 : ∀ (m1 : xMem), ψ m1 → EvP (d + 1) y (pc + 3) ls rest m1 Φ) : EvP (d + 1) y pc ls (.ref a :: rest) (I, J, K, h) Φ := by
  obtain ⟨kd, hm, hkd, hl⟩ := hc
  have e : lv_args 0 ([.ref a]) = [(0, .ref a)] := by simp [lv_args, xcat_ref]
  obtain ⟨_, m1, g1, rfl, g2⟩ := k0
  obtain ⟨r, t, g3, g4⟩ := k1 m1 g2
  exact ⟨r, t, e_callI (As := []) (q := none) hd0 hm hkd rfl rfl (by simp; omega) hw (by rw [e]; exact g1) g3, g4⟩
theorem p_cI1v {idx mid : Nat} {v1 : Value} {ψ : xMem → Prop} (hd0 : xdec y pc = some (cn, .invokespecial idx, 3)) {a : Nat} (hc : xCi cn idx mid 1) (hv1 : v1.category = 1) (hw : (rest.map fun v => v.category).sum ≤ 8) (k0 : EvP d mid 0 [(0, .ref a), (1, v1)] [] (I, J, K, h) (QV ψ)) (k1 : ∀ (m1 : xMem), ψ m1 → EvP (d + 1) y (pc + 3) ls rest m1 Φ) : EvP (d + 1) y pc ls (v1 :: .ref a :: rest) (I, J, K, h) Φ := by
  obtain ⟨kd, hm, hkd, hl⟩ := hc
  have e : lv_args 0 ([.ref a, v1]) = [(0, .ref a), (1, v1)] := by simp [lv_args, xcat_ref, hv1]
  obtain ⟨_, m1, g1, rfl, g2⟩ := k0
  obtain ⟨r, t, g3, g4⟩ := k1 m1 g2
  exact ⟨r, t, e_callI (As := [v1]) (q := none) hd0 hm hkd rfl rfl (by simp [hv1]; omega) hw (by rw [e]; exact g1) g3, g4⟩
theorem p_cI2v {idx mid : Nat} {v1 v2 : Value} {ψ : xMem → Prop} (hd0 : xdec y pc = some (cn, .invokespecial idx, 3)) {a : Nat} (hc : xCi cn idx mid 2) (hv1 : v1.category = 1) (hv2 : v2.category = 1) (hw : (rest.map fun v => v.category).sum ≤ 8) (k0 : EvP d mid 0 [(0, .ref a), (1, v1), (2, v2)] [] (I, J, K, h) (QV ψ)) (k1 : ∀ (m1 : xMem), ψ m1 → EvP (d + 1) y (pc + 3) ls rest m1 Φ) : EvP (d + 1) y pc ls (v2 :: v1 :: .ref a :: rest) (I, J, K, h) Φ := by
  obtain ⟨kd, hm, hkd, hl⟩ := hc
  have e : lv_args 0 ([.ref a, v1, v2]) = [(0, .ref a), (1, v1), (2, v2)] := by simp [lv_args, xcat_ref, hv1, hv2]
  obtain ⟨_, m1, g1, rfl, g2⟩ := k0
  obtain ⟨r, t, g3, g4⟩ := k1 m1 g2
  exact ⟨r, t, e_callI (As := [v1, v2]) (q := none) hd0 hm hkd rfl rfl (by simp [hv1, hv2]; omega) hw (by rw [e]; exact g1) g3, g4⟩
theorem p_cI3v {idx mid : Nat} {v1 v2 v3 : Value} {ψ : xMem → Prop} (hd0 : xdec y pc = some (cn, .invokespecial idx, 3)) {a : Nat} (hc : xCi cn idx mid 3) (hv1 : v1.category = 1) (hv2 : v2.category = 1) (hv3 : v3.category = 1) (hw : (rest.map fun v => v.category).sum ≤ 8) (k0 : EvP d mid 0 [(0, .ref a), (1, v1), (2, v2), (3, v3)] [] (I, J, K, h) (QV ψ)) (k1 : ∀ (m1 : xMem), ψ m1 → EvP (d + 1) y (pc + 3) ls rest m1 Φ) : EvP (d + 1) y pc ls (v3 :: v2 :: v1 :: .ref a :: rest) (I, J, K, h) Φ := by
  obtain ⟨kd, hm, hkd, hl⟩ := hc
  have e : lv_args 0 ([.ref a, v1, v2, v3]) = [(0, .ref a), (1, v1), (2, v2), (3, v3)] := by simp [lv_args, xcat_ref, hv1, hv2, hv3]
  obtain ⟨_, m1, g1, rfl, g2⟩ := k0
  obtain ⟨r, t, g3, g4⟩ := k1 m1 g2
  exact ⟨r, t, e_callI (As := [v1, v2, v3]) (q := none) hd0 hm hkd rfl rfl (by simp [hv1, hv2, hv3]; omega) hw (by rw [e]; exact g1) g3, g4⟩
theorem p_cI4v {idx mid : Nat} {v1 v2 v3 v4 : Value} {ψ : xMem → Prop} (hd0 : xdec y pc = some (cn, .invokespecial idx, 3)) {a : Nat} (hc : xCi cn idx mid 4) (hv1 : v1.category = 1) (hv2 : v2.category = 1) (hv3 : v3.category = 1) (hv4 : v4.category = 1) (hw : (rest.map fun v => v.category).sum ≤ 8) (k0 : EvP d mid 0 [(0, .ref a), (1, v1), (2, v2), (3, v3), (4, v4)] [] (I, J, K, h) (QV ψ)) (k1 : ∀ (m1 : xMem), ψ m1 → EvP (d + 1) y (pc + 3) ls rest m1 Φ) : EvP (d + 1) y pc ls (v4 :: v3 :: v2 :: v1 :: .ref a :: rest) (I, J, K, h) Φ := by
  obtain ⟨kd, hm, hkd, hl⟩ := hc
  have e : lv_args 0 ([.ref a, v1, v2, v3, v4]) = [(0, .ref a), (1, v1), (2, v2), (3, v3), (4, v4)] := by simp [lv_args, xcat_ref, hv1, hv2, hv3, hv4]
  obtain ⟨_, m1, g1, rfl, g2⟩ := k0
  obtain ⟨r, t, g3, g4⟩ := k1 m1 g2
  exact ⟨r, t, e_callI (As := [v1, v2, v3, v4]) (q := none) hd0 hm hkd rfl rfl (by simp [hv1, hv2, hv3, hv4]; omega) hw (by rw [e]; exact g1) g3, g4⟩
theorem p_cI5v {idx mid : Nat} {v1 v2 v3 v4 v5 : Value} {ψ : xMem → Prop} (hd0 : xdec y pc = some (cn, .invokespecial idx, 3)) {a : Nat} (hc : xCi cn idx mid 5) (hv1 : v1.category = 1) (hv2 : v2.category = 1) (hv3 : v3.category = 1) (hv4 : v4.category = 1) (hv5 : v5.category = 1) (hw : (rest.map fun v => v.category).sum ≤ 8) (k0 : EvP d mid 0 [(0, .ref a), (1, v1), (2, v2), (3, v3), (4, v4), (5, v5)] [] (I, J, K, h) (QV ψ)) (k1 : ∀ (m1 : xMem), ψ m1 → EvP (d + 1) y (pc + 3) ls rest m1 Φ) : EvP (d + 1) y pc ls (v5 :: v4 :: v3 :: v2 :: v1 :: .ref a :: rest) (I, J, K, h) Φ := by
  obtain ⟨kd, hm, hkd, hl⟩ := hc
  have e : lv_args 0 ([.ref a, v1, v2, v3, v4, v5]) = [(0, .ref a), (1, v1), (2, v2), (3, v3), (4, v4), (5, v5)] := by simp [lv_args, xcat_ref, hv1, hv2, hv3, hv4, hv5]
  obtain ⟨_, m1, g1, rfl, g2⟩ := k0
  obtain ⟨r, t, g3, g4⟩ := k1 m1 g2
  exact ⟨r, t, e_callI (As := [v1, v2, v3, v4, v5]) (q := none) hd0 hm hkd rfl rfl (by simp [hv1, hv2, hv3, hv4, hv5]; omega) hw (by rw [e]; exact g1) g3, g4⟩
theorem p_cI6v {idx mid : Nat} {v1 v2 v3 v4 v5 v6 : Value} {ψ : xMem → Prop} (hd0 : xdec y pc = some (cn, .invokespecial idx, 3)) {a : Nat} (hc : xCi cn idx mid 6) (hv1 : v1.category = 1) (hv2 : v2.category = 1) (hv3 : v3.category = 1) (hv4 : v4.category = 1) (hv5 : v5.category = 1) (hv6 : v6.category = 1) (hw : (rest.map fun v => v.category).sum ≤ 8) (k0 : EvP d mid 0 [(0, .ref a), (1, v1), (2, v2), (3, v3), (4, v4), (5, v5), (6, v6)] [] (I, J, K, h) (QV ψ)) (k1 : ∀ (m1 : xMem), ψ m1 → EvP (d + 1) y (pc + 3) ls rest m1 Φ) : EvP (d + 1) y pc ls (v6 :: v5 :: v4 :: v3 :: v2 :: v1 :: .ref a :: rest) (I, J, K, h) Φ := by
  obtain ⟨kd, hm, hkd, hl⟩ := hc
  have e : lv_args 0 ([.ref a, v1, v2, v3, v4, v5, v6]) = [(0, .ref a), (1, v1), (2, v2), (3, v3), (4, v4), (5, v5), (6, v6)] := by simp [lv_args, xcat_ref, hv1, hv2, hv3, hv4, hv5, hv6]
  obtain ⟨_, m1, g1, rfl, g2⟩ := k0
  obtain ⟨r, t, g3, g4⟩ := k1 m1 g2
  exact ⟨r, t, e_callI (As := [v1, v2, v3, v4, v5, v6]) (q := none) hd0 hm hkd rfl rfl (by simp [hv1, hv2, hv3, hv4, hv5, hv6]; omega) hw (by rw [e]; exact g1) g3, g4⟩
theorem p_cU1i {idx mid : Nat} {v1 : Value} {ψ : Int32 → xMem → Prop} (hd0 : xdec y pc = some (cn, .invokespecial idx, 3)) {a ci : Nat} (hs : h[a]? = some (.inl ci)) (hc : xCu cn idx mid 1) (hv1 : v1.category = 1) (hw : (rest.map fun v => v.category).sum ≤ 8) (k0 : EvP d mid 0 [(0, .ref a), (1, v1)] [] (I, J, K, h) (QI ψ)) (k1 : ∀ (x : Int32) (m1 : xMem), ψ x m1 → EvP (d + 1) y (pc + 3) ls (.int x :: rest) m1 Φ) : EvP (d + 1) y pc ls (v1 :: .ref a :: rest) (I, J, K, h) Φ := by
  obtain ⟨kd, hm, hkd, hl⟩ := hc
  have e : lv_args 0 ([.ref a, v1]) = [(0, .ref a), (1, v1)] := by simp [lv_args, xcat_ref, hv1]
  obtain ⟨_, m1, g1, x, rfl, g2⟩ := k0
  obtain ⟨r, t, g3, g4⟩ := k1 x m1 g2
  exact ⟨r, t, e_callU (As := [v1]) (q := some (.int x)) hd0 hs hm hkd rfl rfl (by simp [hv1]; omega) hw (by rw [e]; exact g1) g3, g4⟩
theorem p_cU2i {idx mid : Nat} {v1 v2 : Value} {ψ : Int32 → xMem → Prop} (hd0 : xdec y pc = some (cn, .invokespecial idx, 3)) {a ci : Nat} (hs : h[a]? = some (.inl ci)) (hc : xCu cn idx mid 2) (hv1 : v1.category = 1) (hv2 : v2.category = 1) (hw : (rest.map fun v => v.category).sum ≤ 8) (k0 : EvP d mid 0 [(0, .ref a), (1, v1), (2, v2)] [] (I, J, K, h) (QI ψ)) (k1 : ∀ (x : Int32) (m1 : xMem), ψ x m1 → EvP (d + 1) y (pc + 3) ls (.int x :: rest) m1 Φ) : EvP (d + 1) y pc ls (v2 :: v1 :: .ref a :: rest) (I, J, K, h) Φ := by
  obtain ⟨kd, hm, hkd, hl⟩ := hc
  have e : lv_args 0 ([.ref a, v1, v2]) = [(0, .ref a), (1, v1), (2, v2)] := by simp [lv_args, xcat_ref, hv1, hv2]
  obtain ⟨_, m1, g1, x, rfl, g2⟩ := k0
  obtain ⟨r, t, g3, g4⟩ := k1 x m1 g2
  exact ⟨r, t, e_callU (As := [v1, v2]) (q := some (.int x)) hd0 hs hm hkd rfl rfl (by simp [hv1, hv2]; omega) hw (by rw [e]; exact g1) g3, g4⟩
theorem p_cU3i {idx mid : Nat} {v1 v2 v3 : Value} {ψ : Int32 → xMem → Prop} (hd0 : xdec y pc = some (cn, .invokespecial idx, 3)) {a ci : Nat} (hs : h[a]? = some (.inl ci)) (hc : xCu cn idx mid 3) (hv1 : v1.category = 1) (hv2 : v2.category = 1) (hv3 : v3.category = 1) (hw : (rest.map fun v => v.category).sum ≤ 8) (k0 : EvP d mid 0 [(0, .ref a), (1, v1), (2, v2), (3, v3)] [] (I, J, K, h) (QI ψ)) (k1 : ∀ (x : Int32) (m1 : xMem), ψ x m1 → EvP (d + 1) y (pc + 3) ls (.int x :: rest) m1 Φ) : EvP (d + 1) y pc ls (v3 :: v2 :: v1 :: .ref a :: rest) (I, J, K, h) Φ := by
  obtain ⟨kd, hm, hkd, hl⟩ := hc
  have e : lv_args 0 ([.ref a, v1, v2, v3]) = [(0, .ref a), (1, v1), (2, v2), (3, v3)] := by simp [lv_args, xcat_ref, hv1, hv2, hv3]
  obtain ⟨_, m1, g1, x, rfl, g2⟩ := k0
  obtain ⟨r, t, g3, g4⟩ := k1 x m1 g2
  exact ⟨r, t, e_callU (As := [v1, v2, v3]) (q := some (.int x)) hd0 hs hm hkd rfl rfl (by simp [hv1, hv2, hv3]; omega) hw (by rw [e]; exact g1) g3, g4⟩
theorem p_cU4i {idx mid : Nat} {v1 v2 v3 v4 : Value} {ψ : Int32 → xMem → Prop} (hd0 : xdec y pc = some (cn, .invokespecial idx, 3)) {a ci : Nat} (hs : h[a]? = some (.inl ci)) (hc : xCu cn idx mid 4) (hv1 : v1.category = 1) (hv2 : v2.category = 1) (hv3 : v3.category = 1) (hv4 : v4.category = 1) (hw : (rest.map fun v => v.category).sum ≤ 8) (k0 : EvP d mid 0 [(0, .ref a), (1, v1), (2, v2), (3, v3), (4, v4)] [] (I, J, K, h) (QI ψ)) (k1 : ∀ (x : Int32) (m1 : xMem), ψ x m1 → EvP (d + 1) y (pc + 3) ls (.int x :: rest) m1 Φ) : EvP (d + 1) y pc ls (v4 :: v3 :: v2 :: v1 :: .ref a :: rest) (I, J, K, h) Φ := by
  obtain ⟨kd, hm, hkd, hl⟩ := hc
  have e : lv_args 0 ([.ref a, v1, v2, v3, v4]) = [(0, .ref a), (1, v1), (2, v2), (3, v3), (4, v4)] := by simp [lv_args, xcat_ref, hv1, hv2, hv3, hv4]
  obtain ⟨_, m1, g1, x, rfl, g2⟩ := k0
  obtain ⟨r, t, g3, g4⟩ := k1 x m1 g2
  exact ⟨r, t, e_callU (As := [v1, v2, v3, v4]) (q := some (.int x)) hd0 hs hm hkd rfl rfl (by simp [hv1, hv2, hv3, hv4]; omega) hw (by rw [e]; exact g1) g3, g4⟩
theorem p_cT0i {idx mid : Nat} {ψ : Int32 → xMem → Prop} (hd0 : xdec y pc = some (cn, .invokevirtual idx, 3)) {k : Nat} (hk : k < 5) (hc : xCs9 cn idx mid 0)  (hw : (rest.map fun v => v.category).sum ≤ 8) (k0 : EvP d mid 0 [(0, .ref (1000001 + k))] [] (I, J, K, h) (QI ψ)) (k1 : ∀ (x : Int32) (m1 : xMem), ψ x m1 → EvP (d + 1) y (pc + 3) ls (.int x :: rest) m1 Φ) : EvP (d + 1) y pc ls (.ref (1000001 + k) :: rest) (I, J, K, h) Φ := by
  obtain ⟨hm, hl⟩ := hc
  have e : lv_args 0 ([.ref (1000001 + k)]) = [(0, .ref (1000001 + k))] := by simp [lv_args, xcat_ref]
  obtain ⟨_, m1, g1, x, rfl, g2⟩ := k0
  obtain ⟨r, t, g3, g4⟩ := k1 x m1 g2
  exact ⟨r, t, e_callT (As := []) (q := some (.int x)) hd0 hk hm rfl rfl (by simp; omega) hw (by rw [e]; exact g1) g3, g4⟩
theorem p_cT1i {idx mid : Nat} {v1 : Value} {ψ : Int32 → xMem → Prop} (hd0 : xdec y pc = some (cn, .invokevirtual idx, 3)) {k : Nat} (hk : k < 5) (hc : xCs9 cn idx mid 1) (hv1 : v1.category = 1) (hw : (rest.map fun v => v.category).sum ≤ 8) (k0 : EvP d mid 0 [(0, .ref (1000001 + k)), (1, v1)] [] (I, J, K, h) (QI ψ)) (k1 : ∀ (x : Int32) (m1 : xMem), ψ x m1 → EvP (d + 1) y (pc + 3) ls (.int x :: rest) m1 Φ) : EvP (d + 1) y pc ls (v1 :: .ref (1000001 + k) :: rest) (I, J, K, h) Φ := by
  obtain ⟨hm, hl⟩ := hc
  have e : lv_args 0 ([.ref (1000001 + k), v1]) = [(0, .ref (1000001 + k)), (1, v1)] := by simp [lv_args, xcat_ref, hv1]
  obtain ⟨_, m1, g1, x, rfl, g2⟩ := k0
  obtain ⟨r, t, g3, g4⟩ := k1 x m1 g2
  exact ⟨r, t, e_callT (As := [v1]) (q := some (.int x)) hd0 hk hm rfl rfl (by simp [hv1]; omega) hw (by rw [e]; exact g1) g3, g4⟩
end EVC
