/-! every run of the abstract machine is a run of the machine: what a memory is as a heap, what a method is given, the rules one by one -/
def xphi (b : Nat) (ex : Nat → Nat) (i : Nat) : Nat := if i < 1000000 then b + i else ex (i - 1000000)
def xcv (b : Nat) (ex : Nat → Nat) : Value → Value
  | .ref i => .ref (xphi b ex i)
  | v => v
theorem xcv_cat (b : Nat) (ex : Nat → Nat) (v : Value) : (xcv b ex v).category = v.category := by cases v <;> rfl
def xcl (b : Nat) (ex : Nat → Nat) (ls : List (Nat × Value)) : List (Nat × Value) := ls.map (fun q => (q.1, xcv b ex q.2))
def xcs (b : Nat) (ex : Nat → Nat) (st : List Value) : List Value := st.map (xcv b ex)
theorem xcs_sum (b : Nat) (ex : Nat → Nat) (st : List Value) : ((xcs b ex st).map fun v => v.category).sum = (st.map fun v => v.category).sum := by
  simp [xcs, List.map_map, Function.comp_def, xcv_cat]
theorem xcs_args (b : Nat) (ex : Nat → Nat) (vs : List Value) : ∀ i, lv_args i (xcs b ex vs) = xcl b ex (lv_args i vs) := by
  induction vs with
  | nil => intro i; rfl
  | cons v l ih =>
    intro i
    show (i, xcv b ex v) :: lv_args (if (xcv b ex v).category = 2 then i + 2 else i + 1) (xcs b ex l) = (i, xcv b ex v) :: xcl b ex (lv_args (if v.category = 2 then i + 2 else i + 1) l)
    rw [xcv_cat, ih]
theorem xlg_mem : ∀ {ls : List (Nat × Value)} {i : Nat} {v : Value}, xlg ls i = some v → (i, v) ∈ ls := by
  intro ls
  induction ls with
  | nil => intro i v h; cases h
  | cons q l ih =>
    obtain ⟨j, w⟩ := q
    intro i v h
    unfold xlg at h
    by_cases e : j = i
    · rw [if_pos e] at h
      cases h; subst e
      exact List.mem_cons_self
    · rw [if_neg e] at h
      exact List.mem_cons_of_mem _ (ih h)
theorem xlg_at {b : Nat} {ex : Nat → Nat} {lsA : Array Slot} {nL : Nat} {ls : List (Nat × Value)} {i : Nat} {v : Value} (hl : lv_has lsA nL (xcl b ex ls)) (h : xlg ls i = some v) : lsA[i]? = some (.val (xcv b ex v)) := hl.2.2 (i, xcv b ex v) (List.mem_map.mpr ⟨(i, v), xlg_mem h, rfl⟩)
theorem xins_mem {i : Nat} {v : Value} : ∀ {l : List (Nat × Value)} {q : Nat × Value}, q ∈ xins l i v → q = (i, v) ∨ q ∈ l := by
  intro l
  induction l with
  | nil => intro q h; exact Or.inl (List.mem_singleton.mp h)
  | cons w l ih =>
    obtain ⟨j, w⟩ := w
    intro q h
    unfold xins at h
    by_cases e : i < j
    · rw [if_pos e] at h
      rcases List.mem_cons.mp h with h | h
      · exact Or.inl h
      · exact Or.inr h
    · rw [if_neg e] at h
      rcases List.mem_cons.mp h with h | h
      · exact Or.inr (by rw [h]; exact List.mem_cons_self)
      · rcases ih h with h | h
        · exact Or.inl h
        · exact Or.inr (List.mem_cons_of_mem _ h)
theorem xls_has {b : Nat} {ex : Nat → Nat} {lsA : Array Slot} {nL : Nat} {ls : List (Nat × Value)} {i : Nat} {v : Value} (h : lv_has lsA nL ((i, xcv b ex v) :: (xcl b ex ls).filter (fun q => !(q.1 == i) && !(q.1 + 1 == i && q.2.category == 2)))) : lv_has lsA nL (xcl b ex (xls ls i v)) := by
  refine ⟨h.1, h.2.1, fun q hq => h.2.2 q ?_⟩
  obtain ⟨q0, h0, rfl⟩ := List.mem_map.mp hq
  rcases xins_mem h0 with rfl | h0
  · exact List.mem_cons_self
  · obtain ⟨h1, h2⟩ := List.mem_filter.mp h0
    exact List.mem_cons_of_mem _ (List.mem_filter.mpr ⟨List.mem_map.mpr ⟨q0, h1, rfl⟩, by rw [xcv_cat]; exact h2⟩)
theorem xlsl_has {b : Nat} {ex : Nat → Nat} {lsA : Array Slot} {nL : Nat} {ls : List (Nat × Value)} {i : Nat} {v : Value} (h : lv_has lsA nL ((i, xcv b ex v) :: (xcl b ex ls).filter (fun q => !(q.1 == i) && (!(q.1 == i + 1) && !(q.1 + 1 == i && q.2.category == 2))))) : lv_has lsA nL (xcl b ex (xlsl ls i v)) := by
  refine ⟨h.1, h.2.1, fun q hq => h.2.2 q ?_⟩
  obtain ⟨q0, h0, rfl⟩ := List.mem_map.mp hq
  rcases xins_mem h0 with rfl | h0
  · exact List.mem_cons_self
  · obtain ⟨h1, h2⟩ := List.mem_filter.mp h0
    exact List.mem_cons_of_mem _ (List.mem_filter.mpr ⟨List.mem_map.mpr ⟨q0, h1, rfl⟩, by rw [xcv_cat]; exact h2⟩)
theorem xdec_of {y pc cn len : Nat} {ins : Instr} {M : xMe} (hM : xM[y]? = some M) (h : xdec y pc = some (cn, ins, len)) : M.1 = cn ∧ decode M.2.2.1 pc = .ok (ins, len) ∧ xstok ins M.2.2.2.1 = true := by
  unfold xdec at h
  rw [hM] at h
  dsimp only at h
  cases hd : decode M.2.2.1 pc with
  | error z => rw [hd] at h; cases h
  | ok q =>
    obtain ⟨i0, l0⟩ := q
    rw [hd] at h
    dsimp only at h
    by_cases e : xstok i0 M.2.2.2.1 = true
    · rw [if_pos e] at h
      cases h
      exact ⟨rfl, rfl, e⟩
    · rw [if_neg e] at h
      cases h
/-! memory and heap -/
def xfv (b : Nat) (ex : Nat → Nat) (m : xMem) (i : Nat) (ty : FieldType) (k : Nat) : Value := match xkd ty with
  | 0 => .int (m.1 i k)
  | _ => va_rf ((m.2.2.1 i k).map (xphi b ex))
def xarr (b : Nat) (ex : Nat → Nat) (m : xMem) (i : Nat) (ty : FieldType) : (Nat → Int32) ⊕ (Nat → Int64) ⊕ (Nat → UInt32) ⊕ (Nat → UInt64) ⊕ (Nat → Option Nat) := match ty with
  | .long => .inr (.inl (m.2.1 i))
  | .object _ => .inr (.inr (.inr (.inr (fun k => (m.2.2.1 i k).map (xphi b ex)))))
  | _ => .inl (m.1 i)
def xcell (b : Nat) (ex : Nat → Nat) (aC : FieldType → ClassId) (m : xMem) (i : Nat) (s : xSh) : va_E := match s with
  | .inl ci => .inr (ci, (List.range (xN ci)).map (fun k => xfv b ex m i (xty ci k) k))
  | .inr q => .inl (aC q.1, (q.2, xarr b ex m i q.1))
def xws (b : Nat) (ex : Nat → Nat) (aC : FieldType → ClassId) (m : xMem) : va_W := m.2.2.2.mapIdx (fun i s => (b + i, xcell b ex aC m i s))
def xsz1 : xSh → Nat
  | .inl ci => xN ci
  | .inr q => q.2
def xsz (h : List xSh) : Nat := (h.map xsz1).sum
theorem xsz_add (h : List xSh) (s : xSh) : xsz (h ++ [s]) = xsz h + xsz1 s := by simp [xsz]
abbrev xA (b : Nat) : Nat → Prop := fun q => b ≤ q
section MEM
variable {b : Nat} {ex : Nat → Nat} {aC : FieldType → ClassId} {D : va_G} {L : Nat} {xs : Nat → Int32}
theorem xws_get {m : xMem} {a : Nat} {s : xSh} (h : m.2.2.2[a]? = some s) : (xws b ex aC m)[a]? = some (b + a, xcell b ex aC m a s) := by
  simp [xws, List.getElem?_mapIdx, h]
theorem xws_of {m : xMem} {i : Nat} {q : Nat × va_E} (h : (xws b ex aC m)[i]? = some q) : ∃ s, m.2.2.2[i]? = some s ∧ q = (b + i, xcell b ex aC m i s) := by
  simp only [xws, List.getElem?_mapIdx, Option.map_eq_some_iff] at h
  obtain ⟨s, h1, h2⟩ := h
  exact ⟨s, h1, h2.symm⟩
theorem xws_D (m : xMem) : va_D (xA b) (xws b ex aC m) := by
  refine ⟨fun i j p q hi hj e => ?_, fun k q h => ?_⟩
  · obtain ⟨_, -, rfl⟩ := xws_of hi
    obtain ⟨_, -, rfl⟩ := xws_of hj
    exact Nat.add_left_cancel e
  · obtain ⟨_, -, rfl⟩ := xws_of h
    exact Nat.le_add_right _ _
theorem xcell_congr {m m' : xMem} {i : Nat} (h1 : m'.1 i = m.1 i) (h2 : m'.2.1 i = m.2.1 i) (h3 : m'.2.2.1 i = m.2.2.1 i) (s : xSh) : xcell b ex aC m' i s = xcell b ex aC m i s := by
  cases s with
  | inl ci => simp only [xcell, xfv, h1, h3]
  | inr q => simp only [xcell, xarr, h1, h2, h3]
theorem xws_set {m m' : xMem} {a : Nat} {s : xSh} (hs : m.2.2.2[a]? = some s) (hh : m'.2.2.2 = m.2.2.2) (hx : ∀ i, i ≠ a → m'.1 i = m.1 i ∧ m'.2.1 i = m.2.1 i ∧ m'.2.2.1 i = m.2.2.1 i) {e : va_E} (he : xcell b ex aC m' a s = e) : (xws b ex aC m).set a (b + a, e) = xws b ex aC m' := by
  have hl : a < m.2.2.2.length := (List.getElem?_eq_some_iff.mp hs).1
  apply List.ext_getElem?
  intro i
  by_cases hi : i = a
  · subst hi
    rw [List.getElem?_set_self (by simpa [xws] using hl), xws_get (m := m') (s := s) (by rw [hh]; exact hs), he]
  · rw [List.getElem?_set_ne (Ne.symm hi)]
    simp only [xws, List.getElem?_mapIdx, hh]
    cases m.2.2.2[i]? with
    | none => rfl
    | some s' =>
      obtain ⟨h1, h2, h3⟩ := hx i hi
      simp only [Option.map_some]
      rw [xcell_congr h1 h2 h3]
theorem upc_ne {α : Type} (f : Nat → α) {a i : Nat} (g : α) (h : i ≠ a) : upc f a g i = f i := if_neg h
theorem upc_eq {α : Type} (f : Nat → α) (a : Nat) (g : α) : upc f a g a = g := if_pos rfl
def XR (b : Nat) (ex : Nat → Nat) (aC : FieldType → ClassId) (D : va_G) (L : Nat) (xs : Nat → Int32) (m : xMem) (H : Heap) : Prop := va_P D vwCl (xws b ex aC m) H ∧ H.size = b + m.2.2.2.length ∧ m.2.2.2.length ≤ 900000 ∧ m.1 1000000 = xs ∧ m.1 1000001 0 = Int32.ofNat L
theorem XR_low {m : xMem} {H1 : Heap} {a : Nat} {e : va_E} (hP : va_P D vwCl ((xws b ex aC m).set a (b + a, e)) H1) (h0 : a < m.2.2.2.length) : b + m.2.2.2.length ≤ H1.size := by
  have hl : m.2.2.2.length - 1 < m.2.2.2.length := by omega
  by_cases ha : m.2.2.2.length - 1 = a
  · have := (hP a (b + a, e) (by rw [List.getElem?_set_self (by simpa [xws] using h0)])).lt
    simp only at this
    omega
  · have := (hP (m.2.2.2.length - 1) _ (by rw [List.getElem?_set_ne (Ne.symm ha)]; exact xws_get (List.getElem?_eq_getElem hl))).lt
    simp only at this
    omega
theorem XR_set {m m' : xMem} {H H1 : Heap} {a : Nat} {s : xSh} {e : va_E} (h : XR b ex aC D L xs m H) (hs : m.2.2.2[a]? = some s) (hh : m'.2.2.2 = m.2.2.2) (hx : ∀ i, i ≠ a → m'.1 i = m.1 i ∧ m'.2.1 i = m.2.1 i ∧ m'.2.2.1 i = m.2.2.1 i) (he : xcell b ex aC m' a s = e) (hP : va_P D vwCl ((xws b ex aC m).set a (b + a, e)) H1) (hz : H1.size ≤ b + m.2.2.2.length) : XR b ex aC D L xs m' H1 := by
  have hlo := XR_low hP (List.getElem?_eq_some_iff.mp hs).1
  have hl : a < m.2.2.2.length := (List.getElem?_eq_some_iff.mp hs).1
  obtain ⟨-, h1, h2, h3, h4⟩ := h
  rw [xws_set hs hh hx he] at hP
  exact ⟨hP, by rw [hh]; omega, by rw [hh]; exact h2, by rw [(hx 1000000 (by omega)).1]; exact h3, by rw [(hx 1000001 (by omega)).1]; exact h4⟩
/-- a new cell stands at the heap's end -/
theorem XR_push {m m' : xMem} {H H1 : Heap} {s : xSh} {q : Nat} {e : va_E} (h : XR b ex aC D L xs m H) (hn : m.2.2.2.length < 900000) (hh : m'.2.2.2 = m.2.2.2 ++ [s]) (hx : ∀ i, i ≠ m.2.2.2.length → m'.1 i = m.1 i ∧ m'.2.1 i = m.2.1 i ∧ m'.2.2.1 i = m.2.2.1 i) (he : xcell b ex aC m' m.2.2.2.length s = e) (hP : va_P D vwCl (xws b ex aC m ++ [(q, e)]) H1) (hD : va_D (xA b) (xws b ex aC m ++ [(q, e)])) (hz : H1.size ≤ b + m.2.2.2.length + 1) : q = b + m.2.2.2.length ∧ XR b ex aC D L xs m' H1 := by
  obtain ⟨-, h1, h2, h3, h4⟩ := h
  have hwl : (xws b ex aC m).length = m.2.2.2.length := by simp [xws]
  have hk : (xws b ex aC m ++ [(q, e)])[m.2.2.2.length]? = some (q, e) := by rw [← hwl]; simp
  have hlt : q < H1.size := (hP _ _ hk).lt
  have hb : b ≤ q := hD.2 _ _ hk
  have hq : q = b + m.2.2.2.length := by
    rcases Nat.lt_or_ge q (b + m.2.2.2.length) with hq | hq
    · exfalso
      have hj : q - b < m.2.2.2.length := by omega
      have hg := xws_get (b := b) (ex := ex) (aC := aC) (m := m) (List.getElem?_eq_getElem hj)
      have hg2 : (xws b ex aC m ++ [(q, e)])[q - b]? = some (b + (q - b), xcell b ex aC m (q - b) (m.2.2.2[q - b])) := by rw [List.getElem?_append_left (by omega)]; exact hg
      have := hD.1 _ _ _ _ hg2 hk (by show b + (q - b) = q; omega)
      omega
    · omega
  have hw : xws b ex aC m ++ [(q, e)] = xws b ex aC m' := by
    apply List.ext_getElem?
    intro i
    rcases Nat.lt_trichotomy i m.2.2.2.length with hi | hi | hi
    · rw [List.getElem?_append_left (by omega), xws_get (List.getElem?_eq_getElem hi), xws_get (m := m') (s := m.2.2.2[i]) (by rw [hh, List.getElem?_append_left hi]; exact List.getElem?_eq_getElem hi)]
      obtain ⟨g1, g2, g3⟩ := hx i (by omega)
      rw [xcell_congr g1 g2 g3]
    · subst hi
      rw [hk, xws_get (m := m') (s := s) (by rw [hh]; simp), he, hq]
    · rw [List.getElem?_eq_none (by simp; omega), List.getElem?_eq_none (by simp [xws, hh]; omega)]
  rw [hw] at hP
  exact ⟨hq, hP, by rw [hh, List.length_append]; show H1.size = b + (m.2.2.2.length + 1); omega, by rw [hh, List.length_append]; show m.2.2.2.length + 1 ≤ 900000; omega, by rw [(hx 1000000 (by omega)).1]; exact h3, by rw [(hx 1000001 (by omega)).1]; exact h4⟩
theorem xphi_own {m : xMem} {H : Heap} (h : XR b ex aC D L xs m H) {a : Nat} {s : xSh} (hs : m.2.2.2[a]? = some s) : xphi b ex a = b + a := by
  have hl : a < m.2.2.2.length := (List.getElem?_eq_some_iff.mp hs).1
  have h2 := h.2.2.1
  exact if_pos (by omega)
/-! what is known of the machine -/
def xtys (aC : FieldType → ClassId) : List (ClassId × FieldType) := [(aC .int, .int), (aC .long, .long), (aC .byte, .byte), (aC .boolean, .boolean), (aC (.object RX2), .object RX2), (aC (.object RX8), .object RX8), (aC (.object RX5), .object RX5)]
theorem xtys_at {ty : FieldType} (h : xaty ty) : ∃ t : Nat, (xtys aC)[t]? = some (aC ty, ty) := by
  rcases h with (h | h | h | h) | h | h | h <;> subst h
  · exact ⟨0, rfl⟩
  · exact ⟨1, rfl⟩
  · exact ⟨2, rfl⟩
  · exact ⟨3, rfl⟩
  · exact ⟨4, rfl⟩
  · exact ⟨5, rfl⟩
  · exact ⟨6, rfl⟩
def xStx : Nat → String
  | 0 => "aektud"
  | 1 => "<=>"
  | 2 => "sgmw"
  | 3 => "suitgallmothwork"
  | _ => "0123456789"
/-- a class can be taken for another -/
def xYc (C T : String) (U : State) : Prop := ∃ c t : ClassId, U.vm.findClass C = some c ∧ U.vm.findClass T = some t ∧ U.vm.assignable c t = true
theorem xYc.moved {C T : String} {u U : State} (hvm : u.vm.Alike U.vm) (h : xYc C T u) : xYc C T U := by
  obtain ⟨c, t, h1, h2, h3⟩ := h
  exact ⟨c, t, by rw [hvm.findClass]; exact h1, by rw [hvm.findClass]; exact h2, by rw [hvm.assignable]; exact h3⟩
theorem xYc.of {A : Array Value} {C T : String} {U : State} (h : (Cond.castable C T).before A U = true) : xYc C T U := by
  obtain ⟨x, t1, f1, f2, f3⟩ := Cond.castable_spec h
  exact ⟨x, t1, f1, f2, f3⟩
theorem xYc.use {C T : String} {U : State} (h : xYc C T U) : va_Nw (.castable C T) U := by
  obtain ⟨c, t, h1, h2, h3⟩ := h
  simp [va_Nw, Cond.before, Cond.holds, Cond.value, h1, h2, h3]
theorem xYc.asg {C T : String} {U : State} (h : xYc C T U) (comp c0 : ClassId) (g1 : U.vm.findClass T = some comp) (g2 : U.vm.findClass C = some c0) : U.vm.assignable c0 comp = true := by
  obtain ⟨c, t, h1, h2, h3⟩ := h
  cases h1.symm.trans g2
  cases h2.symm.trans g1
  exact h3
def xCast : List (Nat × Nat) := [(4, 6), (1, 10), (7, 0), (6, 2), (10, 2), (0, 2), (4, 2), (1, 2), (7, 2)]
def xK (aC : FieldType → ClassId) (D : va_G) (U : State) : Prop := va_K D vwCl (xtys aC) U ∧ (∀ w ∈ xNest, va_Nw w U) ∧ (va_AO RX2 U ∧ va_AO RX8 U ∧ va_AO RX5 U) ∧ (∀ q ∈ xNo, va_Nc (xR q.1) (xR q.2) U) ∧ (∀ q ∈ xCast, xYc (xR q.1) (xR q.2) U)
def xF (b : Nat) (ex : Nat → Nat) (L : Nat) (xs : Nat → Int32) (U : State) (H : Heap) : Prop := va_X (ex 0) L xs U H ∧ ex 0 < b ∧ vk_S 5 [6, 3, 4, 16, 10] ((List.range 5).map xStr) (fun i => ex (1 + i)) (fun i => ex (21 + i)) (xA b) U H ∧ (∀ q ∈ xSt, vk_R (xR q.1) q.2.1 (xStx q.2.2) (ex (1 + q.2.2)) U) ∧ va_Z "HatsDecide$Town" "NO_BYTES" "[B" (.ref (ex 10)) (xA b) U H ∧ L < 2 ^ 31 ∧ va_Z "java/lang/String" "COMPACT_STRINGS" "Z" (.int 1) (xA b) U H ∧ (va_Z "jdk/internal/util/Preconditions" "SIOOBE_FORMATTER" "Ljava/util/function/BiFunction;" .null (xA b) U H ∨ va_Z "jdk/internal/util/Preconditions" "SIOOBE_FORMATTER" "Ljava/util/function/BiFunction;" (.ref (ex 11)) (xA b) U H)
theorem xK_warm {s U : State} (hW : s.WarmedH U.vm) (h : xK aC D s) : xK aC D U := by
  obtain ⟨h1, h2, ⟨h3, h4, h5⟩, h6, h8⟩ := h
  refine ⟨h1.moved hW.alike, fun w hw => ?_, ⟨h3.moved hW.alike, h4.moved hW.alike, h5.moved hW.alike⟩, fun q hq => (h6 q hq).moved hW.alike, fun q hq => (h8 q hq).moved hW.alike⟩
  have h7 := h2 w hw
  obtain ⟨a, i, x, z, rfl⟩ := xNest_form w hw
  exact h7.warmM hW
theorem xF_warm {s U : State} {H : Heap} (hW : s.WarmedH U.vm) (h : xF b ex L xs s H) : xF b ex L xs U H := by
  obtain ⟨h1, h2, h3, h4, h5, h6, h7, h8⟩ := h
  exact ⟨h1.moved hW.alike, h2, h3.moved hW.alike, fun q hq => (h4 q hq).warm hW, h5.moved hW.alike, h6, h7.moved hW.alike, h8.imp (fun z => z.moved hW.alike) (fun z => z.moved hW.alike)⟩
theorem xF_kept {s : State} {H : Heap} {locs : List Loc} (hb : b ≤ s.heap.size) (hS : va_S (xA b) s.heap H locs) (h : xF b ex L xs s s.heap) : xF b ex L xs s H := by
  obtain ⟨h1, h2, h3, h4, h5, h6, h7, h8⟩ := h
  have hq := hS.2.1
  exact ⟨h1.kept (hq _ (by omega) (by show ¬ b ≤ ex 0; omega)), h2, h3.kept hq, h4, h5.kept hq, h6, h7.kept hq, h8.imp (fun z => z.kept hq) (fun z => z.kept hq)⟩
def XB (b : Nat) (ex : Nat → Nat) (aC : FieldType → ClassId) (D : va_G) (L : Nat) (xs : Nat → Int32) (m : xMem) (U : State) : Prop := XR b ex aC D L xs m U.heap ∧ xK aC D U ∧ xF b ex L xs U U.heap
theorem XB_blind {m : xMem} {As : List Value} : FrameBlind (va_Pc As (XB b ex aC D L xs m)) := by
  intro a U g mk h
  obtain ⟨h0, h1, h2, h3⟩ := h
  exact ⟨h0, h1, xK_warm (U := U.calling g mk a) (State.WarmedH.refl U) h2, xF_warm (U := U.calling g mk a) (State.WarmedH.refl U) h3⟩
end MEM
def xrOk : Option Value → Prop
  | none => True
  | some (.int _) => True
  | some (.long _) => True
  | some (.ref _) => True
  | _ => False
def xretI (M : xMe) (pc : Nat) : Option Value → Prop
  | none => decode M.2.2.1 pc = .ok (.return_, 1) ∧ M.2.2.2.2 = none
  | some (.int x) => decode M.2.2.1 pc = .ok (.ireturn, 1) ∧ ∃ ty, M.2.2.2.2 = some ty ∧ narrow ty (.int x) = .int x
  | some (.long _) => decode M.2.2.1 pc = .ok (.lreturn, 1) ∧ M.2.2.2.2 = some .long
  | some (.ref _) => decode M.2.2.1 pc = .ok (.areturn, 1) ∧ ∃ C, M.2.2.2.2 = some (.object C)
  | _ => False
def xCtx (b : Nat) (ex : Nat → Nat) (aC : FieldType → ClassId) (D : va_G) (L : Nat) (xs : Nat → Int32) (M : xMe) (d : Nat) (p : Program) (R : Room) (s : State) (mm : MethodId) (args : Array Value) (meth : Method) (c : Code) : Prop := p.tables.exec = Jvm.exec ∧ c.code = M.2.2.1 ∧ c.maxLocals = M.2.2.2.1 ∧ s.vm.findClass (xR M.1) = some mm.cls ∧ meth.name = M.2.1.name ∧ (∀ w ∈ xW, w.before args s = true) ∧ xK aC D s ∧ xF b ex L xs s s.heap ∧ b ≤ s.heap.size ∧ d ≤ R.frames ∧ 100 * d ≤ R.locals
/-- what a run of the abstract machine says of the machine -/
def XP (b : Nat) (ex : Nat → Nat) (aC : FieldType → ClassId) (D : va_G) (L : Nat) (xs : Nat → Int32) (l : Launch) : xPt0 := fun d y pc ls st m r t =>
  (m.2.2.2.length ≤ t.2.2.2.length ∧ xsz m.2.2.2 ≤ xsz t.2.2.2 ∧ xrOk r) ∧ ∀ (M : xMe), xM[y]? = some M → ∀ (p : Program) (e : Env) (R : Room) (s : State) (mm : MethodId) (args : Array Value) (below : List Frame) (meth : Method) (c : Code) (Q : State → Prop) (H : Heap) (locs : List Loc) (cells slots : Nat) (lsA : Array Slot),
    xCtx b ex aC D L xs M d p R s mm args meth c → XR b ex aC D L xs m H → s.heap.size + cells = b + m.2.2.2.length → va_S (xA b) s.heap H locs → cells + (t.2.2.2.length - m.2.2.2.length) ≤ R.cells → slots + (xsz t.2.2.2 - xsz m.2.2.2) ≤ R.slots → lv_has lsA M.2.2.2.1 (xcl b ex ls) →
    (∀ (pc' : Nat) (H' : Heap) (locs' : List Loc) (ls' : Array Slot), XR b ex aC D L xs t H' → va_S (xA b) s.heap H' locs' → xretI M pc' r → W p l e R s mm args below meth c H' locs' (cells + (t.2.2.2.length - m.2.2.2.length)) (slots + (xsz t.2.2.2 - xsz m.2.2.2)) Q (F0 mm pc' ls' (xcs b ex r.toList))) →
    W p l e R s mm args below meth c H locs cells slots Q (F0 mm pc lsA (xcs b ex st))
theorem xW_size {p : Program} {l : Launch} {e : Env} {R : Room} {s : State} {m : MethodId} {args : Array Value} {below : List Frame} {meth : Method} {c : Code} {H : Heap} {locs : List Loc} {cells slots : Nat} {Q : State → Prop} {g : JFrame} (k : H.size ≤ s.heap.size + cells → W p l e R s m args below meth c H locs cells slots Q g) : W p l e R s m args below meth c H locs cells slots Q g := fun T hT X => k (by rw [← hT]; exact X.heapSize) T hT X
section RULES
variable {b : Nat} {ex : Nat → Nat} {aC : FieldType → ClassId} {D : va_G} {L : Nat} {xs : Nat → Int32} {l : Launch}
set_option maxHeartbeats 1000000 in
theorem s_iconst : xr_iconst (XP b ex aC D L xs l) := by
  intro d y pc cn ls rest I J K h r t n v hd0 hv k0
  refine ⟨k0.1, fun M hM p e R s mm args below meth c Q H locs cells slots lsA C hR hz hS hc1 hc2 hl hret => ?_⟩
  obtain ⟨hx, hb, hml, hown, hnm, hts, hK, hF, hbs, hfr, hlo⟩ := id C
  obtain ⟨hcn, hdc, hst⟩ := xdec_of hM hd0
  exact lv_iconst hx hb hdc hv (k0.2 M hM p e R s mm args below meth c Q H locs cells slots lsA C hR hz hS hc1 hc2 hl hret)
set_option maxHeartbeats 1000000 in
theorem s_bipush : xr_bipush (XP b ex aC D L xs l) := by
  intro d y pc cn ls rest I J K h r t n v hd0 hv k0
  refine ⟨k0.1, fun M hM p e R s mm args below meth c Q H locs cells slots lsA C hR hz hS hc1 hc2 hl hret => ?_⟩
  obtain ⟨hx, hb, hml, hown, hnm, hts, hK, hF, hbs, hfr, hlo⟩ := id C
  obtain ⟨hcn, hdc, hst⟩ := xdec_of hM hd0
  exact lv_bipush hx hb hdc hv (k0.2 M hM p e R s mm args below meth c Q H locs cells slots lsA C hR hz hS hc1 hc2 hl hret)
set_option maxHeartbeats 1000000 in
theorem s_sipush : xr_sipush (XP b ex aC D L xs l) := by
  intro d y pc cn ls rest I J K h r t n v hd0 hv k0
  refine ⟨k0.1, fun M hM p e R s mm args below meth c Q H locs cells slots lsA C hR hz hS hc1 hc2 hl hret => ?_⟩
  obtain ⟨hx, hb, hml, hown, hnm, hts, hK, hF, hbs, hfr, hlo⟩ := id C
  obtain ⟨hcn, hdc, hst⟩ := xdec_of hM hd0
  exact lv_sipush hx hb hdc hv (k0.2 M hM p e R s mm args below meth c Q H locs cells slots lsA C hR hz hS hc1 hc2 hl hret)
set_option maxHeartbeats 1000000 in
theorem s_lconst : xr_lconst (XP b ex aC D L xs l) := by
  intro d y pc cn ls rest I J K h r t n v hd0 hv k0
  refine ⟨k0.1, fun M hM p e R s mm args below meth c Q H locs cells slots lsA C hR hz hS hc1 hc2 hl hret => ?_⟩
  obtain ⟨hx, hb, hml, hown, hnm, hts, hK, hF, hbs, hfr, hlo⟩ := id C
  obtain ⟨hcn, hdc, hst⟩ := xdec_of hM hd0
  exact lv_lconst hx hb hdc hv (k0.2 M hM p e R s mm args below meth c Q H locs cells slots lsA C hR hz hS hc1 hc2 hl hret)
set_option maxHeartbeats 1000000 in
theorem s_ldc : xr_ldc (XP b ex aC D L xs l) := by
  intro d y pc cn ls rest I J K h r t i v hd0 hk k0
  refine ⟨k0.1, fun M hM p e R s mm args below meth c Q H locs cells slots lsA C hR hz hS hc1 hc2 hl hret => ?_⟩
  obtain ⟨hx, hb, hml, hown, hnm, hts, hK, hF, hbs, hfr, hlo⟩ := id C
  obtain ⟨hcn, hdc, hst⟩ := xdec_of hM hd0
  subst hcn
  exact lv_ldc hx hb hown (hts _ (xKt_ok _ hk)) hdc (k0.2 M hM p e R s mm args below meth c Q H locs cells slots lsA C hR hz hS hc1 hc2 hl hret)
set_option maxHeartbeats 1000000 in
theorem s_ldcw : xr_ldcw (XP b ex aC D L xs l) := by
  intro d y pc cn ls rest I J K h r t i v hd0 hk k0
  refine ⟨k0.1, fun M hM p e R s mm args below meth c Q H locs cells slots lsA C hR hz hS hc1 hc2 hl hret => ?_⟩
  obtain ⟨hx, hb, hml, hown, hnm, hts, hK, hF, hbs, hfr, hlo⟩ := id C
  obtain ⟨hcn, hdc, hst⟩ := xdec_of hM hd0
  subst hcn
  exact lv_ldcw hx hb hown (hts _ (xKt_ok _ hk)) hdc (k0.2 M hM p e R s mm args below meth c Q H locs cells slots lsA C hR hz hS hc1 hc2 hl hret)
set_option maxHeartbeats 1000000 in
theorem s_ldc2 : xr_ldc2 (XP b ex aC D L xs l) := by
  intro d y pc cn ls rest I J K h r t i v hd0 hk k0
  refine ⟨k0.1, fun M hM p e R s mm args below meth c Q H locs cells slots lsA C hR hz hS hc1 hc2 hl hret => ?_⟩
  obtain ⟨hx, hb, hml, hown, hnm, hts, hK, hF, hbs, hfr, hlo⟩ := id C
  obtain ⟨hcn, hdc, hst⟩ := xdec_of hM hd0
  subst hcn
  exact lv_ldc2 hx hb hown (hts _ (xLt_ok _ hk)) hdc (k0.2 M hM p e R s mm args below meth c Q H locs cells slots lsA C hR hz hS hc1 hc2 hl hret)
set_option maxHeartbeats 1000000 in
theorem s_ldcs : xr_ldcs (XP b ex aC D L xs l) := by
  intro d y pc cn ls rest I J K h r t i k hd0 hk k0
  refine ⟨k0.1, fun M hM p e R s mm args below meth c Q H locs cells slots lsA C hR hz hS hc1 hc2 hl hret => ?_⟩
  obtain ⟨hx, hb, hml, hown, hnm, hts, hK, hF, hbs, hfr, hlo⟩ := id C
  obtain ⟨hcn, hdc, hst⟩ := xdec_of hM hd0
  subst hcn
  have hr := hF.2.2.2.1 _ hk
  have he : xphi b ex (1000001 + k) = ex (1 + k) := by
    unfold xphi
    rw [if_neg (by omega), show 1000001 + k - 1000000 = 1 + k by omega]
  have k1 := k0.2 M hM p e R s mm args below meth c Q H locs cells slots lsA C hR hz hS hc1 hc2 hl hret
  rw [show xcs b ex (Value.ref (1000001 + k) :: rest) = Value.ref (ex (1 + k)) :: xcs b ex rest from by show Value.ref (xphi b ex (1000001 + k)) :: _ = _; rw [he]; rfl] at k1
  exact va_ldcS hx hb hown hr hdc k1
set_option maxHeartbeats 1000000 in
theorem s_iload : xr_iload (XP b ex aC D L xs l) := by
  intro d y pc cn ls rest I J K h r t i x hd0 hl9 k0
  refine ⟨k0.1, fun M hM p e R s mm args below meth c Q H locs cells slots lsA C hR hz hS hc1 hc2 hl hret => ?_⟩
  obtain ⟨hx, hb, hml, hown, hnm, hts, hK, hF, hbs, hfr, hlo⟩ := id C
  obtain ⟨hcn, hdc, hst⟩ := xdec_of hM hd0
  exact lv_iload hx hb hdc (xlg_at hl hl9) (k0.2 M hM p e R s mm args below meth c Q H locs cells slots lsA C hR hz hS hc1 hc2 hl hret)
set_option maxHeartbeats 1000000 in
theorem s_iload_n : xr_iload_n (XP b ex aC D L xs l) := by
  intro d y pc cn ls rest I J K h r t k x hd0 hl9 k0
  refine ⟨k0.1, fun M hM p e R s mm args below meth c Q H locs cells slots lsA C hR hz hS hc1 hc2 hl hret => ?_⟩
  obtain ⟨hx, hb, hml, hown, hnm, hts, hK, hF, hbs, hfr, hlo⟩ := id C
  obtain ⟨hcn, hdc, hst⟩ := xdec_of hM hd0
  exact lv_iload_n hx hb hdc rfl (xlg_at hl hl9) (k0.2 M hM p e R s mm args below meth c Q H locs cells slots lsA C hR hz hS hc1 hc2 hl hret)
set_option maxHeartbeats 1000000 in
theorem s_istore : xr_istore (XP b ex aC D L xs l) := by
  intro d y pc cn ls rest I J K h r t i x ls1 hd0 hl9 k0
  refine ⟨k0.1, fun M hM p e R s mm args below meth c Q H locs cells slots lsA C hR hz hS hc1 hc2 hl hret => ?_⟩
  obtain ⟨hx, hb, hml, hown, hnm, hts, hK, hF, hbs, hfr, hlo⟩ := id C
  obtain ⟨hcn, hdc, hst⟩ := xdec_of hM hd0
  subst hl9
  exact lv_istore hx hb hdc hl (of_decide_eq_true hst) rfl (fun lsB hB => k0.2 M hM p e R s mm args below meth c Q H locs cells slots lsB C hR hz hS hc1 hc2 (xls_has hB) hret)
set_option maxHeartbeats 1000000 in
theorem s_istore_n : xr_istore_n (XP b ex aC D L xs l) := by
  intro d y pc cn ls rest I J K h r t k x ls1 hd0 hl9 k0
  refine ⟨k0.1, fun M hM p e R s mm args below meth c Q H locs cells slots lsA C hR hz hS hc1 hc2 hl hret => ?_⟩
  obtain ⟨hx, hb, hml, hown, hnm, hts, hK, hF, hbs, hfr, hlo⟩ := id C
  obtain ⟨hcn, hdc, hst⟩ := xdec_of hM hd0
  subst hl9
  exact lv_istore_n hx hb hdc rfl hl (of_decide_eq_true hst) rfl (fun lsB hB => k0.2 M hM p e R s mm args below meth c Q H locs cells slots lsB C hR hz hS hc1 hc2 (xls_has hB) hret)
set_option maxHeartbeats 1000000 in
theorem s_lload : xr_lload (XP b ex aC D L xs l) := by
  intro d y pc cn ls rest I J K h r t i x hd0 hl9 k0
  refine ⟨k0.1, fun M hM p e R s mm args below meth c Q H locs cells slots lsA C hR hz hS hc1 hc2 hl hret => ?_⟩
  obtain ⟨hx, hb, hml, hown, hnm, hts, hK, hF, hbs, hfr, hlo⟩ := id C
  obtain ⟨hcn, hdc, hst⟩ := xdec_of hM hd0
  exact lv_lload hx hb hdc (xlg_at hl hl9) (k0.2 M hM p e R s mm args below meth c Q H locs cells slots lsA C hR hz hS hc1 hc2 hl hret)
set_option maxHeartbeats 1000000 in
theorem s_lload_n : xr_lload_n (XP b ex aC D L xs l) := by
  intro d y pc cn ls rest I J K h r t k x hd0 hl9 k0
  refine ⟨k0.1, fun M hM p e R s mm args below meth c Q H locs cells slots lsA C hR hz hS hc1 hc2 hl hret => ?_⟩
  obtain ⟨hx, hb, hml, hown, hnm, hts, hK, hF, hbs, hfr, hlo⟩ := id C
  obtain ⟨hcn, hdc, hst⟩ := xdec_of hM hd0
  exact lv_lload_n hx hb hdc rfl (xlg_at hl hl9) (k0.2 M hM p e R s mm args below meth c Q H locs cells slots lsA C hR hz hS hc1 hc2 hl hret)
set_option maxHeartbeats 1000000 in
theorem s_lstore : xr_lstore (XP b ex aC D L xs l) := by
  intro d y pc cn ls rest I J K h r t i x ls1 hd0 hl9 k0
  refine ⟨k0.1, fun M hM p e R s mm args below meth c Q H locs cells slots lsA C hR hz hS hc1 hc2 hl hret => ?_⟩
  obtain ⟨hx, hb, hml, hown, hnm, hts, hK, hF, hbs, hfr, hlo⟩ := id C
  obtain ⟨hcn, hdc, hst⟩ := xdec_of hM hd0
  subst hl9
  exact lv_lstore hx hb hdc hl (of_decide_eq_true hst) rfl (fun lsB hB => k0.2 M hM p e R s mm args below meth c Q H locs cells slots lsB C hR hz hS hc1 hc2 (xlsl_has hB) hret)
set_option maxHeartbeats 1000000 in
theorem s_lstore_n : xr_lstore_n (XP b ex aC D L xs l) := by
  intro d y pc cn ls rest I J K h r t k x ls1 hd0 hl9 k0
  refine ⟨k0.1, fun M hM p e R s mm args below meth c Q H locs cells slots lsA C hR hz hS hc1 hc2 hl hret => ?_⟩
  obtain ⟨hx, hb, hml, hown, hnm, hts, hK, hF, hbs, hfr, hlo⟩ := id C
  obtain ⟨hcn, hdc, hst⟩ := xdec_of hM hd0
  subst hl9
  exact lv_lstore_n hx hb hdc rfl hl (of_decide_eq_true hst) rfl (fun lsB hB => k0.2 M hM p e R s mm args below meth c Q H locs cells slots lsB C hR hz hS hc1 hc2 (xlsl_has hB) hret)
set_option maxHeartbeats 1000000 in
theorem s_aload : xr_aload (XP b ex aC D L xs l) := by
  intro d y pc cn ls rest I J K h r t i x hd0 hl9 k0
  refine ⟨k0.1, fun M hM p e R s mm args below meth c Q H locs cells slots lsA C hR hz hS hc1 hc2 hl hret => ?_⟩
  obtain ⟨hx, hb, hml, hown, hnm, hts, hK, hF, hbs, hfr, hlo⟩ := id C
  obtain ⟨hcn, hdc, hst⟩ := xdec_of hM hd0
  exact lv_aload hx hb hdc (xlg_at hl hl9) (k0.2 M hM p e R s mm args below meth c Q H locs cells slots lsA C hR hz hS hc1 hc2 hl hret)
set_option maxHeartbeats 1000000 in
theorem s_aload_n : xr_aload_n (XP b ex aC D L xs l) := by
  intro d y pc cn ls rest I J K h r t k x hd0 hl9 k0
  refine ⟨k0.1, fun M hM p e R s mm args below meth c Q H locs cells slots lsA C hR hz hS hc1 hc2 hl hret => ?_⟩
  obtain ⟨hx, hb, hml, hown, hnm, hts, hK, hF, hbs, hfr, hlo⟩ := id C
  obtain ⟨hcn, hdc, hst⟩ := xdec_of hM hd0
  exact lv_aload_n hx hb hdc rfl (xlg_at hl hl9) (k0.2 M hM p e R s mm args below meth c Q H locs cells slots lsA C hR hz hS hc1 hc2 hl hret)
set_option maxHeartbeats 1000000 in
theorem s_astore : xr_astore (XP b ex aC D L xs l) := by
  intro d y pc cn ls rest I J K h r t i x ls1 hd0 hl9 k0
  refine ⟨k0.1, fun M hM p e R s mm args below meth c Q H locs cells slots lsA C hR hz hS hc1 hc2 hl hret => ?_⟩
  obtain ⟨hx, hb, hml, hown, hnm, hts, hK, hF, hbs, hfr, hlo⟩ := id C
  obtain ⟨hcn, hdc, hst⟩ := xdec_of hM hd0
  subst hl9
  exact lv_astore hx hb hdc hl (of_decide_eq_true hst) rfl (fun lsB hB => k0.2 M hM p e R s mm args below meth c Q H locs cells slots lsB C hR hz hS hc1 hc2 (xls_has hB) hret)
set_option maxHeartbeats 1000000 in
theorem s_astore_n : xr_astore_n (XP b ex aC D L xs l) := by
  intro d y pc cn ls rest I J K h r t k x ls1 hd0 hl9 k0
  refine ⟨k0.1, fun M hM p e R s mm args below meth c Q H locs cells slots lsA C hR hz hS hc1 hc2 hl hret => ?_⟩
  obtain ⟨hx, hb, hml, hown, hnm, hts, hK, hF, hbs, hfr, hlo⟩ := id C
  obtain ⟨hcn, hdc, hst⟩ := xdec_of hM hd0
  subst hl9
  exact lv_astore_n hx hb hdc rfl hl (of_decide_eq_true hst) rfl (fun lsB hB => k0.2 M hM p e R s mm args below meth c Q H locs cells slots lsB C hR hz hS hc1 hc2 (xls_has hB) hret)
set_option maxHeartbeats 1000000 in
theorem s_iinc : xr_iinc (XP b ex aC D L xs l) := by
  intro d y pc cn ls rest I J K h r t i n x v ls1 hd0 hg hv hl9 k0
  refine ⟨k0.1, fun M hM p e R s mm args below meth c Q H locs cells slots lsA C hR hz hS hc1 hc2 hl hret => ?_⟩
  obtain ⟨hx, hb, hml, hown, hnm, hts, hK, hF, hbs, hfr, hlo⟩ := id C
  obtain ⟨hcn, hdc, hst⟩ := xdec_of hM hd0
  subst hl9
  obtain ⟨kk, hkk⟩ := List.getElem?_of_mem (List.mem_map.mpr ⟨(i, Value.int x), xlg_mem hg, rfl⟩ : (i, xcv b ex (.int x)) ∈ xcl b ex ls)
  exact lv_iinc hx hb hdc hl hkk hv (of_decide_eq_true hst) rfl (fun lsB hB => k0.2 M hM p e R s mm args below meth c Q H locs cells slots lsB C hR hz hS hc1 hc2 (xls_has hB) hret)
set_option maxHeartbeats 1000000 in
theorem s_iadd : xr_iadd (XP b ex aC D L xs l) := by
  intro d y pc cn ls rest I J K h r t x y1 hd0 k0
  refine ⟨k0.1, fun M hM p e R s mm args below meth c Q H locs cells slots lsA C hR hz hS hc1 hc2 hl hret => ?_⟩
  obtain ⟨hx, hb, hml, hown, hnm, hts, hK, hF, hbs, hfr, hlo⟩ := id C
  obtain ⟨hcn, hdc, hst⟩ := xdec_of hM hd0
  exact lv_iadd hx hb hdc  (k0.2 M hM p e R s mm args below meth c Q H locs cells slots lsA C hR hz hS hc1 hc2 hl hret)
set_option maxHeartbeats 1000000 in
theorem s_isub : xr_isub (XP b ex aC D L xs l) := by
  intro d y pc cn ls rest I J K h r t x y1 hd0 k0
  refine ⟨k0.1, fun M hM p e R s mm args below meth c Q H locs cells slots lsA C hR hz hS hc1 hc2 hl hret => ?_⟩
  obtain ⟨hx, hb, hml, hown, hnm, hts, hK, hF, hbs, hfr, hlo⟩ := id C
  obtain ⟨hcn, hdc, hst⟩ := xdec_of hM hd0
  exact lv_isub hx hb hdc  (k0.2 M hM p e R s mm args below meth c Q H locs cells slots lsA C hR hz hS hc1 hc2 hl hret)
set_option maxHeartbeats 1000000 in
theorem s_imul : xr_imul (XP b ex aC D L xs l) := by
  intro d y pc cn ls rest I J K h r t x y1 hd0 k0
  refine ⟨k0.1, fun M hM p e R s mm args below meth c Q H locs cells slots lsA C hR hz hS hc1 hc2 hl hret => ?_⟩
  obtain ⟨hx, hb, hml, hown, hnm, hts, hK, hF, hbs, hfr, hlo⟩ := id C
  obtain ⟨hcn, hdc, hst⟩ := xdec_of hM hd0
  exact lv_imul hx hb hdc  (k0.2 M hM p e R s mm args below meth c Q H locs cells slots lsA C hR hz hS hc1 hc2 hl hret)
set_option maxHeartbeats 1000000 in
theorem s_iand : xr_iand (XP b ex aC D L xs l) := by
  intro d y pc cn ls rest I J K h r t x y1 hd0 k0
  refine ⟨k0.1, fun M hM p e R s mm args below meth c Q H locs cells slots lsA C hR hz hS hc1 hc2 hl hret => ?_⟩
  obtain ⟨hx, hb, hml, hown, hnm, hts, hK, hF, hbs, hfr, hlo⟩ := id C
  obtain ⟨hcn, hdc, hst⟩ := xdec_of hM hd0
  exact lv_iand hx hb hdc  (k0.2 M hM p e R s mm args below meth c Q H locs cells slots lsA C hR hz hS hc1 hc2 hl hret)
set_option maxHeartbeats 1000000 in
theorem s_ior : xr_ior (XP b ex aC D L xs l) := by
  intro d y pc cn ls rest I J K h r t x y1 hd0 k0
  refine ⟨k0.1, fun M hM p e R s mm args below meth c Q H locs cells slots lsA C hR hz hS hc1 hc2 hl hret => ?_⟩
  obtain ⟨hx, hb, hml, hown, hnm, hts, hK, hF, hbs, hfr, hlo⟩ := id C
  obtain ⟨hcn, hdc, hst⟩ := xdec_of hM hd0
  exact lv_ior hx hb hdc  (k0.2 M hM p e R s mm args below meth c Q H locs cells slots lsA C hR hz hS hc1 hc2 hl hret)
set_option maxHeartbeats 1000000 in
theorem s_ixor : xr_ixor (XP b ex aC D L xs l) := by
  intro d y pc cn ls rest I J K h r t x y1 hd0 k0
  refine ⟨k0.1, fun M hM p e R s mm args below meth c Q H locs cells slots lsA C hR hz hS hc1 hc2 hl hret => ?_⟩
  obtain ⟨hx, hb, hml, hown, hnm, hts, hK, hF, hbs, hfr, hlo⟩ := id C
  obtain ⟨hcn, hdc, hst⟩ := xdec_of hM hd0
  exact lv_ixor hx hb hdc  (k0.2 M hM p e R s mm args below meth c Q H locs cells slots lsA C hR hz hS hc1 hc2 hl hret)
set_option maxHeartbeats 1000000 in
theorem s_ishl : xr_ishl (XP b ex aC D L xs l) := by
  intro d y pc cn ls rest I J K h r t x y1 hd0 k0
  refine ⟨k0.1, fun M hM p e R s mm args below meth c Q H locs cells slots lsA C hR hz hS hc1 hc2 hl hret => ?_⟩
  obtain ⟨hx, hb, hml, hown, hnm, hts, hK, hF, hbs, hfr, hlo⟩ := id C
  obtain ⟨hcn, hdc, hst⟩ := xdec_of hM hd0
  exact lv_ishl hx hb hdc  (k0.2 M hM p e R s mm args below meth c Q H locs cells slots lsA C hR hz hS hc1 hc2 hl hret)
set_option maxHeartbeats 1000000 in
theorem s_ishr : xr_ishr (XP b ex aC D L xs l) := by
  intro d y pc cn ls rest I J K h r t x y1 hd0 k0
  refine ⟨k0.1, fun M hM p e R s mm args below meth c Q H locs cells slots lsA C hR hz hS hc1 hc2 hl hret => ?_⟩
  obtain ⟨hx, hb, hml, hown, hnm, hts, hK, hF, hbs, hfr, hlo⟩ := id C
  obtain ⟨hcn, hdc, hst⟩ := xdec_of hM hd0
  exact lv_ishr hx hb hdc  (k0.2 M hM p e R s mm args below meth c Q H locs cells slots lsA C hR hz hS hc1 hc2 hl hret)
set_option maxHeartbeats 1000000 in
theorem s_ineg : xr_ineg (XP b ex aC D L xs l) := by
  intro d y pc cn ls rest I J K h r t x hd0 k0
  refine ⟨k0.1, fun M hM p e R s mm args below meth c Q H locs cells slots lsA C hR hz hS hc1 hc2 hl hret => ?_⟩
  obtain ⟨hx, hb, hml, hown, hnm, hts, hK, hF, hbs, hfr, hlo⟩ := id C
  obtain ⟨hcn, hdc, hst⟩ := xdec_of hM hd0
  exact lv_ineg hx hb hdc  (k0.2 M hM p e R s mm args below meth c Q H locs cells slots lsA C hR hz hS hc1 hc2 hl hret)
set_option maxHeartbeats 1000000 in
theorem s_land : xr_land (XP b ex aC D L xs l) := by
  intro d y pc cn ls rest I J K h r t x y1 hd0 k0
  refine ⟨k0.1, fun M hM p e R s mm args below meth c Q H locs cells slots lsA C hR hz hS hc1 hc2 hl hret => ?_⟩
  obtain ⟨hx, hb, hml, hown, hnm, hts, hK, hF, hbs, hfr, hlo⟩ := id C
  obtain ⟨hcn, hdc, hst⟩ := xdec_of hM hd0
  exact lv_land hx hb hdc  (k0.2 M hM p e R s mm args below meth c Q H locs cells slots lsA C hR hz hS hc1 hc2 hl hret)
set_option maxHeartbeats 1000000 in
theorem s_lor : xr_lor (XP b ex aC D L xs l) := by
  intro d y pc cn ls rest I J K h r t x y1 hd0 k0
  refine ⟨k0.1, fun M hM p e R s mm args below meth c Q H locs cells slots lsA C hR hz hS hc1 hc2 hl hret => ?_⟩
  obtain ⟨hx, hb, hml, hown, hnm, hts, hK, hF, hbs, hfr, hlo⟩ := id C
  obtain ⟨hcn, hdc, hst⟩ := xdec_of hM hd0
  exact lv_lor hx hb hdc  (k0.2 M hM p e R s mm args below meth c Q H locs cells slots lsA C hR hz hS hc1 hc2 hl hret)
set_option maxHeartbeats 1000000 in
theorem s_iushr : xr_iushr (XP b ex aC D L xs l) := by
  intro d y pc cn ls rest I J K h r t x y1 hd0 k0
  refine ⟨k0.1, fun M hM p e R s mm args below meth c Q H locs cells slots lsA C hR hz hS hc1 hc2 hl hret => ?_⟩
  obtain ⟨hx, hb, hml, hown, hnm, hts, hK, hF, hbs, hfr, hlo⟩ := id C
  obtain ⟨hcn, hdc, hst⟩ := xdec_of hM hd0
  exact lv_iushr hx hb hdc rfl (k0.2 M hM p e R s mm args below meth c Q H locs cells slots lsA C hR hz hS hc1 hc2 hl hret)
set_option maxHeartbeats 1000000 in
theorem s_i2l : xr_i2l (XP b ex aC D L xs l) := by
  intro d y pc cn ls rest I J K h r t x hd0 k0
  refine ⟨k0.1, fun M hM p e R s mm args below meth c Q H locs cells slots lsA C hR hz hS hc1 hc2 hl hret => ?_⟩
  obtain ⟨hx, hb, hml, hown, hnm, hts, hK, hF, hbs, hfr, hlo⟩ := id C
  obtain ⟨hcn, hdc, hst⟩ := xdec_of hM hd0
  exact lv_i2l hx hb hdc rfl (k0.2 M hM p e R s mm args below meth c Q H locs cells slots lsA C hR hz hS hc1 hc2 hl hret)
set_option maxHeartbeats 1000000 in
theorem s_l2i : xr_l2i (XP b ex aC D L xs l) := by
  intro d y pc cn ls rest I J K h r t x hd0 k0
  refine ⟨k0.1, fun M hM p e R s mm args below meth c Q H locs cells slots lsA C hR hz hS hc1 hc2 hl hret => ?_⟩
  obtain ⟨hx, hb, hml, hown, hnm, hts, hK, hF, hbs, hfr, hlo⟩ := id C
  obtain ⟨hcn, hdc, hst⟩ := xdec_of hM hd0
  exact lv_l2i hx hb hdc rfl (k0.2 M hM p e R s mm args below meth c Q H locs cells slots lsA C hR hz hS hc1 hc2 hl hret)
set_option maxHeartbeats 1000000 in
theorem s_i2b : xr_i2b (XP b ex aC D L xs l) := by
  intro d y pc cn ls rest I J K h r t x hd0 k0
  refine ⟨k0.1, fun M hM p e R s mm args below meth c Q H locs cells slots lsA C hR hz hS hc1 hc2 hl hret => ?_⟩
  obtain ⟨hx, hb, hml, hown, hnm, hts, hK, hF, hbs, hfr, hlo⟩ := id C
  obtain ⟨hcn, hdc, hst⟩ := xdec_of hM hd0
  exact lv_i2b hx hb hdc rfl (k0.2 M hM p e R s mm args below meth c Q H locs cells slots lsA C hR hz hS hc1 hc2 hl hret)
set_option maxHeartbeats 1000000 in
theorem s_i2s : xr_i2s (XP b ex aC D L xs l) := by
  intro d y pc cn ls rest I J K h r t x hd0 k0
  refine ⟨k0.1, fun M hM p e R s mm args below meth c Q H locs cells slots lsA C hR hz hS hc1 hc2 hl hret => ?_⟩
  obtain ⟨hx, hb, hml, hown, hnm, hts, hK, hF, hbs, hfr, hlo⟩ := id C
  obtain ⟨hcn, hdc, hst⟩ := xdec_of hM hd0
  exact lv_i2s hx hb hdc rfl (k0.2 M hM p e R s mm args below meth c Q H locs cells slots lsA C hR hz hS hc1 hc2 hl hret)
set_option maxHeartbeats 1000000 in
theorem s_i2c : xr_i2c (XP b ex aC D L xs l) := by
  intro d y pc cn ls rest I J K h r t x hd0 k0
  refine ⟨k0.1, fun M hM p e R s mm args below meth c Q H locs cells slots lsA C hR hz hS hc1 hc2 hl hret => ?_⟩
  obtain ⟨hx, hb, hml, hown, hnm, hts, hK, hF, hbs, hfr, hlo⟩ := id C
  obtain ⟨hcn, hdc, hst⟩ := xdec_of hM hd0
  exact lv_i2c hx hb hdc rfl (k0.2 M hM p e R s mm args below meth c Q H locs cells slots lsA C hR hz hS hc1 hc2 hl hret)
set_option maxHeartbeats 1000000 in
theorem s_lshl : xr_lshl (XP b ex aC D L xs l) := by
  intro d y pc cn ls rest I J K h r t x y1 hd0 k0
  refine ⟨k0.1, fun M hM p e R s mm args below meth c Q H locs cells slots lsA C hR hz hS hc1 hc2 hl hret => ?_⟩
  obtain ⟨hx, hb, hml, hown, hnm, hts, hK, hF, hbs, hfr, hlo⟩ := id C
  obtain ⟨hcn, hdc, hst⟩ := xdec_of hM hd0
  exact lv_lshl hx hb hdc rfl (k0.2 M hM p e R s mm args below meth c Q H locs cells slots lsA C hR hz hS hc1 hc2 hl hret)
set_option maxHeartbeats 1000000 in
theorem s_lcmp : xr_lcmp (XP b ex aC D L xs l) := by
  intro d y pc cn ls rest I J K h r t x y1 hd0 k0
  refine ⟨k0.1, fun M hM p e R s mm args below meth c Q H locs cells slots lsA C hR hz hS hc1 hc2 hl hret => ?_⟩
  obtain ⟨hx, hb, hml, hown, hnm, hts, hK, hF, hbs, hfr, hlo⟩ := id C
  obtain ⟨hcn, hdc, hst⟩ := xdec_of hM hd0
  exact W.lcmp hx hb hdc  (k0.2 M hM p e R s mm args below meth c Q H locs cells slots lsA C hR hz hS hc1 hc2 hl hret)
set_option maxHeartbeats 1000000 in
theorem s_idiv : xr_idiv (XP b ex aC D L xs l) := by
  intro d y pc cn ls rest I J K h r t x y1 hd0 hne k0
  refine ⟨k0.1, fun M hM p e R s mm args below meth c Q H locs cells slots lsA C hR hz hS hc1 hc2 hl hret => ?_⟩
  obtain ⟨hx, hb, hml, hown, hnm, hts, hK, hF, hbs, hfr, hlo⟩ := id C
  obtain ⟨hcn, hdc, hst⟩ := xdec_of hM hd0
  exact lv_idiv hx hb hdc hne (k0.2 M hM p e R s mm args below meth c Q H locs cells slots lsA C hR hz hS hc1 hc2 hl hret)
set_option maxHeartbeats 1000000 in
theorem s_irem : xr_irem (XP b ex aC D L xs l) := by
  intro d y pc cn ls rest I J K h r t x y1 hd0 hne k0
  refine ⟨k0.1, fun M hM p e R s mm args below meth c Q H locs cells slots lsA C hR hz hS hc1 hc2 hl hret => ?_⟩
  obtain ⟨hx, hb, hml, hown, hnm, hts, hK, hF, hbs, hfr, hlo⟩ := id C
  obtain ⟨hcn, hdc, hst⟩ := xdec_of hM hd0
  exact lv_irem hx hb hdc hne (k0.2 M hM p e R s mm args below meth c Q H locs cells slots lsA C hR hz hS hc1 hc2 hl hret)
set_option maxHeartbeats 1000000 in
theorem s_dup : xr_dup (XP b ex aC D L xs l) := by
  intro d y pc cn ls rest I J K h r t v hd0 hv k0
  refine ⟨k0.1, fun M hM p e R s mm args below meth c Q H locs cells slots lsA C hR hz hS hc1 hc2 hl hret => ?_⟩
  obtain ⟨hx, hb, hml, hown, hnm, hts, hK, hF, hbs, hfr, hlo⟩ := id C
  obtain ⟨hcn, hdc, hst⟩ := xdec_of hM hd0
  exact lv_dup hx hb hdc (by rw [xcv_cat]; exact hv) (k0.2 M hM p e R s mm args below meth c Q H locs cells slots lsA C hR hz hS hc1 hc2 hl hret)
set_option maxHeartbeats 1000000 in
theorem s_pop : xr_pop (XP b ex aC D L xs l) := by
  intro d y pc cn ls rest I J K h r t v hd0 hv k0
  refine ⟨k0.1, fun M hM p e R s mm args below meth c Q H locs cells slots lsA C hR hz hS hc1 hc2 hl hret => ?_⟩
  obtain ⟨hx, hb, hml, hown, hnm, hts, hK, hF, hbs, hfr, hlo⟩ := id C
  obtain ⟨hcn, hdc, hst⟩ := xdec_of hM hd0
  exact lv_pop hx hb hdc (by rw [xcv_cat]; exact hv) (k0.2 M hM p e R s mm args below meth c Q H locs cells slots lsA C hR hz hS hc1 hc2 hl hret)
set_option maxHeartbeats 1000000 in
theorem s_dup_x1 : xr_dup_x1 (XP b ex aC D L xs l) := by
  intro d y pc cn ls rest I J K h r t v w hd0 hv hw k0
  refine ⟨k0.1, fun M hM p e R s mm args below meth c Q H locs cells slots lsA C hR hz hS hc1 hc2 hl hret => ?_⟩
  obtain ⟨hx, hb, hml, hown, hnm, hts, hK, hF, hbs, hfr, hlo⟩ := id C
  obtain ⟨hcn, hdc, hst⟩ := xdec_of hM hd0
  exact lv_dup_x1 hx hb hdc (by rw [xcv_cat]; exact hv) (by rw [xcv_cat]; exact hw) (k0.2 M hM p e R s mm args below meth c Q H locs cells slots lsA C hR hz hS hc1 hc2 hl hret)
set_option maxHeartbeats 1000000 in
theorem s_if_eq : xr_if_eq (XP b ex aC D L xs l) := by
  intro d y pc cn ls rest I J K h r t x off tgt hd0 ht k0 k1
  have hp0 : h.length ≤ t.2.2.2.length ∧ xsz h ≤ xsz t.2.2.2 ∧ xrOk r := by
    by_cases z : x = 0
    · exact (k0 z).1
    · exact (k1 (by first | exact z | exact Classical.not_not.mp z)).1
  refine ⟨hp0, fun M hM p e R s mm args below meth c Q H locs cells slots lsA C hR hz hS hc1 hc2 hl hret => ?_⟩
  obtain ⟨hx, hb, hml, hown, hnm, hts, hK, hF, hbs, hfr, hlo⟩ := id C
  obtain ⟨hcn, hdc, hst⟩ := xdec_of hM hd0
  exact lv_if_eq hx hb hdc ht (fun z => (k0 z).2 M hM p e R s mm args below meth c Q H locs cells slots lsA C hR hz hS hc1 hc2 hl hret) (fun z => (k1 z).2 M hM p e R s mm args below meth c Q H locs cells slots lsA C hR hz hS hc1 hc2 hl hret)
set_option maxHeartbeats 1000000 in
theorem s_icmp_eq : xr_icmp_eq (XP b ex aC D L xs l) := by
  intro d y pc cn ls rest I J K h r t x y1 off tgt hd0 ht k0 k1
  have hp0 : h.length ≤ t.2.2.2.length ∧ xsz h ≤ xsz t.2.2.2 ∧ xrOk r := by
    by_cases z : x = y1
    · exact (k0 z).1
    · exact (k1 (by first | exact z | exact Classical.not_not.mp z)).1
  refine ⟨hp0, fun M hM p e R s mm args below meth c Q H locs cells slots lsA C hR hz hS hc1 hc2 hl hret => ?_⟩
  obtain ⟨hx, hb, hml, hown, hnm, hts, hK, hF, hbs, hfr, hlo⟩ := id C
  obtain ⟨hcn, hdc, hst⟩ := xdec_of hM hd0
  exact lv_icmp_eq hx hb hdc ht (fun z => (k0 z).2 M hM p e R s mm args below meth c Q H locs cells slots lsA C hR hz hS hc1 hc2 hl hret) (fun z => (k1 z).2 M hM p e R s mm args below meth c Q H locs cells slots lsA C hR hz hS hc1 hc2 hl hret)
set_option maxHeartbeats 1000000 in
theorem s_if_ne : xr_if_ne (XP b ex aC D L xs l) := by
  intro d y pc cn ls rest I J K h r t x off tgt hd0 ht k0 k1
  have hp0 : h.length ≤ t.2.2.2.length ∧ xsz h ≤ xsz t.2.2.2 ∧ xrOk r := by
    by_cases z : ¬ x = 0
    · exact (k0 z).1
    · exact (k1 (by first | exact z | exact Classical.not_not.mp z)).1
  refine ⟨hp0, fun M hM p e R s mm args below meth c Q H locs cells slots lsA C hR hz hS hc1 hc2 hl hret => ?_⟩
  obtain ⟨hx, hb, hml, hown, hnm, hts, hK, hF, hbs, hfr, hlo⟩ := id C
  obtain ⟨hcn, hdc, hst⟩ := xdec_of hM hd0
  exact lv_if_ne hx hb hdc ht (fun z => (k0 z).2 M hM p e R s mm args below meth c Q H locs cells slots lsA C hR hz hS hc1 hc2 hl hret) (fun z => (k1 z).2 M hM p e R s mm args below meth c Q H locs cells slots lsA C hR hz hS hc1 hc2 hl hret)
set_option maxHeartbeats 1000000 in
theorem s_icmp_ne : xr_icmp_ne (XP b ex aC D L xs l) := by
  intro d y pc cn ls rest I J K h r t x y1 off tgt hd0 ht k0 k1
  have hp0 : h.length ≤ t.2.2.2.length ∧ xsz h ≤ xsz t.2.2.2 ∧ xrOk r := by
    by_cases z : ¬ x = y1
    · exact (k0 z).1
    · exact (k1 (by first | exact z | exact Classical.not_not.mp z)).1
  refine ⟨hp0, fun M hM p e R s mm args below meth c Q H locs cells slots lsA C hR hz hS hc1 hc2 hl hret => ?_⟩
  obtain ⟨hx, hb, hml, hown, hnm, hts, hK, hF, hbs, hfr, hlo⟩ := id C
  obtain ⟨hcn, hdc, hst⟩ := xdec_of hM hd0
  exact lv_icmp_ne hx hb hdc ht (fun z => (k0 z).2 M hM p e R s mm args below meth c Q H locs cells slots lsA C hR hz hS hc1 hc2 hl hret) (fun z => (k1 z).2 M hM p e R s mm args below meth c Q H locs cells slots lsA C hR hz hS hc1 hc2 hl hret)
set_option maxHeartbeats 1000000 in
theorem s_if_lt : xr_if_lt (XP b ex aC D L xs l) := by
  intro d y pc cn ls rest I J K h r t x off tgt hd0 ht k0 k1
  have hp0 : h.length ≤ t.2.2.2.length ∧ xsz h ≤ xsz t.2.2.2 ∧ xrOk r := by
    by_cases z : x < 0
    · exact (k0 z).1
    · exact (k1 (by first | exact z | exact Classical.not_not.mp z)).1
  refine ⟨hp0, fun M hM p e R s mm args below meth c Q H locs cells slots lsA C hR hz hS hc1 hc2 hl hret => ?_⟩
  obtain ⟨hx, hb, hml, hown, hnm, hts, hK, hF, hbs, hfr, hlo⟩ := id C
  obtain ⟨hcn, hdc, hst⟩ := xdec_of hM hd0
  exact lv_if_lt hx hb hdc ht (fun z => (k0 z).2 M hM p e R s mm args below meth c Q H locs cells slots lsA C hR hz hS hc1 hc2 hl hret) (fun z => (k1 z).2 M hM p e R s mm args below meth c Q H locs cells slots lsA C hR hz hS hc1 hc2 hl hret)
set_option maxHeartbeats 1000000 in
theorem s_icmp_lt : xr_icmp_lt (XP b ex aC D L xs l) := by
  intro d y pc cn ls rest I J K h r t x y1 off tgt hd0 ht k0 k1
  have hp0 : h.length ≤ t.2.2.2.length ∧ xsz h ≤ xsz t.2.2.2 ∧ xrOk r := by
    by_cases z : x < y1
    · exact (k0 z).1
    · exact (k1 (by first | exact z | exact Classical.not_not.mp z)).1
  refine ⟨hp0, fun M hM p e R s mm args below meth c Q H locs cells slots lsA C hR hz hS hc1 hc2 hl hret => ?_⟩
  obtain ⟨hx, hb, hml, hown, hnm, hts, hK, hF, hbs, hfr, hlo⟩ := id C
  obtain ⟨hcn, hdc, hst⟩ := xdec_of hM hd0
  exact lv_icmp_lt hx hb hdc ht (fun z => (k0 z).2 M hM p e R s mm args below meth c Q H locs cells slots lsA C hR hz hS hc1 hc2 hl hret) (fun z => (k1 z).2 M hM p e R s mm args below meth c Q H locs cells slots lsA C hR hz hS hc1 hc2 hl hret)
set_option maxHeartbeats 1000000 in
theorem s_if_ge : xr_if_ge (XP b ex aC D L xs l) := by
  intro d y pc cn ls rest I J K h r t x off tgt hd0 ht k0 k1
  have hp0 : h.length ≤ t.2.2.2.length ∧ xsz h ≤ xsz t.2.2.2 ∧ xrOk r := by
    by_cases z : 0 ≤ x
    · exact (k0 z).1
    · exact (k1 (by first | exact z | exact Classical.not_not.mp z)).1
  refine ⟨hp0, fun M hM p e R s mm args below meth c Q H locs cells slots lsA C hR hz hS hc1 hc2 hl hret => ?_⟩
  obtain ⟨hx, hb, hml, hown, hnm, hts, hK, hF, hbs, hfr, hlo⟩ := id C
  obtain ⟨hcn, hdc, hst⟩ := xdec_of hM hd0
  exact lv_if_ge hx hb hdc ht (fun z => (k0 z).2 M hM p e R s mm args below meth c Q H locs cells slots lsA C hR hz hS hc1 hc2 hl hret) (fun z => (k1 z).2 M hM p e R s mm args below meth c Q H locs cells slots lsA C hR hz hS hc1 hc2 hl hret)
set_option maxHeartbeats 1000000 in
theorem s_icmp_ge : xr_icmp_ge (XP b ex aC D L xs l) := by
  intro d y pc cn ls rest I J K h r t x y1 off tgt hd0 ht k0 k1
  have hp0 : h.length ≤ t.2.2.2.length ∧ xsz h ≤ xsz t.2.2.2 ∧ xrOk r := by
    by_cases z : y1 ≤ x
    · exact (k0 z).1
    · exact (k1 (by first | exact z | exact Classical.not_not.mp z)).1
  refine ⟨hp0, fun M hM p e R s mm args below meth c Q H locs cells slots lsA C hR hz hS hc1 hc2 hl hret => ?_⟩
  obtain ⟨hx, hb, hml, hown, hnm, hts, hK, hF, hbs, hfr, hlo⟩ := id C
  obtain ⟨hcn, hdc, hst⟩ := xdec_of hM hd0
  exact lv_icmp_ge hx hb hdc ht (fun z => (k0 z).2 M hM p e R s mm args below meth c Q H locs cells slots lsA C hR hz hS hc1 hc2 hl hret) (fun z => (k1 z).2 M hM p e R s mm args below meth c Q H locs cells slots lsA C hR hz hS hc1 hc2 hl hret)
set_option maxHeartbeats 1000000 in
theorem s_if_gt : xr_if_gt (XP b ex aC D L xs l) := by
  intro d y pc cn ls rest I J K h r t x off tgt hd0 ht k0 k1
  have hp0 : h.length ≤ t.2.2.2.length ∧ xsz h ≤ xsz t.2.2.2 ∧ xrOk r := by
    by_cases z : 0 < x
    · exact (k0 z).1
    · exact (k1 (by first | exact z | exact Classical.not_not.mp z)).1
  refine ⟨hp0, fun M hM p e R s mm args below meth c Q H locs cells slots lsA C hR hz hS hc1 hc2 hl hret => ?_⟩
  obtain ⟨hx, hb, hml, hown, hnm, hts, hK, hF, hbs, hfr, hlo⟩ := id C
  obtain ⟨hcn, hdc, hst⟩ := xdec_of hM hd0
  exact lv_if_gt hx hb hdc ht (fun z => (k0 z).2 M hM p e R s mm args below meth c Q H locs cells slots lsA C hR hz hS hc1 hc2 hl hret) (fun z => (k1 z).2 M hM p e R s mm args below meth c Q H locs cells slots lsA C hR hz hS hc1 hc2 hl hret)
set_option maxHeartbeats 1000000 in
theorem s_icmp_gt : xr_icmp_gt (XP b ex aC D L xs l) := by
  intro d y pc cn ls rest I J K h r t x y1 off tgt hd0 ht k0 k1
  have hp0 : h.length ≤ t.2.2.2.length ∧ xsz h ≤ xsz t.2.2.2 ∧ xrOk r := by
    by_cases z : y1 < x
    · exact (k0 z).1
    · exact (k1 (by first | exact z | exact Classical.not_not.mp z)).1
  refine ⟨hp0, fun M hM p e R s mm args below meth c Q H locs cells slots lsA C hR hz hS hc1 hc2 hl hret => ?_⟩
  obtain ⟨hx, hb, hml, hown, hnm, hts, hK, hF, hbs, hfr, hlo⟩ := id C
  obtain ⟨hcn, hdc, hst⟩ := xdec_of hM hd0
  exact lv_icmp_gt hx hb hdc ht (fun z => (k0 z).2 M hM p e R s mm args below meth c Q H locs cells slots lsA C hR hz hS hc1 hc2 hl hret) (fun z => (k1 z).2 M hM p e R s mm args below meth c Q H locs cells slots lsA C hR hz hS hc1 hc2 hl hret)
set_option maxHeartbeats 1000000 in
theorem s_if_le : xr_if_le (XP b ex aC D L xs l) := by
  intro d y pc cn ls rest I J K h r t x off tgt hd0 ht k0 k1
  have hp0 : h.length ≤ t.2.2.2.length ∧ xsz h ≤ xsz t.2.2.2 ∧ xrOk r := by
    by_cases z : x ≤ 0
    · exact (k0 z).1
    · exact (k1 (by first | exact z | exact Classical.not_not.mp z)).1
  refine ⟨hp0, fun M hM p e R s mm args below meth c Q H locs cells slots lsA C hR hz hS hc1 hc2 hl hret => ?_⟩
  obtain ⟨hx, hb, hml, hown, hnm, hts, hK, hF, hbs, hfr, hlo⟩ := id C
  obtain ⟨hcn, hdc, hst⟩ := xdec_of hM hd0
  exact lv_if_le hx hb hdc ht (fun z => (k0 z).2 M hM p e R s mm args below meth c Q H locs cells slots lsA C hR hz hS hc1 hc2 hl hret) (fun z => (k1 z).2 M hM p e R s mm args below meth c Q H locs cells slots lsA C hR hz hS hc1 hc2 hl hret)
set_option maxHeartbeats 1000000 in
theorem s_icmp_le : xr_icmp_le (XP b ex aC D L xs l) := by
  intro d y pc cn ls rest I J K h r t x y1 off tgt hd0 ht k0 k1
  have hp0 : h.length ≤ t.2.2.2.length ∧ xsz h ≤ xsz t.2.2.2 ∧ xrOk r := by
    by_cases z : x ≤ y1
    · exact (k0 z).1
    · exact (k1 (by first | exact z | exact Classical.not_not.mp z)).1
  refine ⟨hp0, fun M hM p e R s mm args below meth c Q H locs cells slots lsA C hR hz hS hc1 hc2 hl hret => ?_⟩
  obtain ⟨hx, hb, hml, hown, hnm, hts, hK, hF, hbs, hfr, hlo⟩ := id C
  obtain ⟨hcn, hdc, hst⟩ := xdec_of hM hd0
  exact lv_icmp_le hx hb hdc ht (fun z => (k0 z).2 M hM p e R s mm args below meth c Q H locs cells slots lsA C hR hz hS hc1 hc2 hl hret) (fun z => (k1 z).2 M hM p e R s mm args below meth c Q H locs cells slots lsA C hR hz hS hc1 hc2 hl hret)
set_option maxHeartbeats 1000000 in
theorem s_goto : xr_goto (XP b ex aC D L xs l) := by
  intro d y pc cn ls rest I J K h r t off tgt hd0 ht k0
  refine ⟨k0.1, fun M hM p e R s mm args below meth c Q H locs cells slots lsA C hR hz hS hc1 hc2 hl hret => ?_⟩
  obtain ⟨hx, hb, hml, hown, hnm, hts, hK, hF, hbs, hfr, hlo⟩ := id C
  obtain ⟨hcn, hdc, hst⟩ := xdec_of hM hd0
  exact lv_goto hx hb hdc ht (k0.2 M hM p e R s mm args below meth c Q H locs cells slots lsA C hR hz hS hc1 hc2 hl hret)
set_option maxHeartbeats 1000000 in
theorem s_aload_nN : xr_aload_nN (XP b ex aC D L xs l) := by
  intro d y pc cn ls rest I J K h r t k hd0 hl9 k0
  refine ⟨k0.1, fun M hM p e R s mm args below meth c Q H locs cells slots lsA C hR hz hS hc1 hc2 hl hret => ?_⟩
  obtain ⟨hx, hb, hml, hown, hnm, hts, hK, hF, hbs, hfr, hlo⟩ := id C
  obtain ⟨hcn, hdc, hst⟩ := xdec_of hM hd0
  exact lv_aload_nN hx hb hdc rfl (xlg_at hl hl9) (k0.2 M hM p e R s mm args below meth c Q H locs cells slots lsA C hR hz hS hc1 hc2 hl hret)
set_option maxHeartbeats 1000000 in
theorem s_tableOut : xr_tableOut (XP b ex aC D L xs l) := by
  intro d y pc cn ls rest I J K h r t dflt lo hi offs len x tgt hd0 hx9 ht k0
  refine ⟨k0.1, fun M hM p e R s mm args below meth c Q H locs cells slots lsA C hR hz hS hc1 hc2 hl hret => ?_⟩
  obtain ⟨hx, hb, hml, hown, hnm, hts, hK, hF, hbs, hfr, hlo⟩ := id C
  obtain ⟨hcn, hdc, hst⟩ := xdec_of hM hd0
  exact lv_tableOut hx hb hdc hx9 ht (k0.2 M hM p e R s mm args below meth c Q H locs cells slots lsA C hR hz hS hc1 hc2 hl hret)
set_option maxHeartbeats 1000000 in
theorem s_tableIn : xr_tableIn (XP b ex aC D L xs l) := by
  intro d y pc cn ls rest I J K h r t dflt lo hi offs len x off tgt hd0 h1 h2 ho ht k0
  refine ⟨k0.1, fun M hM p e R s mm args below meth c Q H locs cells slots lsA C hR hz hS hc1 hc2 hl hret => ?_⟩
  obtain ⟨hx, hb, hml, hown, hnm, hts, hK, hF, hbs, hfr, hlo⟩ := id C
  obtain ⟨hcn, hdc, hst⟩ := xdec_of hM hd0
  exact lv_tableIn hx hb hdc h1 h2 ho ht (k0.2 M hM p e R s mm args below meth c Q H locs cells slots lsA C hR hz hS hc1 hc2 hl hret)
set_option maxHeartbeats 1000000 in
theorem s_lookup : xr_lookup (XP b ex aC D L xs l) := by
  intro d y pc cn ls rest I J K h r t dflt ps len x off tgt hd0 hp ho ht k0
  refine ⟨k0.1, fun M hM p e R s mm args below meth c Q H locs cells slots lsA C hR hz hS hc1 hc2 hl hret => ?_⟩
  obtain ⟨hx, hb, hml, hown, hnm, hts, hK, hF, hbs, hfr, hlo⟩ := id C
  obtain ⟨hcn, hdc, hst⟩ := xdec_of hM hd0
  exact lv_lookup hx hb hdc hp ho ht (k0.2 M hM p e R s mm args below meth c Q H locs cells slots lsA C hR hz hS hc1 hc2 hl hret)
theorem s_drop : xr_drop (XP b ex aC D L xs l) := by
  intro d y pc cn ls rest I J K h r t ks ls' hl9 k0
  subst hl9
  refine ⟨k0.1, fun M hM p e R s mm args below meth c Q H locs cells slots lsA C hR hz hS hc1 hc2 hl hret => ?_⟩
  exact k0.2 M hM p e R s mm args below meth c Q H locs cells slots lsA C hR hz hS hc1 hc2 ⟨hl.1, hl.2.1, fun q hq => hl.2.2 q (by obtain ⟨q0, h0, rfl⟩ := List.mem_map.mp hq; exact List.mem_map.mpr ⟨q0, (List.mem_filter.mp h0).1, rfl⟩)⟩ hret
end RULES
