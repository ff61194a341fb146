/-! calls, ends, texts; every run is a run of the machine -/
section RULES3
variable {b : Nat} {ex : Nat → Nat} {aC : FieldType → ClassId} {D : va_G} {L : Nat} {xs : Nat → Int32} {l : Launch}
theorem xrt_of {y : Nat} {M : xMe} {ty : Option FieldType} (hM : xM[y]? = some M) (h : xrt y = ty) : M.2.2.2.2 = ty := by
  unfold xrt at h
  rw [hM] at h
  exact h
theorem xml_of {y ml : Nat} {M : xMe} (hM : xM[y]? = some M) (h : xml y = ml) : M.2.2.2.1 = ml := by
  unfold xml at h
  rw [hM] at h
  exact h
theorem xM_of {y : Nat} {M : xMe} (h : xMt[y]? = some M) : xM[y]? = some M := by
  unfold xM
  rw [List.getElem?_append_left (List.getElem?_eq_some_iff.mp h).1]
  exact h
set_option maxHeartbeats 1000000 in
theorem s_ireturn : xr_ireturn (XP b ex aC D L xs l) := by
  intro d y pc cn ls I J K h x hd0 hr
  refine ⟨⟨Nat.le_refl _, Nat.le_refl _, trivial⟩, fun M hM p e R s mm args below meth c Q H locs cells slots lsA C hR hz hS hc1 hc2 hl hret => ?_⟩
  obtain ⟨hcn, hdc, hst⟩ := xdec_of hM hd0
  have hr9 := xrt_of hM hr
  have k1 := hret pc H locs lsA hR hS ⟨hdc, _, hr9, rfl⟩
  exact W.cs (by rw [Nat.sub_self]; rfl) (by rw [Nat.sub_self]; rfl) k1
set_option maxHeartbeats 1000000 in
theorem s_zreturn : xr_zreturn (XP b ex aC D L xs l) := by
  intro d y pc cn ls I J K h x hd0 hr hx9
  refine ⟨⟨Nat.le_refl _, Nat.le_refl _, trivial⟩, fun M hM p e R s mm args below meth c Q H locs cells slots lsA C hR hz hS hc1 hc2 hl hret => ?_⟩
  obtain ⟨hcn, hdc, hst⟩ := xdec_of hM hd0
  have hr9 := xrt_of hM hr
  have k1 := hret pc H locs lsA hR hS ⟨hdc, _, hr9, by rcases hx9 with rfl | rfl <;> rfl⟩
  exact W.cs (by rw [Nat.sub_self]; rfl) (by rw [Nat.sub_self]; rfl) k1
set_option maxHeartbeats 1000000 in
theorem s_treturn : xr_treturn (XP b ex aC D L xs l) := by
  intro d y pc cn ls I J K h x ty hd0 hr hx9
  refine ⟨⟨Nat.le_refl _, Nat.le_refl _, trivial⟩, fun M hM p e R s mm args below meth c Q H locs cells slots lsA C hR hz hS hc1 hc2 hl hret => ?_⟩
  obtain ⟨hcn, hdc, hst⟩ := xdec_of hM hd0
  have hr9 := xrt_of hM hr
  have k1 := hret pc H locs lsA hR hS ⟨hdc, _, hr9, hx9⟩
  exact W.cs (by rw [Nat.sub_self]; rfl) (by rw [Nat.sub_self]; rfl) k1
set_option maxHeartbeats 1000000 in
theorem s_lreturn : xr_lreturn (XP b ex aC D L xs l) := by
  intro d y pc cn ls I J K h x hd0 hr
  refine ⟨⟨Nat.le_refl _, Nat.le_refl _, trivial⟩, fun M hM p e R s mm args below meth c Q H locs cells slots lsA C hR hz hS hc1 hc2 hl hret => ?_⟩
  obtain ⟨hcn, hdc, hst⟩ := xdec_of hM hd0
  have hr9 := xrt_of hM hr
  have k1 := hret pc H locs lsA hR hS ⟨hdc, hr9⟩
  exact W.cs (by rw [Nat.sub_self]; rfl) (by rw [Nat.sub_self]; rfl) k1
set_option maxHeartbeats 1000000 in
theorem s_areturn : xr_areturn (XP b ex aC D L xs l) := by
  intro d y pc cn ls I J K h a C hd0 hr
  refine ⟨⟨Nat.le_refl _, Nat.le_refl _, trivial⟩, fun M hM p e R s mm args below meth c Q H locs cells slots lsA C hR hz hS hc1 hc2 hl hret => ?_⟩
  obtain ⟨hcn, hdc, hst⟩ := xdec_of hM hd0
  have hr9 := xrt_of hM hr
  have k1 := hret pc H locs lsA hR hS ⟨hdc, _, hr9⟩
  exact W.cs (by rw [Nat.sub_self]; rfl) (by rw [Nat.sub_self]; rfl) k1
set_option maxHeartbeats 1000000 in
theorem s_return : xr_return (XP b ex aC D L xs l) := by
  intro d y pc cn ls I J K h hd0 hr
  refine ⟨⟨Nat.le_refl _, Nat.le_refl _, trivial⟩, fun M hM p e R s mm args below meth c Q H locs cells slots lsA C hR hz hS hc1 hc2 hl hret => ?_⟩
  obtain ⟨hcn, hdc, hst⟩ := xdec_of hM hd0
  have hr9 := xrt_of hM hr
  have k1 := hret pc H locs lsA hR hS ⟨hdc, hr9⟩
  exact W.cs (by rw [Nat.sub_self]; rfl) (by rw [Nat.sub_self]; rfl) k1
/-- what a method's end says -/
def xQ (b : Nat) (ex : Nat → Nat) (aC : FieldType → ClassId) (D : va_G) (L : Nat) (xs : Nat → Int32) (r : Option Value) (t : xMem) : Array Value → State → Outcome → State → Prop := match r with
  | none => va_Qv (fun (_ : Unit) => True) (fun _ U => XR b ex aC D L xs t U.heap) (xA b)
  | some (.int x) => va_Qi (fun z (_ : Unit) => z = x) (fun _ U => XR b ex aC D L xs t U.heap) (xA b)
  | some (.long x) => va_Ql (fun z (_ : Unit) => z = x) (fun _ U => XR b ex aC D L xs t U.heap) (xA b)
  | some (.ref a) => va_Qr (fun (_ : Unit) => True) (fun _ z U => z = xphi b ex a ∧ XR b ex aC D L xs t U.heap) (xA b)
  | _ => fun _ _ _ _ => True
theorem xlen_sl (vs : List Value) : (lg_sl vs).length ≤ (vs.map fun v => v.category).sum := by
  induction vs with
  | nil => exact Nat.le_refl _
  | cons v l ih =>
    have hc := lv_cat v
    show (List.length (lg_sl (v :: l))) ≤ v.category + (l.map fun v => v.category).sum
    have e : lg_sl (v :: l) = (if v.category = 2 then [Slot.val v, Slot.second] else [Slot.val v]) ++ lg_sl l := by simp [lg_sl]
    rw [e, List.length_append]
    rcases hc with h | h
    · rw [if_neg (by omega)]
      show 1 + _ ≤ _
      omega
    · rw [if_pos h]
      show 2 + _ ≤ _
      omega
set_option maxHeartbeats 1000000 in
/-- a method's contract, out of its run -/
theorem XP_met {d y : Nat} {As : List Value} {m t : xMem} {r : Option Value} {M : xMe} (h : XP b ex aC D L xs l d y 0 (lv_args 0 As) [] m r t) (hMt : xMt[y]? = some M) (hw : (As.map fun v => v.category).sum ≤ M.2.2.2.1) : Met l M.2.1 (Cond.code M.2.1 M.2.2.1 M.2.2.2.1 M.2.2.2.2 :: xW) ({ frames := d, cells := t.2.2.2.length - m.2.2.2.length, slots := xsz t.2.2.2 - xsz m.2.2.2, locals := 100 * d }) (va_Pc (xcs b ex As) (XB b ex aC D L xs m)) (xQ b ex aC D L xs r t) (t.2.2.2.length - m.2.2.2.length) (xsz t.2.2.2 - xsz m.2.2.2) (xA b) := by
  obtain ⟨hMc, hMp, hMcode, hMini, hMnh, hM80⟩ := xMt_ok M (List.mem_of_getElem? hMt)
  refine Met.ofW (cc := M.2.2.1) (maxL := M.2.2.2.1) (ret := M.2.2.2.2) hMp rfl ?_
  intro p e s mm args below meth c s₁ B hml hv
  obtain ⟨rfl, hR, hK, hF⟩ := hv
  have hts := atoms_spec (ws := Cond.code M.2.1 M.2.2.1 M.2.2.2.1 M.2.2.2.2 :: xW) B.pre
  have hown : s.vm.findClass (xR M.1) = some mm.cls := by rw [← hMc]; exact findClass_of_methodNamed B.named
  have hlo := B.notSynchronized
  have hret := B.returns
  have hl := lv_entry (xcs b ex As) (n := M.2.2.2.1) (Nat.le_trans (xlen_sl _) (by rw [xcs_sum]; exact hw))
  rw [lg_entry_eq]
  generalize (lg_sl (xcs b ex As) ++ List.replicate (M.2.2.2.1 - (lg_sl (xcs b ex As)).length) Slot.unset).toArray = ls at hl ⊢
  rw [xcs_args] at hl
  have hbs : b ≤ s.heap.size := by rw [hR.2.1]; omega
  refine h.2 M (xM_of hMt) p e _ s mm _ below meth c _ s.heap [] 0 0 ls ⟨B.exec, B.bytes, hml, hown, (name_of_methodNamed B.named B.method).1, fun w hw => hts w (List.mem_cons_of_mem _ hw), hK, hF, hbs, Nat.le_refl _, Nat.le_refl _⟩ hR hR.2.1 va_S.rf (by rw [Nat.zero_add]; exact Nat.le_refl _) (by rw [Nat.zero_add]; exact Nat.le_refl _) hl ?_
  intro pc' H' locs' ls' hR' hS' hI
  refine W.cs (Nat.zero_add _) (Nat.zero_add _) ?_
  cases r with
  | none => exact W.vret B.exec B.bytes (by rw [hret]; exact hI.2) (fun t9 ht9 hW9 => ⟨⟨(), rfl, trivial, by have e9 := hR'; rw [← ht9] at e9; exact e9⟩, hS'.F ht9⟩) hS'.2.2 hI.1
  | some v =>
    cases v with
    | int x =>
      obtain ⟨hI1, ty, hI2, hI3⟩ := hI
      exact W.zret B.exec B.bytes (by rw [hret]; exact hI2) hI3 (fun t9 ht9 hW9 => ⟨⟨x, (), rfl, rfl, by have e9 := hR'; rw [← ht9] at e9; exact e9⟩, hS'.F ht9⟩) hS'.2.2 hI1
    | long x => exact W.lret B.exec B.bytes (by rw [hret]; exact hI.2) (fun t9 ht9 hW9 => ⟨⟨x, (), rfl, rfl, by have e9 := hR'; rw [← ht9] at e9; exact e9⟩, hS'.F ht9⟩) hS'.2.2 hI.1
    | ref a =>
      obtain ⟨hI1, C, hI2⟩ := hI
      exact W.aret B.exec B.bytes (by rw [hret]; exact hI2) (Or.inl ⟨C, rfl⟩) (Or.inr ⟨_, rfl⟩) (fun t9 ht9 hW9 => ⟨⟨(), xphi b ex a, rfl, trivial, rfl, by have e9 := hR'; rw [← ht9] at e9; exact e9⟩, hS'.F ht9⟩) hS'.2.2 hI1
    | _ => exact hI.elim
set_option maxHeartbeats 1000000 in
/-- behind a call -/
theorem XP_after {d y pc : Nat} {ls : List (Nat × Value)} {rest : List Value} {m m1 t : xMem} {r q : Option Value} {M : xMe} (hM : xM[y]? = some M) {p : Program} {e : Env} {R : Room} {s : State} {mm : MethodId} {args : Array Value} {below : List Frame} {meth : Method} {c : Code} {Q : State → Prop} {H : Heap} {locs : List Loc} {cells slots : Nat} {lsA : Array Slot} {st0 : List Value} {a : Array Value}
    (hq : m.2.2.2.length ≤ m1.2.2.2.length ∧ xsz m.2.2.2 ≤ xsz m1.2.2.2 ∧ xrOk q) (k : XP b ex aC D L xs l d y (pc + 3) ls (q.toList ++ rest) m1 r t)
    (C : xCtx b ex aC D L xs M d p R s mm args meth c) (hR : XR b ex aC D L xs m H) (hz : s.heap.size + cells = b + m.2.2.2.length) (hS : va_S (xA b) s.heap H locs) (hc1 : cells + (t.2.2.2.length - m.2.2.2.length) ≤ R.cells) (hc2 : slots + (xsz t.2.2.2 - xsz m.2.2.2) ≤ R.slots) (hl : lv_has lsA M.2.2.2.1 (xcl b ex ls))
    (hret : ∀ (pc' : Nat) (H' : Heap) (locs' : List Loc) (ls' : Array Slot), XR b ex aC D L xs t H' → va_S (xA b) s.heap H' locs' → xretI M pc' r → W p l e R s mm args below meth c H' locs' (cells + (t.2.2.2.length - m.2.2.2.length)) (slots + (xsz t.2.2.2 - xsz m.2.2.2)) Q (F0 mm pc' ls' (xcs b ex r.toList)))
    (hr : va_Run p l e R s mm args below meth c H locs cells slots (m1.2.2.2.length - m.2.2.2.length) (xsz m1.2.2.2 - xsz m.2.2.2) (F0 mm pc lsA st0) (xcs b ex rest) (xQ b ex aC D L xs q m1 a) (xA b)) : W p l e R s mm args below meth c H locs cells slots Q (F0 mm pc lsA st0) := by
  obtain ⟨g1, g2, g3⟩ := hq
  have g4 := k.1.1
  have g5 := k.1.2.1
  have hz1 : s.heap.size + (cells + (m1.2.2.2.length - m.2.2.2.length)) = b + m1.2.2.2.length := by omega
  have hd1 : cells + (m1.2.2.2.length - m.2.2.2.length) + (t.2.2.2.length - m1.2.2.2.length) = cells + (t.2.2.2.length - m.2.2.2.length) := by omega
  have hd2 : slots + (xsz m1.2.2.2 - xsz m.2.2.2) + (xsz t.2.2.2 - xsz m1.2.2.2) = slots + (xsz t.2.2.2 - xsz m.2.2.2) := by omega
  have next : ∀ (H1 : Heap) (locs1 : List Loc), XR b ex aC D L xs m1 H1 → va_S (xA b) s.heap H1 locs1 → W p l e R s mm args below meth c H1 locs1 (cells + (m1.2.2.2.length - m.2.2.2.length)) (slots + (xsz m1.2.2.2 - xsz m.2.2.2)) Q (F0 mm (pc + 3) lsA (xcs b ex (q.toList ++ rest))) := fun H1 locs1 hR1 hS1 => k.2 M hM p e R s mm args below meth c Q H1 locs1 _ _ lsA C hR1 hz1 hS1 (by omega) (by omega) hl (fun pc' H' locs' ls' a1 a2 a3 => W.cs hd1 hd2 (hret pc' H' locs' ls' a1 a2 a3))
  cases q with
  | none => exact va_callv (a := a) hr hS (fun q _ h => h) (fun q h => h) (fun u t9 H1 locs1 ht hvm hp hB hz9 hk9 hS1 => next H1 locs1 (by rw [← ht]; exact hB) hS1)
  | some v =>
    cases v with
    | int x => exact va_calli (a := a) hr hS (fun q _ h => h) (fun q h => h) (fun z u t9 H1 locs1 ht hvm hp hB hz9 hk9 hS1 => by
        have e9 : z = x := hp
        subst e9
        exact next H1 locs1 (by rw [← ht]; exact hB) hS1)
    | long x => exact va_calll (a := a) hr hS (fun q _ h => h) (fun q h => h) (fun z u t9 H1 locs1 ht hvm hp hB hz9 hk9 hS1 => by
        have e9 : z = x := hp
        subst e9
        exact next H1 locs1 (by rw [← ht]; exact hB) hS1)
    | ref a9 => exact va_callr (a := a) hr hS (fun q _ h => h) (fun q h => h) (fun u z t9 H1 locs1 ht hvm hp hB hz9 hk9 hS1 => by
        obtain ⟨e9, hB⟩ := hB
        subst e9
        exact next H1 locs1 (by rw [← ht]; exact hB) hS1)
    | _ => exact g3.elim
/-- the words of a call are among the caller's -/
theorem xgood {M : xMe} {ws0 : List Cond} (hM : Cond.code M.2.1 M.2.2.1 M.2.2.2.1 M.2.2.2.2 ∈ xW) (h0 : ∀ w ∈ ws0, w ∈ xW) : GoodIn xW (ws0 ++ (Cond.code M.2.1 M.2.2.1 M.2.2.2.1 M.2.2.2.2 :: xW)) := by
  intro w hw
  have hin : w ∈ xW := by
    rcases List.mem_append.mp hw with h | h
    · exact h0 w h
    · rcases List.mem_cons.mp h with rfl | h
      · exact hM
      · exact h
  exact ⟨hin, good_of_word (xW_good hin)⟩
theorem xgood0 {M : xMe} (hM : Cond.code M.2.1 M.2.2.1 M.2.2.2.1 M.2.2.2.2 ∈ xW) : GoodIn xW (Cond.code M.2.1 M.2.2.1 M.2.2.2.1 M.2.2.2.2 :: xW) := xgood (ws0 := []) hM (fun _ h => absurd h List.not_mem_nil)
theorem xmm2 {P : Cond → Prop} {a c : Cond} (h1 : P a) (h2 : P c) : ∀ w ∈ ([a, c] : List Cond), P w := List.forall_mem_cons.mpr ⟨h1, List.forall_mem_cons.mpr ⟨h2, fun _ h => absurd h List.not_mem_nil⟩⟩
theorem xmm3 {P : Cond → Prop} {a c d : Cond} (h1 : P a) (h2 : P c) (h3 : P d) : ∀ w ∈ ([a, c, d] : List Cond), P w := List.forall_mem_cons.mpr ⟨h1, xmm2 h2 h3⟩
theorem xmm4 {P : Cond → Prop} {a c d e : Cond} (h1 : P a) (h2 : P c) (h3 : P d) (h4 : P e) : ∀ w ∈ ([a, c, d, e] : List Cond), P w := List.forall_mem_cons.mpr ⟨h1, xmm3 h2 h3 h4⟩
theorem xmm5 {P : Cond → Prop} {a c d e f : Cond} (h1 : P a) (h2 : P c) (h3 : P d) (h4 : P e) (h5 : P f) : ∀ w ∈ ([a, c, d, e, f] : List Cond), P w := List.forall_mem_cons.mpr ⟨h1, xmm4 h2 h3 h4 h5⟩
theorem xmm6 {P : Cond → Prop} {a c d e f g : Cond} (h1 : P a) (h2 : P c) (h3 : P d) (h4 : P e) (h5 : P f) (h6 : P g) : ∀ w ∈ ([a, c, d, e, f, g] : List Cond), P w := List.forall_mem_cons.mpr ⟨h1, xmm5 h2 h3 h4 h5 h6⟩
set_option maxHeartbeats 1000000 in
theorem s_callS : xr_callS (XP b ex aC D L xs l) := by
  intro d y pc cn ls rest I J K h r t idx mid n ml As q m1 kd hd0 hc hkd hn hml9 hwd hw k0 k1
  refine ⟨⟨Nat.le_trans k0.1.1 k1.1.1, Nat.le_trans k0.1.2.1 k1.1.2.1, k1.1.2.2⟩, fun M hM p e R s mm args below meth c Q H locs cells slots lsA C hR hz hS hc1 hc2 hl hret => ?_⟩
  obtain ⟨hx, hb, hml, hown, hnm, hts, hK, hF, hbs, hfr, hlo⟩ := id C
  obtain ⟨hcn, hdc, hst⟩ := xdec_of hM hd0
  subst hcn
  have hz : s.heap.size + cells = b + h.length := hz
  obtain ⟨M2, hMt, hpc, hrc, hk9⟩ := xCt_ok _ hc
  dsimp only at hMt hpc hrc hk9
  obtain ⟨hMc, hMp, hMcode, hMini, hMnh, hM80⟩ := xMt_ok M2 (List.mem_of_getElem? hMt)
  have hml2 := xml_of (xM_of hMt) hml9
  have hRm : d + 1 ≤ R.frames ∧ 8 + (M2.2.2.2.1 + 11) + 100 * d ≤ R.locals := by omega
  have hF9 : CallFix p mm c M.2.2.1 M.2.2.2.1 s args xW (xR M.1) := ⟨hx, hb, hml, hown, hts⟩
  have hroom : cells + (m1.2.2.2.length - h.length) ≤ R.cells ∧ slots + (xsz m1.2.2.2 - xsz h) ≤ R.slots := by
    have a1 := k0.1.1; have a2 := k1.1.1; have a3 := k0.1.2.1; have a4 := k1.1.2.1
    dsimp only at a1 a2 a3 a4 hc1 hc2
    omega
  have hB9 : ∀ U : State, U.heap = H → s.WarmedH U.vm → XB b ex aC D L xs (I, J, K, h) U := fun U hU hW => ⟨by rw [hU]; exact hR, xK_warm hW hK, by rw [hU]; exact xF_warm hW (xF_kept hbs hS hF)⟩
  have hstk : xcs b ex (As.reverse ++ rest) = (xcs b ex As).reverse ++ xcs b ex rest := by simp [xcs]
  have hsz : (xcs b ex As).length = n := by rw [← hn]; simp [xcs]
  have hrest : 2 * (F0 mm pc lsA (xcs b ex (As.reverse ++ rest))).monitorRoom + ((xcs b ex rest).map fun v => v.category).sum ≤ 8 := lv_room (by rw [xcs_sum]; exact hw)
  rcases hkd with rfl | rfl
  · obtain ⟨w1, w2⟩ := hk9
    exact XP_after hM k0.1 k1 C hR hz hS hc1 hc2 hl hret (va_runS (rest := xcs b ex rest) hF9 (XP_met k0 hMt (by rw [hml2]; exact hwd)) (va_cwS n hts (xgood hMcode (xmm3 w1 w2 hMini)) rfl rfl rfl ⟨hMnh.1, hMnh.2, hpc⟩ hRm) ⟨XB_blind, fun U hU hW => ⟨rfl, hB9 U hU hW⟩⟩ rfl hsz hl.1 hstk hrest hdc hroom)
  · obtain ⟨w1, w2⟩ := hk9
    exact XP_after hM k0.1 k1 C hR hz hS hc1 hc2 hl hret (va_runSN (rest := xcs b ex rest) hF9 (XP_met k0 hMt (by rw [hml2]; exact hwd)) ⟨va_cnB n hts (xgood0 hMcode) rfl rfl rfl (hK.2.1 _ w1) (hts _ hMini) ⟨hMnh.1, hMnh.2, hpc⟩ hRm, hts _ w2, trivial⟩ ⟨XB_blind, fun U hU hW => ⟨rfl, hB9 U hU hW⟩⟩ rfl hsz hl.1 hstk hrest hdc hroom)
theorem xCinit {own idx rc kd mid n : Nat} {M : xMe} (hMt : xMt[mid]? = some M) (hc : (own, idx, rc, kd, mid, n) ∈ xCt) (hk : kd = 1 ∨ kd = 6) : M.2.2.2.2 = none := by
  have key : ∀ e ∈ xCt, (e.2.2.2.1 = 1 ∨ e.2.2.2.1 = 6) → (match xMt[e.2.2.2.2.1]? with | some M => (match M.2.2.2.2 with | none => true | _ => false) | none => false) = true := by decide +kernel
  have h := key _ hc hk
  dsimp only at h
  rw [hMt] at h
  dsimp only at h
  cases e : M.2.2.2.2 with
  | none => rfl
  | some t => rw [e] at h; cases h
set_option maxHeartbeats 1000000 in
theorem s_callI : xr_callI (XP b ex aC D L xs l) := by
  intro d y pc cn ls rest I J K h r t idx mid n ml As q m1 kd a hd0 hc hkd hn hml9 hwd hw k0 k1
  refine ⟨⟨Nat.le_trans k0.1.1 k1.1.1, Nat.le_trans k0.1.2.1 k1.1.2.1, k1.1.2.2⟩, fun M hM p e R s mm args below meth c Q H locs cells slots lsA C hR hz hS hc1 hc2 hl hret => ?_⟩
  obtain ⟨hx, hb, hml, hown, hnm, hts, hK, hF, hbs, hfr, hlo⟩ := id C
  obtain ⟨hcn, hdc, hst⟩ := xdec_of hM hd0
  subst hcn
  have hz : s.heap.size + cells = b + h.length := hz
  obtain ⟨M2, hMt, hpc, hrc, hk9⟩ := xCt_ok _ hc
  dsimp only at hMt hpc hrc hk9
  obtain ⟨hMc, hMp, hMcode, hMini, hMnh, hM80⟩ := xMt_ok M2 (List.mem_of_getElem? hMt)
  have hml2 := xml_of (xM_of hMt) hml9
  have hRm : d + 1 ≤ R.frames ∧ 8 + (M2.2.2.2.1 + 11) + 100 * d ≤ R.locals := by omega
  have hF9 : CallFix p mm c M.2.2.1 M.2.2.2.1 s args xW (xR M.1) := ⟨hx, hb, hml, hown, hts⟩
  have hroom : cells + (m1.2.2.2.length - h.length) ≤ R.cells ∧ slots + (xsz m1.2.2.2 - xsz h) ≤ R.slots := by
    have a1 := k0.1.1; have a2 := k1.1.1; have a3 := k0.1.2.1; have a4 := k1.1.2.1
    dsimp only at a1 a2 a3 a4 hc1 hc2
    omega
  have hB9 : ∀ U : State, U.heap = H → s.WarmedH U.vm → XB b ex aC D L xs (I, J, K, h) U := fun U hU hW => ⟨by rw [hU]; exact hR, xK_warm hW hK, by rw [hU]; exact xF_warm hW (xF_kept hbs hS hF)⟩
  have hstk : xcs b ex (As.reverse ++ .ref a :: rest) = (xcs b ex As).reverse ++ .ref (xphi b ex a) :: xcs b ex rest := by simp [xcs, xcv]
  have hsz : (xcs b ex As).length = n := by rw [← hn]; simp [xcs]
  have hrest : 2 * (F0 mm pc lsA (xcs b ex (As.reverse ++ .ref a :: rest))).monitorRoom + ((xcs b ex rest).map fun v => v.category).sum ≤ 8 := lv_room (by rw [xcs_sum]; exact hw)
  rcases hkd with rfl | rfl
  · obtain ⟨w1, w2, w3⟩ := hk9
    have hrn : M2.2.2.2.2 = none := xCinit hMt hc (Or.inl rfl)
    exact XP_after hM k0.1 k1 C hR hz hS hc1 hc2 hl hret (va_runI (rest := xcs b ex rest) hF9 (XP_met k0 hMt (by rw [hml2]; show 1 + (As.map fun v => v.category).sum ≤ _; omega)) (by rw [hrn]; exact cwI n hts (by rw [← hrn]; exact xgood0 hMcode) rfl rfl rfl (hts _ hMini) (hts _ w1) (hts _ w2) w3 ⟨hMnh.1, hMnh.2, hpc⟩ hRm) ⟨XB_blind, fun U hU hW => ⟨rfl, hB9 U hU hW⟩⟩ rfl hsz hl.1 hstk hrest hdc hroom)
  · obtain ⟨w1, w2, w3⟩ := hk9
    have hrn : M2.2.2.2.2 = none := xCinit hMt hc (Or.inr rfl)
    exact XP_after hM k0.1 k1 C hR hz hS hc1 hc2 hl hret (va_runIN (rest := xcs b ex rest) hF9 (XP_met k0 hMt (by rw [hml2]; show 1 + (As.map fun v => v.category).sum ≤ _; omega)) (by rw [hrn]; exact ⟨va_cnB n hts (by rw [← hrn]; exact xgood0 hMcode) rfl rfl rfl (hK.2.1 _ w1) (hts _ hMini) ⟨hMnh.1, hMnh.2, hpc⟩ hRm, w3, hts _ w2⟩) ⟨XB_blind, fun U hU hW => ⟨rfl, hB9 U hU hW⟩⟩ rfl hsz hl.1 hstk hrest hdc hroom)
set_option maxHeartbeats 1000000 in
theorem s_callV : xr_callV (XP b ex aC D L xs l) := by
  intro d y pc cn ls rest I J K h r t idx mid n ml As q m1 kd a ci hd0 hs hc hkd hn hml9 hwd hw k0 k1
  refine ⟨⟨Nat.le_trans k0.1.1 k1.1.1, Nat.le_trans k0.1.2.1 k1.1.2.1, k1.1.2.2⟩, fun M hM p e R s mm args below meth c Q H locs cells slots lsA C hR hz hS hc1 hc2 hl hret => ?_⟩
  obtain ⟨hx, hb, hml, hown, hnm, hts, hK, hF, hbs, hfr, hlo⟩ := id C
  obtain ⟨hcn, hdc, hst⟩ := xdec_of hM hd0
  subst hcn
  have hz : s.heap.size + cells = b + h.length := hz
  obtain ⟨M2, hMt, hpc, hrc, hk9⟩ := xCt_ok _ hc
  dsimp only at hMt hpc hrc hk9
  obtain ⟨hMc, hMp, hMcode, hMini, hMnh, hM80⟩ := xMt_ok M2 (List.mem_of_getElem? hMt)
  have hml2 := xml_of (xM_of hMt) hml9
  have hRm : d + 1 ≤ R.frames ∧ 8 + (M2.2.2.2.1 + 11) + 100 * d ≤ R.locals := by omega
  have hF9 : CallFix p mm c M.2.2.1 M.2.2.2.1 s args xW (xR M.1) := ⟨hx, hb, hml, hown, hts⟩
  have hroom : cells + (m1.2.2.2.length - h.length) ≤ R.cells ∧ slots + (xsz m1.2.2.2 - xsz h) ≤ R.slots := by
    have a1 := k0.1.1; have a2 := k1.1.1; have a3 := k0.1.2.1; have a4 := k1.1.2.1
    dsimp only at a1 a2 a3 a4 hc1 hc2
    omega
  have hB9 : ∀ U : State, U.heap = H → s.WarmedH U.vm → XB b ex aC D L xs (I, J, K, h) U := fun U hU hW => ⟨by rw [hU]; exact hR, xK_warm hW hK, by rw [hU]; exact xF_warm hW (xF_kept hbs hS hF)⟩
  have hstk : xcs b ex (As.reverse ++ .ref a :: rest) = (xcs b ex As).reverse ++ .ref (xphi b ex a) :: xcs b ex rest := by simp [xcs, xcv]
  have hsz : (xcs b ex As).length = n := by rw [← hn]; simp [xcs]
  have hrest : 2 * (F0 mm pc lsA (xcs b ex (As.reverse ++ .ref a :: rest))).monitorRoom + ((xcs b ex rest).map fun v => v.category).sum ≤ 8 := lv_room (by rw [xcs_sum]; exact hw)
  have he := xws_get (b := b) (ex := ex) (aC := aC) (m := (I, J, K, h)) hs
  have hphi := xphi_own hR hs
  rw [hphi] at hstk
  have hPV : ∀ {C9 : String}, (∃ cellB : Cell, H[b + a]? = some cellB ∧ cellB.vm.isStatics = false ∧ s.vm.findClass C9 = some cellB.cls) → PreV s H C9 (b + a) (va_Pc (xcs b ex (.ref a :: As)) (XB b ex aC D L xs (I, J, K, h))) (xcs b ex As) := fun hcell => ⟨XB_blind, hcell, fun U hU hW => ⟨by show (Value.ref (b + a) :: xcs b ex As).toArray = (Value.ref (xphi b ex a) :: xcs b ex As).toArray; rw [hphi], hB9 U hU hW⟩⟩
  rcases hkd with rfl | rfl | rfl
  · obtain ⟨w1, w2, w3, hci, hcl⟩ := hk9
    obtain ⟨-, hcc, -⟩ := xcla hci
    exact XP_after hM k0.1 k1 C hR hz hS hc1 hc2 hl hret (va_runV (rest := xcs b ex rest) hF9 (XP_met k0 hMt (by rw [hml2]; show 1 + (As.map fun v => v.category).sum ≤ _; omega)) (cwV (C := xR ci) n hts (xgood hMcode (xmm4 w1 w2 (by rw [← hcl]; exact w3) (by rw [← hcl]; exact hMini))) rfl rfl rfl ⟨hcl, hMnh.1, hMnh.2, hpc⟩ hRm) (hPV (va_recv hK.1 hR.1 hcc he)) rfl hsz hl.1 hstk hrest hdc hroom)
  · obtain ⟨xc, ow, b0, m0, r0, w1, w2, w3, w4, w5, w6, hci, o1, o2⟩ := hk9
    obtain ⟨-, hcc, -⟩ := xcla hci
    exact XP_after hM k0.1 k1 C hR hz hS hc1 hc2 hl hret (va_runU (rest := xcs b ex rest) hF9 (XP_met k0 hMt (by rw [hml2]; show 1 + (As.map fun v => v.category).sum ≤ _; omega)) (va_cwO (C := xR ci) (owner := ow) (x := ⟨xc, M2.2.1.name, M2.2.1.desc⟩) n hts (xgood hMcode (xmm6 w1 w2 w3 w4 w5 hMini)) rfl rfl rfl w6 ⟨o1, o2, hpc⟩ hRm) (hPV (va_recv hK.1 hR.1 hcc he)) rfl hsz hl.1 hstk hrest hdc hroom)
  · obtain ⟨xc, w1, w2, w3, w4, hci⟩ := hk9
    obtain ⟨-, hcc, -⟩ := xcla hci
    exact XP_after hM k0.1 k1 C hR hz hS hc1 hc2 hl hret (va_runU (rest := xcs b ex rest) hF9 (XP_met k0 hMt (by rw [hml2]; show 1 + (As.map fun v => v.category).sum ≤ _; omega)) (va_cwU (C := xR ci) (owner := M2.2.1.cls) (x := ⟨xc, M2.2.1.name, M2.2.1.desc⟩) n hts (xgood hMcode (xmm5 w1 w2 w3 w4 hMini)) rfl rfl rfl rfl ⟨hMnh.1, hMnh.2, hpc⟩ hRm) (hPV (va_recv hK.1 hR.1 hcc he)) rfl hsz hl.1 hstk hrest hdc hroom)
set_option maxHeartbeats 1000000 in
theorem s_callT : xr_callT (XP b ex aC D L xs l) := by
  intro d y pc cn ls rest I J K h r t idx mid n ml As q m1 k hd0 hk hc hn hml9 hwd hw k0 k1
  refine ⟨⟨Nat.le_trans k0.1.1 k1.1.1, Nat.le_trans k0.1.2.1 k1.1.2.1, k1.1.2.2⟩, fun M hM p e R s mm args below meth c Q H locs cells slots lsA C hR hz hS hc1 hc2 hl hret => ?_⟩
  obtain ⟨hx, hb, hml, hown, hnm, hts, hK, hF, hbs, hfr, hlo⟩ := id C
  obtain ⟨hcn, hdc, hst⟩ := xdec_of hM hd0
  subst hcn
  have hz : s.heap.size + cells = b + h.length := hz
  obtain ⟨M2, hMt, hpc, hrc, hk9⟩ := xCt_ok _ hc
  dsimp only at hMt hpc hrc hk9
  obtain ⟨hMc, hMp, hMcode, hMini, hMnh, hM80⟩ := xMt_ok M2 (List.mem_of_getElem? hMt)
  have hml2 := xml_of (xM_of hMt) hml9
  have hRm : d + 1 ≤ R.frames ∧ 8 + (M2.2.2.2.1 + 11) + 100 * d ≤ R.locals := by omega
  have hF9 : CallFix p mm c M.2.2.1 M.2.2.2.1 s args xW (xR M.1) := ⟨hx, hb, hml, hown, hts⟩
  have hroom : cells + (m1.2.2.2.length - h.length) ≤ R.cells ∧ slots + (xsz m1.2.2.2 - xsz h) ≤ R.slots := by
    have a1 := k0.1.1; have a2 := k1.1.1; have a3 := k0.1.2.1; have a4 := k1.1.2.1
    dsimp only at a1 a2 a3 a4 hc1 hc2
    omega
  have hB9 : ∀ U : State, U.heap = H → s.WarmedH U.vm → XB b ex aC D L xs (I, J, K, h) U := fun U hU hW => ⟨by rw [hU]; exact hR, xK_warm hW hK, by rw [hU]; exact xF_warm hW (xF_kept hbs hS hF)⟩
  have he : xphi b ex (1000001 + k) = ex (1 + k) := by
    unfold xphi
    rw [if_neg (by omega), show 1000001 + k - 1000000 = 1 + k by omega]
  have hstk : xcs b ex (As.reverse ++ .ref (1000001 + k) :: rest) = (xcs b ex As).reverse ++ .ref (ex (1 + k)) :: xcs b ex rest := by simp [xcs, xcv, he]
  have hsz : (xcs b ex As).length = n := by rw [← hn]; simp [xcs]
  have hrest : 2 * (F0 mm pc lsA (xcs b ex (As.reverse ++ .ref (1000001 + k) :: rest))).monitorRoom + ((xcs b ex rest).map fun v => v.category).sum ≤ 8 := lv_room (by rw [xcs_sum]; exact hw)
  have hPV : (∃ cellB : Cell, H[ex (1 + k)]? = some cellB ∧ cellB.vm.isStatics = false ∧ s.vm.findClass "java/lang/String" = some cellB.cls) → PreV s H "java/lang/String" (ex (1 + k)) (va_Pc (xcs b ex (.ref (1000001 + k) :: As)) (XB b ex aC D L xs (I, J, K, h))) (xcs b ex As) := fun hcell => ⟨XB_blind, hcell, fun U hU hW => ⟨by show (Value.ref (ex (1 + k)) :: xcs b ex As).toArray = (Value.ref (xphi b ex (1000001 + k)) :: xcs b ex As).toArray; rw [he], hB9 U hU hW⟩⟩
  obtain ⟨w1, w2, w3, hcl⟩ := hk9
  exact XP_after hM k0.1 k1 C hR hz hS hc1 hc2 hl hret (va_runV (rest := xcs b ex rest) hF9 (XP_met k0 hMt (by rw [hml2]; show 1 + (As.map fun v => v.category).sum ≤ _; omega)) (cwV (C := "java/lang/String") n hts (xgood hMcode (xmm4 w1 w2 (by rw [hcl] at w3; exact w3) (by rw [hcl] at hMini; exact hMini))) rfl rfl rfl ⟨hcl, hMnh.1, hMnh.2, hpc⟩ hRm) (hPV (vk_recv (adK := fun i => ex (1 + i)) (i := k) hF.2.2.1 hk hS)) rfl hsz hl.1 hstk hrest hdc hroom)
/-- super.m(..) where the class above has m from a class above it -/
theorem xrunSX {p : Program} {e : Env} {R : Room} {s : State} {m : MethodId} {args : Array Value} {below : List Frame} {meth : Method} {c : Code} {H : Heap} {locs : List Loc} {cells slots : Nat} {y : MethodName} {xc : String} {bytes cc : ByteArray} {maxL nL mc ms n index : Nat} {ret : Option FieldType} {ws : List Cond} {rm : Room} {Pc : Array Value → State → Prop} {Qc : Array Value → State → Outcome → State → Prop} {free : Addr → Prop} {Ts : List Cond} {own C : String} {cC : ClassId} {b : Addr} {As rest : List Value} {g : JFrame}
    (hat : ClassAt s C cC) (S : CallFix p m c cc nL s args Ts own) (hM : Met l y ws rm Pc Qc mc ms free) (hfr : rm.frames + 1 ≤ R.frames) (hlo : 8 + (maxL + 11) + rm.locals ≤ R.locals) (hrc : rm.cells = mc) (hrs : rm.slots = ms) (hws : ∀ w ∈ ws, ∀ (a' : Array Value) (U : State), s.WarmedH U.vm → w.before a' U = true) (hcw : Cond.code y bytes maxL ret ∈ ws) (hcode : (Cond.code y bytes maxL ret).before args s = true) (hini : (Cond.initialized y.cls).before args s = true)
    (hl1 : (Cond.methodLink own index ⟨xc, y.name, y.desc⟩).before args s = true) (hl2 : (Cond.sameMethod xc y.cls y.name y.desc).before args s = true) (hl3 : (Cond.superclass own xc).before args s = true) (hl3b : (Cond.superclass xc y.cls).before args s = true) (hl4 : (Cond.instanceMethod y).before args s = true) (hno : y.name ≠ "<init>") (hlen : ∀ sig, parseMethodDescriptor y.desc = some sig → n = sig.parameters.length) (hp : PreV s H C b Pc As)
    (hg : g.method = m) (hn : As.length = n) (hsize : g.locals.size = nL) (hstack : g.stack = As.reverse ++ .ref b :: rest) (hW : 2 * g.monitorRoom + (rest.map fun v => v.category).sum ≤ 8) (hdg : decode cc g.pc = .ok (.invokespecial index, 3)) (hf : cells + mc ≤ R.cells ∧ slots + ms ≤ R.slots) :
    va_Run p l e R s m args below meth c H locs cells slots mc ms g rest (Qc (Value.ref b :: As).toArray) (free) := by
  have hK : Back l R p e below s args y 3 8 (PreOf R mc ms Pc) (PostOf Qc mc ms free) := back_of (bytes := bytes) (maxL := maxL) (ret := ret) hM hp.1 hrc hrs hfr hlo hws hcw (fun a' U hW => word_at hW (Or.inl (by first | rfl | simp [Cond.onTables, Cond.keeps, Cond.steady])) hini)
  obtain ⟨hx, hb, hml, ho, -⟩ := S
  obtain ⟨hbl, ⟨cellB, hcB, hoB, hclB⟩, hPc⟩ := hp
  obtain ⟨hfc, kB, hkB, -⟩ := hat
  cases hfc.symm.trans hclB
  obtain ⟨mk, methM, hnamed, hmethM, hstM, habM⟩ := Cond.instanceMethod_spec hl4
  obtain ⟨methM', cM, hmethM', -, -, -, -, -, -, hsigM⟩ := Cond.code_spec hnamed hcode
  cases hmethM.symm.trans hmethM'
  obtain ⟨ps, dk, kp, hps, hdk, hkp, hsuper, -, -, hnid⟩ := Cond.superclass_spec ho hl3
  obtain ⟨ps2, dk2, kp2, hps2, hdk2, hkp2, hsuper2, -, -, -⟩ := Cond.superclass_spec hps hl3b
  have hn9 : s.methodNamed? ⟨y.cls, y.name, y.desc⟩ = some mk := hnamed
  have hpm : ps2 = mk.cls := Option.some.inj (hps2.symm.trans (findClass_of_methodNamed hnamed))
  have hsub : s.vm.isSubclass ps mk.cls = true := by
    have h9 : 1 ≤ s.vm.classes.size := by have := (Array.getElem?_eq_some_iff.mp hdk2).1; omega
    obtain ⟨z, hz⟩ : ∃ z, s.vm.classes.size = z + 1 := ⟨s.vm.classes.size - 1, by omega⟩
    rw [← hpm]
    simp [Vm.isSubclass, Vm.isSubclassAux, hz, hdk2, hsuper2]
  intro T hT X
  have hcell : T.heap[b]? = some cellB := by rw [hT]; exact hcB
  obtain ⟨vm₁, X₁, hstep₁⟩ := X.invokespecialUp hx (x := ⟨xc, y.name, y.desc⟩) ho hl1 hl2 hn9 hmethM hstM habM hno hdk hnid hps hsuper hsub (a := b) (cell := cellB) hcell
    (fun z h => by rw [h] at hoB; cases hoB) hkB (g := g) hg (argsL := As) (rest := rest) (hn.trans (hlen _ hsigM)) hstack (by rw [hb]; exact hdg)
  obtain ⟨v, ⟨U', l2, c2, s2⟩, X', ⟨g', mk9, t, L, e1, e2, hq, h1, hL, h2, h3⟩, hsteps⟩ := hK m meth c ⟨T.setVm vm₁, locs, cells, slots⟩ { g with stack := rest } (.invokespecial index) mk (Value.ref b :: As).toArray X₁ hg (hsize.trans hml.symm) (by rw [hb]; exact hdg) hW (X₁.named hnamed) ⟨hf.1, hf.2, hPc (T.setVm vm₁) hT X₁.warmed⟩
  dsimp only [Pt.U, Pt.locs, Pt.cells, Pt.slots] at X' e1 e2 h1 h2 h3 hsteps
  subst h1; subst h2; subst h3
  exact ⟨v, (T.setVm vm₁).calling g' mk9 (Value.ref b :: As).toArray, t, U', L, hT, X', hL, e1, e2, hq, fun target h => hstep₁ _ (by rw [doInvoke_state]; exact hsteps.trans h)⟩
set_option maxHeartbeats 1000000 in
theorem s_callU : xr_callU (XP b ex aC D L xs l) := by
  intro d y pc cn ls rest I J K h r t idx mid n ml As q m1 kd a ci hd0 hs hc hkd hn hml9 hwd hw k0 k1
  refine ⟨⟨Nat.le_trans k0.1.1 k1.1.1, Nat.le_trans k0.1.2.1 k1.1.2.1, k1.1.2.2⟩, fun M hM p e R s mm args below meth c Q H locs cells slots lsA C hR hz hS hc1 hc2 hl hret => ?_⟩
  obtain ⟨hx, hb, hml, hown, hnm, hts, hK, hF, hbs, hfr, hlo⟩ := id C
  obtain ⟨hcn, hdc, hst⟩ := xdec_of hM hd0
  subst hcn
  have hz : s.heap.size + cells = b + h.length := hz
  obtain ⟨M2, hMt, hpc, hrc, hk9⟩ := xCt_ok _ hc
  dsimp only at hMt hpc hrc hk9
  obtain ⟨hMc, hMp, hMcode, hMini, hMnh, hM80⟩ := xMt_ok M2 (List.mem_of_getElem? hMt)
  have hml2 := xml_of (xM_of hMt) hml9
  have hRm : d + 1 ≤ R.frames ∧ 8 + (M2.2.2.2.1 + 11) + 100 * d ≤ R.locals := by omega
  have hF9 : CallFix p mm c M.2.2.1 M.2.2.2.1 s args xW (xR M.1) := ⟨hx, hb, hml, hown, hts⟩
  have hroom : cells + (m1.2.2.2.length - h.length) ≤ R.cells ∧ slots + (xsz m1.2.2.2 - xsz h) ≤ R.slots := by
    have a1 := k0.1.1; have a2 := k1.1.1; have a3 := k0.1.2.1; have a4 := k1.1.2.1
    dsimp only at a1 a2 a3 a4 hc1 hc2
    omega
  have hB9 : ∀ U : State, U.heap = H → s.WarmedH U.vm → XB b ex aC D L xs (I, J, K, h) U := fun U hU hW => ⟨by rw [hU]; exact hR, xK_warm hW hK, by rw [hU]; exact xF_warm hW (xF_kept hbs hS hF)⟩
  have hstk : xcs b ex (As.reverse ++ .ref a :: rest) = (xcs b ex As).reverse ++ .ref (xphi b ex a) :: xcs b ex rest := by simp [xcs, xcv]
  have hsz : (xcs b ex As).length = n := by rw [← hn]; simp [xcs]
  have hrest : 2 * (F0 mm pc lsA (xcs b ex (As.reverse ++ .ref a :: rest))).monitorRoom + ((xcs b ex rest).map fun v => v.category).sum ≤ 8 := lv_room (by rw [xcs_sum]; exact hw)
  have he := xws_get (b := b) (ex := ex) (aC := aC) (m := (I, J, K, h)) hs
  have hphi := xphi_own hR hs
  rw [hphi] at hstk
  have hPV : ∀ {C9 : String}, (∃ cellB : Cell, H[b + a]? = some cellB ∧ cellB.vm.isStatics = false ∧ s.vm.findClass C9 = some cellB.cls) → PreV s H C9 (b + a) (va_Pc (xcs b ex (.ref a :: As)) (XB b ex aC D L xs (I, J, K, h))) (xcs b ex As) := fun hcell => ⟨XB_blind, hcell, fun U hU hW => ⟨by show (Value.ref (b + a) :: xcs b ex As).toArray = (Value.ref (xphi b ex a) :: xcs b ex As).toArray; rw [hphi], hB9 U hU hW⟩⟩
  have hci : ci < 13 := by
    obtain ⟨r9, h9, -⟩ := hR.1 a _ he
    have := (List.getElem?_eq_some_iff.mp h9).1
    exact this
  obtain ⟨-, hcc, -⟩ := xcla hci
  rcases hkd with rfl | rfl
  · obtain ⟨w1, w2, w3, w4, w5⟩ := hk9
    exact XP_after hM k0.1 k1 C hR hz hS hc1 hc2 hl hret (va_runSU (rest := xcs b ex rest) (hK.1.1 _ _ hcc).2 hF9 (XP_met k0 hMt (by rw [hml2]; show 1 + (As.map fun v => v.category).sum ≤ _; omega)) (va_cwSU n hts (xgood hMcode (xmm5 w1 w2 w3 w4 hMini)) rfl rfl rfl ⟨w5, hpc⟩ hRm) (hPV (va_recv hK.1 hR.1 hcc he)) rfl hsz hl.1 hstk hrest hdc hroom)
  · obtain ⟨xc, w1, w2, w3, w3b, w4, w5⟩ := hk9
    exact XP_after hM k0.1 k1 C hR hz hS hc1 hc2 hl hret (xrunSX (rest := xcs b ex rest) (hK.1.1 _ _ hcc).2 hF9 (XP_met k0 hMt (by rw [hml2]; show 1 + (As.map fun v => v.category).sum ≤ _; omega)) hRm.1 hRm.2 rfl rfl (pay_in hts (xgood0 hMcode)) List.mem_cons_self (hts _ hMcode) (hts _ hMini) (hts _ w1) (hts _ w2) (hts _ w3) (hts _ w3b) (hts _ w4) w5 (fun sig h9 => by have h2 := hpc; unfold xpc at h2; rw [h9] at h2; exact (Option.some.inj h2).symm) (hPV (va_recv hK.1 hR.1 hcc he)) rfl hsz hl.1 hstk hrest hdc hroom)
theorem XP_rules : xRules (XP b ex aC D L xs l) := ⟨s_iconst, ⟨s_bipush, ⟨s_sipush, ⟨s_lconst, ⟨s_ldc, ⟨s_ldcw, ⟨s_ldcs, ⟨s_ldc2, ⟨s_iload, ⟨s_iload_n, ⟨s_istore, ⟨s_istore_n, ⟨s_lload, ⟨s_lload_n, ⟨s_lstore, ⟨s_lstore_n, ⟨s_aload, ⟨s_aload_n, ⟨s_astore, ⟨s_astore_n, ⟨s_iinc, ⟨s_iadd, ⟨s_isub, ⟨s_imul, ⟨s_iand, ⟨s_ior, ⟨s_ixor, ⟨s_ishl, ⟨s_ishr, ⟨s_iushr, ⟨s_idiv, ⟨s_irem, ⟨s_ineg, ⟨s_i2l, ⟨s_l2i, ⟨s_i2b, ⟨s_i2s, ⟨s_lshl, ⟨s_land, ⟨s_lor, ⟨s_lcmp, ⟨s_dup, ⟨s_pop, ⟨s_dup_x1, ⟨s_if_eq, ⟨s_if_ne, ⟨s_if_lt, ⟨s_if_ge, ⟨s_if_gt, ⟨s_if_le, ⟨s_icmp_eq, ⟨s_icmp_ne, ⟨s_icmp_lt, ⟨s_icmp_ge, ⟨s_icmp_gt, ⟨s_icmp_le, ⟨s_goto, ⟨s_tableOut, ⟨s_tableIn, ⟨s_lookup, ⟨s_getI, ⟨s_getR, ⟨s_putI, ⟨s_putZ, ⟨s_putR, ⟨s_iald, ⟨s_bald, ⟨s_zald, ⟨s_lald, ⟨s_aald, ⟨s_aaldN, ⟨s_iast, ⟨s_bast, ⟨s_zast, ⟨s_last, ⟨s_aast, ⟨s_aastN, ⟨s_alen, ⟨s_newa, ⟨s_newq, ⟨s_new, ⟨s_inst1, ⟨s_inst0, ⟨s_gets, ⟨s_sld, ⟨s_slen, ⟨s_max, ⟨s_min, ⟨s_abs, ⟨s_cpyi, ⟨s_cpyl, ⟨s_oinit, ⟨s_sgetV, ⟨s_sgetC, ⟨s_sblen, ⟨s_sbald, ⟨s_getsC, ⟨s_getsF, ⟨s_aload_nN, ⟨s_i2c, ⟨s_callS, ⟨s_callI, ⟨s_callU, ⟨s_callV, ⟨s_callT, ⟨s_ireturn, ⟨s_zreturn, ⟨s_treturn, ⟨s_lreturn, ⟨s_areturn, ⟨s_return, s_drop⟩⟩⟩⟩⟩⟩⟩⟩⟩⟩⟩⟩⟩⟩⟩⟩⟩⟩⟩⟩⟩⟩⟩⟩⟩⟩⟩⟩⟩⟩⟩⟩⟩⟩⟩⟩⟩⟩⟩⟩⟩⟩⟩⟩⟩⟩⟩⟩⟩⟩⟩⟩⟩⟩⟩⟩⟩⟩⟩⟩⟩⟩⟩⟩⟩⟩⟩⟩⟩⟩⟩⟩⟩⟩⟩⟩⟩⟩⟩⟩⟩⟩⟩⟩⟩⟩⟩⟩⟩⟩⟩⟩⟩⟩⟩⟩⟩⟩⟩⟩⟩⟩⟩⟩⟩⟩⟩⟩⟩⟩⟩
theorem Ev_XP {d y pc : Nat} {ls : List (Nat × Value)} {st : List Value} {m t : xMem} {r : Option Value} (h : Ev d y pc ls st m r t) : XP b ex aC D L xs l d y pc ls st m r t := h _ XP_rules
end RULES3
