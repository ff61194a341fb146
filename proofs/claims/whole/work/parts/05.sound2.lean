/-! fields, arrays, makings, statics, texts, calls, ends -/
theorem xcla {ci : Nat} (h : ci < 13) : (∀ w ∈ u_ws (xR ci) (xT ci) (xN ci), w ∈ xW) ∧ vwCl[ci]? = some (xR ci, xT ci, xN ci) ∧ (∀ k, k < xN ci → parseFieldDescriptor (xT ci k).2.2.1 = some (xty ci k)) ∧ (∀ a, a < xN ci → ∀ b, b < xN ci → a ≠ b → (xT ci a).2.1 ≠ (xT ci b).2.1) ∧ Cond.instantiable (xR ci) (xN ci) ∈ xW ∧ Cond.initialized (xR ci) ∈ xW := by
  rcases (show ci = 0 ∨ ci = 1 ∨ ci = 2 ∨ ci = 3 ∨ ci = 4 ∨ ci = 5 ∨ ci = 6 ∨ ci = 7 ∨ ci = 8 ∨ ci = 9 ∨ ci = 10 ∨ ci = 11 ∨ ci = 12 by omega) with rfl | rfl | rfl | rfl | rfl | rfl | rfl | rfl | rfl | rfl | rfl | rfl | rfl
  · exact ⟨xcl0, rfl, tyX0_ok, nmX0, xci0, xcn0⟩
  · exact ⟨xcl1, rfl, tyX1_ok, nmX1, xci1, xcn1⟩
  · exact ⟨xcl2, rfl, tyX2_ok, nmX2, xci2, xcn2⟩
  · exact ⟨xcl3, rfl, tyX3_ok, nmX3, xci3, xcn3⟩
  · exact ⟨xcl4, rfl, tyX4_ok, nmX4, xci4, xcn4⟩
  · exact ⟨xcl5, rfl, tyX5_ok, nmX5, xci5, xcn5⟩
  · exact ⟨xcl6, rfl, tyX6_ok, nmX6, xci6, xcn6⟩
  · exact ⟨xcl7, rfl, tyX7_ok, nmX7, xci7, xcn7⟩
  · exact ⟨xcl8, rfl, tyX8_ok, nmX8, xci8, xcn8⟩
  · exact ⟨xcl9, rfl, tyX9_ok, nmX9, xci9, xcn9⟩
  · exact ⟨xcl10, rfl, tyX10_ok, nmX10, xci10, xcn10⟩
  · exact ⟨xcl11, rfl, tyX11_ok, nmX11, xci11, xcn11⟩
  · exact ⟨xcl12, rfl, tyX12_ok, nmX12, xci12, xcn12⟩
theorem xkd_ok {ci k : Nat} (h : ci < 13) (hk : k < xN ci) : xty ci k = .int ∨ xty ci k = .boolean ∨ (∃ C, xty ci k = .object C) ∨ ∃ t, xty ci k = .array t := by
  have key : ∀ ci, ci < 13 → ∀ k, k < xN ci → (match xty ci k with | .int => true | .boolean => true | .object _ => true | .array _ => true | _ => false) = true := by decide +kernel
  have := key ci h k hk
  cases e : xty ci k with
  | int => exact Or.inl rfl
  | boolean => exact Or.inr (Or.inl rfl)
  | object C => exact Or.inr (Or.inr (Or.inl ⟨C, rfl⟩))
  | array t => exact Or.inr (Or.inr (Or.inr ⟨t, rfl⟩))
  | _ => rw [e] at this; cases this
section RULES2
variable {b : Nat} {ex : Nat → Nat} {aC : FieldType → ClassId} {D : va_G} {L : Nat} {xs : Nat → Int32} {l : Launch}
theorem xobj_get {m : xMem} {a ci k : Nat} (hk : k < xN ci) : ((List.range (xN ci)).map (fun k => xfv b ex m a (xty ci k) k))[k]? = some (xfv b ex m a (xty ci k) k) := by
  rw [List.getElem?_map, List.getElem?_range hk]
  rfl
theorem xobj_set {m m' : xMem} {a ci k : Nat} {v : Value} (hk : k < xN ci) (hv : xfv b ex m' a (xty ci k) k = v) (ho : ∀ j, j ≠ k → xfv b ex m' a (xty ci j) j = xfv b ex m a (xty ci j) j) : (List.range (xN ci)).map (fun k => xfv b ex m' a (xty ci k) k) = ((List.range (xN ci)).map (fun k => xfv b ex m a (xty ci k) k)).set k v := by
  apply List.ext_getElem?
  intro i
  by_cases hi : i = k
  · subst hi
    rw [List.getElem?_set_self (by simpa using hk), xobj_get hk, hv]
  · rw [List.getElem?_set_ne (Ne.symm hi), List.getElem?_map, List.getElem?_map]
    by_cases hlt : i < xN ci
    · rw [List.getElem?_range hlt]
      show some (xfv b ex m' a (xty ci i) i) = some (xfv b ex m a (xty ci i) i)
      rw [ho i hi]
    · rw [List.getElem?_eq_none (by rw [List.length_range]; omega)]
      rfl
set_option maxHeartbeats 1000000 in
theorem s_getI : xr_getI (XP b ex aC D L xs l) := by
  intro d y pc cn ls rest I J K h r t a idx ci k hd0 hs hf hk k0
  refine ⟨k0.1, fun M hM p e R s mm args below meth c Q H locs cells slots lsA C hR hz hS hc1 hc2 hl hret => ?_⟩
  obtain ⟨hx, hb, hml, hown, hnm, hts, hK, hF, hbs, hfr, hlo⟩ := id C
  obtain ⟨hcn, hdc, hst⟩ := xdec_of hM hd0
  subst hcn
  obtain ⟨ref, hf⟩ := hf
  obtain ⟨⟨hci, hkn⟩, hlink, hsame⟩ := xFt_ok _ hf
  dsimp only at hci hkn hlink hsame
  obtain ⟨hcw, hcc, hct, hcnm, hcin, hcini⟩ := xcla hci
  have hsm : ∀ x, s.fieldFound? (xT ci k).1 (xT ci k).2.1 (xT ci k).2.2.1 = some x → s.fieldFound? ref (xT ci k).2.1 (xT ci k).2.2.1 = some x := by
    rcases hsame with e | e
    · intro x hx9; rw [e]; exact hx9
    · exact u_same (hts _ e)
  have he := xws_get (b := b) (ex := ex) (aC := aC) (m := (I, J, K, h)) hs
  have hv := xobj_get (b := b) (ex := ex) (m := (I, J, K, h)) (a := a) hkn
  rw [show xfv b ex (I, J, K, h) a (xty ci k) k = .int (I a k) from by simp only [xfv, hk]] at hv
  show W _ _ _ _ _ _ _ _ _ _ _ _ _ _ _ (F0 mm pc lsA (Value.ref (xphi b ex a) :: xcs b ex rest))
  rw [xphi_own hR hs]
  exact va_get (D := D) hx hb hts hcw hown hK.1 hR.1 a he hcc k hkn (hts _ hlink) hsm hv hdc (k0.2 M hM p e R s mm args below meth c Q H locs cells slots lsA C hR hz hS hc1 hc2 hl hret)
set_option maxHeartbeats 1000000 in
theorem s_getR : xr_getR (XP b ex aC D L xs l) := by
  intro d y pc cn ls rest I J K h r t a idx ci k j hd0 hs hf hk hj k0
  refine ⟨k0.1, fun M hM p e R s mm args below meth c Q H locs cells slots lsA C hR hz hS hc1 hc2 hl hret => ?_⟩
  obtain ⟨hx, hb, hml, hown, hnm, hts, hK, hF, hbs, hfr, hlo⟩ := id C
  obtain ⟨hcn, hdc, hst⟩ := xdec_of hM hd0
  subst hcn
  obtain ⟨ref, hf⟩ := hf
  obtain ⟨⟨hci, hkn⟩, hlink, hsame⟩ := xFt_ok _ hf
  dsimp only at hci hkn hlink hsame
  obtain ⟨hcw, hcc, hct, hcnm, hcin, hcini⟩ := xcla hci
  have hsm : ∀ x, s.fieldFound? (xT ci k).1 (xT ci k).2.1 (xT ci k).2.2.1 = some x → s.fieldFound? ref (xT ci k).2.1 (xT ci k).2.2.1 = some x := by
    rcases hsame with e | e
    · intro x hx9; rw [e]; exact hx9
    · exact u_same (hts _ e)
  have he := xws_get (b := b) (ex := ex) (aC := aC) (m := (I, J, K, h)) hs
  have hv := xobj_get (b := b) (ex := ex) (m := (I, J, K, h)) (a := a) hkn
  rw [show xfv b ex (I, J, K, h) a (xty ci k) k = .ref (xphi b ex j) from by simp only [xfv, hk, hj]; rfl] at hv
  show W _ _ _ _ _ _ _ _ _ _ _ _ _ _ _ (F0 mm pc lsA (Value.ref (xphi b ex a) :: xcs b ex rest))
  rw [xphi_own hR hs]
  exact va_get (D := D) hx hb hts hcw hown hK.1 hR.1 a he hcc k hkn (hts _ hlink) hsm hv hdc (k0.2 M hM p e R s mm args below meth c Q H locs cells slots lsA C hR hz hS hc1 hc2 hl hret)
set_option maxHeartbeats 1000000 in
theorem s_putI : xr_putI (XP b ex aC D L xs l) := by
  intro d y pc cn ls rest I J K h r t a idx ci k x hd0 hs hf hu hk k0
  refine ⟨k0.1, fun M hM p e R s mm args below meth c Q H locs cells slots lsA C hR hz hS hc1 hc2 hl hret => ?_⟩
  obtain ⟨hx, hb, hml, hown, hnm, hts, hK, hF, hbs, hfr, hlo⟩ := id C
  obtain ⟨hcn, hdc, hst⟩ := xdec_of hM hd0
  subst hcn
  obtain ⟨ref, hf⟩ := hf
  obtain ⟨⟨hci, hkn⟩, hlink, hsame⟩ := xFt_ok _ hf
  dsimp only at hci hkn hlink hsame
  obtain ⟨hcw, hcc, hct, hcnm, hcin, hcini⟩ := xcla hci
  have hsm : ∀ x, s.fieldFound? (xT ci k).1 (xT ci k).2.1 (xT ci k).2.2.1 = some x → s.fieldFound? ref (xT ci k).2.1 (xT ci k).2.2.1 = some x := by
    rcases hsame with e | e
    · intro x hx9; rw [e]; exact hx9
    · exact u_same (hts _ e)
  have he := xws_get (b := b) (ex := ex) (aC := aC) (m := (I, J, K, h)) hs
  show W _ _ _ _ _ _ _ _ _ _ _ _ _ _ _ (F0 mm pc lsA (Value.int x :: Value.ref (xphi b ex a) :: xcs b ex rest))
  rw [xphi_own hR hs]
  unfold xfin at hu
  rw [hM] at hu
  dsimp only at hu
  cases hfb : (xT ci k).2.2.2 with
  | false => exact va_put (D := D) hx hb hts hcw (xty ci) hct hcnm hown hK.1 hR.1 (xws_D _) hS a he hcc k hkn (hts _ hlink) hsm hfb (ty := xty ci k) (hct k hkn) (by rw [hk]; rfl) (by rw [hk]; rfl) (by rw [List.length_map, List.length_range]; exact hkn) hdc (fun H1 locs1 hP1 hD1 hS1 => xW_size fun hz1 => k0.2 M hM p e R s mm args below meth c Q H1 locs1 cells slots lsA C (XR_set hR hs rfl (fun i hi => ⟨upc_ne _ _ hi, rfl, rfl⟩) (by show Sum.inr (ci, _) = Sum.inr (ci, _); rw [xobj_set (m := (I, J, K, h)) (v := Value.int x) hkn (by simp only [xfv, hk, xkd, upc_eq]) (fun j hj => by simp only [xfv, upc_eq, upc_ne _ _ hj])]) hP1 (by show H1.size ≤ b + h.length; rw [← hz]; exact hz1)) hz hS1 hc1 hc2 hl hret)
  | true =>
    rw [hfb] at hu
    simp only [Bool.not_true, Bool.false_or, Bool.and_eq_true, beq_iff_eq] at hu
    exact va_putF (D := D) hx hb hts hcw (xty ci) hct hcnm hown hK.1 hR.1 (xws_D _) hS a he hcc k hkn (hts _ hlink) hsm hfb (by rw [hnm]; exact hu.1) hu.2 (ty := xty ci k) (hct k hkn) (by rw [hk]; rfl) (by rw [hk]; rfl) (by rw [List.length_map, List.length_range]; exact hkn) hdc (fun H1 locs1 hP1 hD1 hS1 => xW_size fun hz1 => k0.2 M hM p e R s mm args below meth c Q H1 locs1 cells slots lsA C (XR_set hR hs rfl (fun i hi => ⟨upc_ne _ _ hi, rfl, rfl⟩) (by show Sum.inr (ci, _) = Sum.inr (ci, _); rw [xobj_set (m := (I, J, K, h)) (v := Value.int x) hkn (by simp only [xfv, hk, xkd, upc_eq]) (fun j hj => by simp only [xfv, upc_eq, upc_ne _ _ hj])]) hP1 (by show H1.size ≤ b + h.length; rw [← hz]; exact hz1)) hz hS1 hc1 hc2 hl hret)
set_option maxHeartbeats 1000000 in
theorem s_putZ : xr_putZ (XP b ex aC D L xs l) := by
  intro d y pc cn ls rest I J K h r t a idx ci k x hd0 hs hf hu hk hx9 k0
  refine ⟨k0.1, fun M hM p e R s mm args below meth c Q H locs cells slots lsA C hR hz hS hc1 hc2 hl hret => ?_⟩
  obtain ⟨hx, hb, hml, hown, hnm, hts, hK, hF, hbs, hfr, hlo⟩ := id C
  obtain ⟨hcn, hdc, hst⟩ := xdec_of hM hd0
  subst hcn
  obtain ⟨ref, hf⟩ := hf
  obtain ⟨⟨hci, hkn⟩, hlink, hsame⟩ := xFt_ok _ hf
  dsimp only at hci hkn hlink hsame
  obtain ⟨hcw, hcc, hct, hcnm, hcin, hcini⟩ := xcla hci
  have hsm : ∀ x, s.fieldFound? (xT ci k).1 (xT ci k).2.1 (xT ci k).2.2.1 = some x → s.fieldFound? ref (xT ci k).2.1 (xT ci k).2.2.1 = some x := by
    rcases hsame with e | e
    · intro x hx9; rw [e]; exact hx9
    · exact u_same (hts _ e)
  have he := xws_get (b := b) (ex := ex) (aC := aC) (m := (I, J, K, h)) hs
  show W _ _ _ _ _ _ _ _ _ _ _ _ _ _ _ (F0 mm pc lsA (Value.int x :: Value.ref (xphi b ex a) :: xcs b ex rest))
  rw [xphi_own hR hs]
  unfold xfin at hu
  rw [hM] at hu
  dsimp only at hu
  cases hfb : (xT ci k).2.2.2 with
  | false => exact va_put (D := D) hx hb hts hcw (xty ci) hct hcnm hown hK.1 hR.1 (xws_D _) hS a he hcc k hkn (hts _ hlink) hsm hfb (ty := xty ci k) (hct k hkn) (by rw [hk]; rcases hx9 with rfl | rfl <;> rfl) (by rw [hk]; rcases hx9 with rfl | rfl <;> rfl) (by rw [List.length_map, List.length_range]; exact hkn) hdc (fun H1 locs1 hP1 hD1 hS1 => xW_size fun hz1 => k0.2 M hM p e R s mm args below meth c Q H1 locs1 cells slots lsA C (XR_set hR hs rfl (fun i hi => ⟨upc_ne _ _ hi, rfl, rfl⟩) (by show Sum.inr (ci, _) = Sum.inr (ci, _); rw [xobj_set (m := (I, J, K, h)) (v := Value.int x) hkn (by simp only [xfv, hk, xkd, upc_eq]) (fun j hj => by simp only [xfv, upc_eq, upc_ne _ _ hj])]) hP1 (by show H1.size ≤ b + h.length; rw [← hz]; exact hz1)) hz hS1 hc1 hc2 hl hret)
  | true =>
    rw [hfb] at hu
    simp only [Bool.not_true, Bool.false_or, Bool.and_eq_true, beq_iff_eq] at hu
    exact va_putF (D := D) hx hb hts hcw (xty ci) hct hcnm hown hK.1 hR.1 (xws_D _) hS a he hcc k hkn (hts _ hlink) hsm hfb (by rw [hnm]; exact hu.1) hu.2 (ty := xty ci k) (hct k hkn) (by rw [hk]; rcases hx9 with rfl | rfl <;> rfl) (by rw [hk]; rcases hx9 with rfl | rfl <;> rfl) (by rw [List.length_map, List.length_range]; exact hkn) hdc (fun H1 locs1 hP1 hD1 hS1 => xW_size fun hz1 => k0.2 M hM p e R s mm args below meth c Q H1 locs1 cells slots lsA C (XR_set hR hs rfl (fun i hi => ⟨upc_ne _ _ hi, rfl, rfl⟩) (by show Sum.inr (ci, _) = Sum.inr (ci, _); rw [xobj_set (m := (I, J, K, h)) (v := Value.int x) hkn (by simp only [xfv, hk, xkd, upc_eq]) (fun j hj => by simp only [xfv, upc_eq, upc_ne _ _ hj])]) hP1 (by show H1.size ≤ b + h.length; rw [← hz]; exact hz1)) hz hS1 hc1 hc2 hl hret)
set_option maxHeartbeats 1000000 in
theorem s_putR : xr_putR (XP b ex aC D L xs l) := by
  intro d y pc cn ls rest I J K h r t a idx ci k j hd0 hs hf hu hk k0
  refine ⟨k0.1, fun M hM p e R s mm args below meth c Q H locs cells slots lsA C hR hz hS hc1 hc2 hl hret => ?_⟩
  obtain ⟨hx, hb, hml, hown, hnm, hts, hK, hF, hbs, hfr, hlo⟩ := id C
  obtain ⟨hcn, hdc, hst⟩ := xdec_of hM hd0
  subst hcn
  obtain ⟨ref, hf⟩ := hf
  obtain ⟨⟨hci, hkn⟩, hlink, hsame⟩ := xFt_ok _ hf
  dsimp only at hci hkn hlink hsame
  obtain ⟨hcw, hcc, hct, hcnm, hcin, hcini⟩ := xcla hci
  have hsm : ∀ x, s.fieldFound? (xT ci k).1 (xT ci k).2.1 (xT ci k).2.2.1 = some x → s.fieldFound? ref (xT ci k).2.1 (xT ci k).2.2.1 = some x := by
    rcases hsame with e | e
    · intro x hx9; rw [e]; exact hx9
    · exact u_same (hts _ e)
  have he := xws_get (b := b) (ex := ex) (aC := aC) (m := (I, J, K, h)) hs
  show W _ _ _ _ _ _ _ _ _ _ _ _ _ _ _ (F0 mm pc lsA (Value.ref (xphi b ex j) :: Value.ref (xphi b ex a) :: xcs b ex rest))
  rw [xphi_own hR hs]
  unfold xfin at hu
  rw [hM] at hu
  dsimp only at hu
  cases hfb : (xT ci k).2.2.2 with
  | false => exact va_put (D := D) hx hb hts hcw (xty ci) hct hcnm hown hK.1 hR.1 (xws_D _) hS a he hcc k hkn (hts _ hlink) hsm hfb (ty := xty ci k) (hct k hkn) (by rcases xkd_ok hci hkn with e | e | ⟨C9, e⟩ | ⟨t9, e⟩ <;> rw [e] at hk ⊢ <;> first | rfl | cases hk) (by rcases xkd_ok hci hkn with e | e | ⟨C9, e⟩ | ⟨t9, e⟩ <;> rw [e] at hk ⊢ <;> first | rfl | cases hk) (by rw [List.length_map, List.length_range]; exact hkn) hdc (fun H1 locs1 hP1 hD1 hS1 => xW_size fun hz1 => k0.2 M hM p e R s mm args below meth c Q H1 locs1 cells slots lsA C (XR_set hR hs rfl (fun i hi => ⟨rfl, rfl, upc_ne _ _ hi⟩) (by show Sum.inr (ci, _) = Sum.inr (ci, _); rw [xobj_set (m := (I, J, K, h)) (v := Value.ref (xphi b ex j)) hkn (by simp only [xfv, hk, upc_eq]; rfl) (fun j9 hj9 => by simp only [xfv, upc_eq, upc_ne _ _ hj9])]) hP1 (by show H1.size ≤ b + h.length; rw [← hz]; exact hz1)) hz hS1 hc1 hc2 hl hret)
  | true =>
    rw [hfb] at hu
    simp only [Bool.not_true, Bool.false_or, Bool.and_eq_true, beq_iff_eq] at hu
    exact va_putF (D := D) hx hb hts hcw (xty ci) hct hcnm hown hK.1 hR.1 (xws_D _) hS a he hcc k hkn (hts _ hlink) hsm hfb (by rw [hnm]; exact hu.1) hu.2 (ty := xty ci k) (hct k hkn) (by rcases xkd_ok hci hkn with e | e | ⟨C9, e⟩ | ⟨t9, e⟩ <;> rw [e] at hk ⊢ <;> first | rfl | cases hk) (by rcases xkd_ok hci hkn with e | e | ⟨C9, e⟩ | ⟨t9, e⟩ <;> rw [e] at hk ⊢ <;> first | rfl | cases hk) (by rw [List.length_map, List.length_range]; exact hkn) hdc (fun H1 locs1 hP1 hD1 hS1 => xW_size fun hz1 => k0.2 M hM p e R s mm args below meth c Q H1 locs1 cells slots lsA C (XR_set hR hs rfl (fun i hi => ⟨rfl, rfl, upc_ne _ _ hi⟩) (by show Sum.inr (ci, _) = Sum.inr (ci, _); rw [xobj_set (m := (I, J, K, h)) (v := Value.ref (xphi b ex j)) hkn (by simp only [xfv, hk, upc_eq]; rfl) (fun j9 hj9 => by simp only [xfv, upc_eq, upc_ne _ _ hj9])]) hP1 (by show H1.size ≤ b + h.length; rw [← hz]; exact hz1)) hz hS1 hc1 hc2 hl hret)
set_option maxHeartbeats 1000000 in
theorem s_iald : xr_iald (XP b ex aC D L xs l) := by
  intro d y pc cn ls rest I J K h r t a n i hd0 hs hi k0
  refine ⟨k0.1, fun M hM p e R s mm args below meth c Q H locs cells slots lsA C hR hz hS hc1 hc2 hl hret => ?_⟩
  obtain ⟨hx, hb, hml, hown, hnm, hts, hK, hF, hbs, hfr, hlo⟩ := id C
  obtain ⟨hcn, hdc, hst⟩ := xdec_of hM hd0
  have he := xws_get (b := b) (ex := ex) (aC := aC) (m := (I, J, K, h)) hs
  show W _ _ _ _ _ _ _ _ _ _ _ _ _ _ _ (F0 mm pc lsA (Value.int i :: Value.ref (xphi b ex a) :: xcs b ex rest))
  rw [xphi_own hR hs]
  exact va_iald (D := D) hx hb hK.1 hR.1 a 0 he rfl hi hdc (k0.2 M hM p e R s mm args below meth c Q H locs cells slots lsA C hR hz hS hc1 hc2 hl hret)
set_option maxHeartbeats 1000000 in
theorem s_bald : xr_bald (XP b ex aC D L xs l) := by
  intro d y pc cn ls rest I J K h r t a n i hd0 hs hi k0
  refine ⟨k0.1, fun M hM p e R s mm args below meth c Q H locs cells slots lsA C hR hz hS hc1 hc2 hl hret => ?_⟩
  obtain ⟨hx, hb, hml, hown, hnm, hts, hK, hF, hbs, hfr, hlo⟩ := id C
  obtain ⟨hcn, hdc, hst⟩ := xdec_of hM hd0
  have he := xws_get (b := b) (ex := ex) (aC := aC) (m := (I, J, K, h)) hs
  show W _ _ _ _ _ _ _ _ _ _ _ _ _ _ _ (F0 mm pc lsA (Value.int i :: Value.ref (xphi b ex a) :: xcs b ex rest))
  rw [xphi_own hR hs]
  exact va_bald (D := D) hx hb hK.1 hR.1 a 2 he rfl hi hdc (k0.2 M hM p e R s mm args below meth c Q H locs cells slots lsA C hR hz hS hc1 hc2 hl hret)
set_option maxHeartbeats 1000000 in
theorem s_zald : xr_zald (XP b ex aC D L xs l) := by
  intro d y pc cn ls rest I J K h r t a n i hd0 hs hi k0
  refine ⟨k0.1, fun M hM p e R s mm args below meth c Q H locs cells slots lsA C hR hz hS hc1 hc2 hl hret => ?_⟩
  obtain ⟨hx, hb, hml, hown, hnm, hts, hK, hF, hbs, hfr, hlo⟩ := id C
  obtain ⟨hcn, hdc, hst⟩ := xdec_of hM hd0
  have he := xws_get (b := b) (ex := ex) (aC := aC) (m := (I, J, K, h)) hs
  show W _ _ _ _ _ _ _ _ _ _ _ _ _ _ _ (F0 mm pc lsA (Value.int i :: Value.ref (xphi b ex a) :: xcs b ex rest))
  rw [xphi_own hR hs]
  exact va_zald (D := D) hx hb hK.1 hR.1 a 3 he rfl hi hdc (k0.2 M hM p e R s mm args below meth c Q H locs cells slots lsA C hR hz hS hc1 hc2 hl hret)
set_option maxHeartbeats 1000000 in
theorem s_lald : xr_lald (XP b ex aC D L xs l) := by
  intro d y pc cn ls rest I J K h r t a n i hd0 hs hi k0
  refine ⟨k0.1, fun M hM p e R s mm args below meth c Q H locs cells slots lsA C hR hz hS hc1 hc2 hl hret => ?_⟩
  obtain ⟨hx, hb, hml, hown, hnm, hts, hK, hF, hbs, hfr, hlo⟩ := id C
  obtain ⟨hcn, hdc, hst⟩ := xdec_of hM hd0
  have he := xws_get (b := b) (ex := ex) (aC := aC) (m := (I, J, K, h)) hs
  show W _ _ _ _ _ _ _ _ _ _ _ _ _ _ _ (F0 mm pc lsA (Value.int i :: Value.ref (xphi b ex a) :: xcs b ex rest))
  rw [xphi_own hR hs]
  exact va_lald (D := D) hx hb hK.1 hR.1 a 1 he rfl hi hdc (k0.2 M hM p e R s mm args below meth c Q H locs cells slots lsA C hR hz hS hc1 hc2 hl hret)
set_option maxHeartbeats 1000000 in
theorem s_iast : xr_iast (XP b ex aC D L xs l) := by
  intro d y pc cn ls rest I J K h r t a n i x hd0 hs hi k0
  refine ⟨k0.1, fun M hM p e R s mm args below meth c Q H locs cells slots lsA C hR hz hS hc1 hc2 hl hret => ?_⟩
  obtain ⟨hx, hb, hml, hown, hnm, hts, hK, hF, hbs, hfr, hlo⟩ := id C
  obtain ⟨hcn, hdc, hst⟩ := xdec_of hM hd0
  have he := xws_get (b := b) (ex := ex) (aC := aC) (m := (I, J, K, h)) hs
  show W _ _ _ _ _ _ _ _ _ _ _ _ _ _ _ (F0 mm pc lsA (Value.int x :: Value.int i :: Value.ref (xphi b ex a) :: xcs b ex rest))
  rw [xphi_own hR hs]
  exact va_iast (D := D) hx hb hK.1 hR.1 (xws_D _) hS a 0 he rfl hi hdc (fun H1 locs1 hP1 hD1 hS1 => xW_size fun hz1 => k0.2 M hM p e R s mm args below meth c Q H1 locs1 cells slots lsA C (XR_set hR hs rfl (fun i hi => ⟨upc_ne _ _ hi, rfl, rfl⟩) (by show Sum.inl (_, (n, Sum.inl (upc I a _ a))) = _; rw [upc_eq]; try rfl) hP1 (by show H1.size ≤ b + h.length; rw [← hz]; exact hz1)) hz hS1 hc1 hc2 hl hret)
set_option maxHeartbeats 1000000 in
theorem s_bast : xr_bast (XP b ex aC D L xs l) := by
  intro d y pc cn ls rest I J K h r t a n i x hd0 hs hi k0
  refine ⟨k0.1, fun M hM p e R s mm args below meth c Q H locs cells slots lsA C hR hz hS hc1 hc2 hl hret => ?_⟩
  obtain ⟨hx, hb, hml, hown, hnm, hts, hK, hF, hbs, hfr, hlo⟩ := id C
  obtain ⟨hcn, hdc, hst⟩ := xdec_of hM hd0
  have he := xws_get (b := b) (ex := ex) (aC := aC) (m := (I, J, K, h)) hs
  show W _ _ _ _ _ _ _ _ _ _ _ _ _ _ _ (F0 mm pc lsA (Value.int x :: Value.int i :: Value.ref (xphi b ex a) :: xcs b ex rest))
  rw [xphi_own hR hs]
  exact va_bast (D := D) hx hb hK.1 hR.1 (xws_D _) hS a 2 he rfl hi hdc (fun H1 locs1 hP1 hD1 hS1 => xW_size fun hz1 => k0.2 M hM p e R s mm args below meth c Q H1 locs1 cells slots lsA C (XR_set hR hs rfl (fun i hi => ⟨upc_ne _ _ hi, rfl, rfl⟩) (by show Sum.inl (_, (n, Sum.inl (upc I a _ a))) = _; rw [upc_eq]; try rfl) hP1 (by show H1.size ≤ b + h.length; rw [← hz]; exact hz1)) hz hS1 hc1 hc2 hl hret)
set_option maxHeartbeats 1000000 in
theorem s_zast : xr_zast (XP b ex aC D L xs l) := by
  intro d y pc cn ls rest I J K h r t a n i x hd0 hs hi k0
  refine ⟨k0.1, fun M hM p e R s mm args below meth c Q H locs cells slots lsA C hR hz hS hc1 hc2 hl hret => ?_⟩
  obtain ⟨hx, hb, hml, hown, hnm, hts, hK, hF, hbs, hfr, hlo⟩ := id C
  obtain ⟨hcn, hdc, hst⟩ := xdec_of hM hd0
  have he := xws_get (b := b) (ex := ex) (aC := aC) (m := (I, J, K, h)) hs
  show W _ _ _ _ _ _ _ _ _ _ _ _ _ _ _ (F0 mm pc lsA (Value.int x :: Value.int i :: Value.ref (xphi b ex a) :: xcs b ex rest))
  rw [xphi_own hR hs]
  exact va_zast (D := D) hx hb hK.1 hR.1 (xws_D _) hS a 3 he rfl hi hdc (fun H1 locs1 hP1 hD1 hS1 => xW_size fun hz1 => k0.2 M hM p e R s mm args below meth c Q H1 locs1 cells slots lsA C (XR_set hR hs rfl (fun i hi => ⟨upc_ne _ _ hi, rfl, rfl⟩) (by show Sum.inl (_, (n, Sum.inl (upc I a _ a))) = _; rw [upc_eq]; try rfl) hP1 (by show H1.size ≤ b + h.length; rw [← hz]; exact hz1)) hz hS1 hc1 hc2 hl hret)
set_option maxHeartbeats 1000000 in
theorem s_last : xr_last (XP b ex aC D L xs l) := by
  intro d y pc cn ls rest I J K h r t a n i x hd0 hs hi k0
  refine ⟨k0.1, fun M hM p e R s mm args below meth c Q H locs cells slots lsA C hR hz hS hc1 hc2 hl hret => ?_⟩
  obtain ⟨hx, hb, hml, hown, hnm, hts, hK, hF, hbs, hfr, hlo⟩ := id C
  obtain ⟨hcn, hdc, hst⟩ := xdec_of hM hd0
  have he := xws_get (b := b) (ex := ex) (aC := aC) (m := (I, J, K, h)) hs
  show W _ _ _ _ _ _ _ _ _ _ _ _ _ _ _ (F0 mm pc lsA (Value.long x :: Value.int i :: Value.ref (xphi b ex a) :: xcs b ex rest))
  rw [xphi_own hR hs]
  exact va_last (D := D) hx hb hK.1 hR.1 (xws_D _) hS a 1 he rfl hi hdc (fun H1 locs1 hP1 hD1 hS1 => xW_size fun hz1 => k0.2 M hM p e R s mm args below meth c Q H1 locs1 cells slots lsA C (XR_set hR hs rfl (fun i hi => ⟨rfl, upc_ne _ _ hi, rfl⟩) (by show Sum.inl (_, (n, Sum.inr (Sum.inl (upc J a _ a)))) = _; rw [upc_eq]; try rfl) hP1 (by show H1.size ≤ b + h.length; rw [← hz]; exact hz1)) hz hS1 hc1 hc2 hl hret)
set_option maxHeartbeats 1000000 in
theorem s_aald : xr_aald (XP b ex aC D L xs l) := by
  intro d y pc cn ls rest I J K h r t a n i C j hd0 hs hi hty hj k0
  refine ⟨k0.1, fun M hM p e R s mm args below meth c Q H locs cells slots lsA C hR hz hS hc1 hc2 hl hret => ?_⟩
  obtain ⟨hx, hb, hml, hown, hnm, hts, hK, hF, hbs, hfr, hlo⟩ := id C
  obtain ⟨hcn, hdc, hst⟩ := xdec_of hM hd0
  have he := xws_get (b := b) (ex := ex) (aC := aC) (m := (I, J, K, h)) hs
  show W _ _ _ _ _ _ _ _ _ _ _ _ _ _ _ (F0 mm pc lsA (Value.int i :: Value.ref (xphi b ex a) :: xcs b ex rest))
  rw [xphi_own hR hs]
  obtain ⟨t0, ht0⟩ := xtys_at (aC := aC) hty
  have k1 := k0.2 M hM p e R s mm args below meth c Q H locs cells slots lsA C hR hz hS hc1 hc2 hl hret
  refine va_aldq (D := D) hx hb hK.1 hR.1 a t0 he ht0 hi hdc ?_
  rw [show va_rf ((K a i.toNatClampNeg).map (xphi b ex)) = Value.ref (xphi b ex j) from by rw [hj]; rfl]
  exact k1
set_option maxHeartbeats 1000000 in
theorem s_aaldN : xr_aaldN (XP b ex aC D L xs l) := by
  intro d y pc cn ls rest I J K h r t a n i C hd0 hs hi hty hj k0
  refine ⟨k0.1, fun M hM p e R s mm args below meth c Q H locs cells slots lsA C hR hz hS hc1 hc2 hl hret => ?_⟩
  obtain ⟨hx, hb, hml, hown, hnm, hts, hK, hF, hbs, hfr, hlo⟩ := id C
  obtain ⟨hcn, hdc, hst⟩ := xdec_of hM hd0
  have he := xws_get (b := b) (ex := ex) (aC := aC) (m := (I, J, K, h)) hs
  show W _ _ _ _ _ _ _ _ _ _ _ _ _ _ _ (F0 mm pc lsA (Value.int i :: Value.ref (xphi b ex a) :: xcs b ex rest))
  rw [xphi_own hR hs]
  obtain ⟨t0, ht0⟩ := xtys_at (aC := aC) hty
  have k1 := k0.2 M hM p e R s mm args below meth c Q H locs cells slots lsA C hR hz hS hc1 hc2 hl hret
  refine va_aldq (D := D) hx hb hK.1 hR.1 a t0 he ht0 hi hdc ?_
  rw [show va_rf ((K a i.toNatClampNeg).map (xphi b ex)) = Value.null from by rw [hj]; rfl]
  exact k1
theorem xasg_ok {ci : Nat} {C : String} (h : xasg ci C) {s : State} (hK : xK aC D s) : ci < 13 ∧ ∀ comp c0 : ClassId, s.vm.findClass C = some comp → s.vm.findClass (xR ci) = some c0 → s.vm.assignable c0 comp = true := by
  rcases h with ⟨h1, rfl⟩ | ⟨rfl, h1⟩
  · exact ⟨h1, vb_asgS⟩
  · have hc : (ci, 2) ∈ xCast ∧ ci < 13 := by
      simp only [List.mem_cons, List.not_mem_nil, or_false] at h1
      rcases h1 with rfl | rfl | rfl | rfl | rfl | rfl <;> exact ⟨by decide, by decide⟩
    exact ⟨hc.2, (hK.2.2.2.2 _ hc.1).asg⟩
set_option maxHeartbeats 1000000 in
theorem s_aast : xr_aast (XP b ex aC D L xs l) := by
  intro d y pc cn ls rest I J K h r t a n i C j ci hd0 hs hi hty hj hc k0
  refine ⟨k0.1, fun M hM p e R s mm args below meth c Q H locs cells slots lsA C hR hz hS hc1 hc2 hl hret => ?_⟩
  obtain ⟨hx, hb, hml, hown, hnm, hts, hK, hF, hbs, hfr, hlo⟩ := id C
  obtain ⟨hcn, hdc, hst⟩ := xdec_of hM hd0
  have he := xws_get (b := b) (ex := ex) (aC := aC) (m := (I, J, K, h)) hs
  have hej := xws_get (b := b) (ex := ex) (aC := aC) (m := (I, J, K, h)) hj
  obtain ⟨hci, hasg⟩ := xasg_ok hc hK
  obtain ⟨hcw, hcc, -⟩ := xcla hci
  obtain ⟨t0, ht0⟩ := xtys_at (aC := aC) hty
  show W _ _ _ _ _ _ _ _ _ _ _ _ _ _ _ (F0 mm pc lsA (Value.ref (xphi b ex j) :: Value.int i :: Value.ref (xphi b ex a) :: xcs b ex rest))
  have hphij := xphi_own hR hj
  rw [xphi_own hR hs, hphij]
  exact vb_astq (D := D) hx hb hK.1 hR.1 (xws_D _) hS a t0 he ht0 (va_recv hK.1 hR.1 hcc hej) hasg hi hdc (fun H1 locs1 hP1 hD1 hS1 => xW_size fun hz1 => k0.2 M hM p e R s mm args below meth c Q H1 locs1 cells slots lsA C (XR_set hR hs rfl (fun i hi => ⟨rfl, rfl, upc_ne _ _ hi⟩) (by
    have e9 : (fun k9 => (upc K a (upc (K a) i.toNatClampNeg (some j)) a k9).map (xphi b ex)) = va_up (fun k9 => (K a k9).map (xphi b ex)) i.toNatClampNeg (some (b + j)) := by
      funext k9
      rw [upc_eq]
      by_cases hk9 : k9 = i.toNatClampNeg
      · subst hk9; simp [upc, va_up, *]
      · simp [upc, va_up, hk9]
    show Sum.inl (_, (n, Sum.inr (Sum.inr (Sum.inr (Sum.inr (fun k9 => (upc K a (upc (K a) i.toNatClampNeg (some j)) a k9).map (xphi b ex))))))) = _
    rw [e9]) hP1 (by show H1.size ≤ b + h.length; rw [← hz]; exact hz1)) hz hS1 hc1 hc2 hl hret)
set_option maxHeartbeats 1000000 in
theorem s_aastN : xr_aastN (XP b ex aC D L xs l) := by
  intro d y pc cn ls rest I J K h r t a n i C hd0 hs hi hty k0
  refine ⟨k0.1, fun M hM p e R s mm args below meth c Q H locs cells slots lsA C hR hz hS hc1 hc2 hl hret => ?_⟩
  obtain ⟨hx, hb, hml, hown, hnm, hts, hK, hF, hbs, hfr, hlo⟩ := id C
  obtain ⟨hcn, hdc, hst⟩ := xdec_of hM hd0
  have he := xws_get (b := b) (ex := ex) (aC := aC) (m := (I, J, K, h)) hs
  obtain ⟨t0, ht0⟩ := xtys_at (aC := aC) hty
  show W _ _ _ _ _ _ _ _ _ _ _ _ _ _ _ (F0 mm pc lsA (Value.null :: Value.int i :: Value.ref (xphi b ex a) :: xcs b ex rest))
  rw [xphi_own hR hs]
  exact va_astqN (D := D) hx hb hK.1 hR.1 (xws_D _) hS a t0 he ht0 hi hdc (fun H1 locs1 hP1 hD1 hS1 => xW_size fun hz1 => k0.2 M hM p e R s mm args below meth c Q H1 locs1 cells slots lsA C (XR_set hR hs rfl (fun i hi => ⟨rfl, rfl, upc_ne _ _ hi⟩) (by
    have e9 : (fun k9 => (upc K a (upc (K a) i.toNatClampNeg none) a k9).map (xphi b ex)) = va_up (fun k9 => (K a k9).map (xphi b ex)) i.toNatClampNeg none := by
      funext k9
      rw [upc_eq]
      by_cases hk9 : k9 = i.toNatClampNeg
      · subst hk9; simp [upc, va_up, *]
      · simp [upc, va_up, hk9]
    show Sum.inl (_, (n, Sum.inr (Sum.inr (Sum.inr (Sum.inr (fun k9 => (upc K a (upc (K a) i.toNatClampNeg none) a k9).map (xphi b ex))))))) = _
    rw [e9]) hP1 (by show H1.size ≤ b + h.length; rw [← hz]; exact hz1)) hz hS1 hc1 hc2 hl hret)
set_option maxHeartbeats 1000000 in
theorem s_alen : xr_alen (XP b ex aC D L xs l) := by
  intro d y pc cn ls rest I J K h r t a n ty hd0 hs hty k0
  refine ⟨k0.1, fun M hM p e R s mm args below meth c Q H locs cells slots lsA C hR hz hS hc1 hc2 hl hret => ?_⟩
  obtain ⟨hx, hb, hml, hown, hnm, hts, hK, hF, hbs, hfr, hlo⟩ := id C
  obtain ⟨hcn, hdc, hst⟩ := xdec_of hM hd0
  have he := xws_get (b := b) (ex := ex) (aC := aC) (m := (I, J, K, h)) hs
  show W _ _ _ _ _ _ _ _ _ _ _ _ _ _ _ (F0 mm pc lsA (Value.ref (xphi b ex a) :: xcs b ex rest))
  rw [xphi_own hR hs]
  obtain ⟨t0, ht0⟩ := xtys_at (aC := aC) hty
  exact va_alen (D := D) hx hb hK.1 hR.1 a t0 he ht0 rfl hdc (k0.2 M hM p e R s mm args below meth c Q H locs cells slots lsA C hR hz hS hc1 hc2 hl hret)
theorem xYes_lt : ∀ q ∈ xYes, q.1 < 13 := by decide
theorem xNo_lt : ∀ q ∈ xNo, q.1 < 13 := by decide
set_option maxHeartbeats 1000000 in
theorem s_inst0 : xr_inst0 (XP b ex aC D L xs l) := by
  intro d y pc cn ls rest I J K h r t a idx ci ti hd0 hs hd hc k0
  refine ⟨k0.1, fun M hM p e R s mm args below meth c Q H locs cells slots lsA C hR hz hS hc1 hc2 hl hret => ?_⟩
  obtain ⟨hx, hb, hml, hown, hnm, hts, hK, hF, hbs, hfr, hlo⟩ := id C
  obtain ⟨hcn, hdc, hst⟩ := xdec_of hM hd0
  have he := xws_get (b := b) (ex := ex) (aC := aC) (m := (I, J, K, h)) hs
  subst hcn
  obtain ⟨hti, hlink⟩ := xDt_ok _ hd
  dsimp only at hti hlink
  show W _ _ _ _ _ _ _ _ _ _ _ _ _ _ _ (F0 mm pc lsA (Value.ref (xphi b ex a) :: xcs b ex rest))
  rw [xphi_own hR hs]
  obtain ⟨hcw, hcc, -⟩ := xcla (xNo_lt _ hc)
  exact va_instNo hx hb hown (hts _ hlink) (hK.2.2.2.1 _ hc) (va_recv hK.1 hR.1 hcc he) hdc (k0.2 M hM p e R s mm args below meth c Q H locs cells slots lsA C hR hz hS hc1 hc2 hl hret)
set_option maxHeartbeats 1000000 in
theorem s_inst1 : xr_inst1 (XP b ex aC D L xs l) := by
  intro d y pc cn ls rest I J K h r t a idx ci ti hd0 hs hd hc k0
  refine ⟨k0.1, fun M hM p e R s mm args below meth c Q H locs cells slots lsA C hR hz hS hc1 hc2 hl hret => ?_⟩
  obtain ⟨hx, hb, hml, hown, hnm, hts, hK, hF, hbs, hfr, hlo⟩ := id C
  obtain ⟨hcn, hdc, hst⟩ := xdec_of hM hd0
  have he := xws_get (b := b) (ex := ex) (aC := aC) (m := (I, J, K, h)) hs
  subst hcn
  obtain ⟨hti, hlink⟩ := xDt_ok _ hd
  dsimp only at hti hlink
  show W _ _ _ _ _ _ _ _ _ _ _ _ _ _ _ (F0 mm pc lsA (Value.ref (xphi b ex a) :: xcs b ex rest))
  rw [xphi_own hR hs]
  obtain ⟨hcw, hcc, -⟩ := xcla (xYes_lt _ hc)
  have hrv := va_recv hK.1 hR.1 hcc he
  dsimp only at hrv hcc
  simp only [xYes, List.mem_cons, List.not_mem_nil, or_false, Prod.mk.injEq] at hc
  rcases hc with ⟨rfl, rfl⟩ | ⟨rfl, rfl⟩ | ⟨rfl, rfl⟩ | ⟨rfl, rfl⟩ | ⟨rfl, rfl⟩ | ⟨rfl, rfl⟩ | ⟨rfl, rfl⟩ | ⟨rfl, rfl⟩ | ⟨rfl, rfl⟩
  · exact va_instY hx hb hown (hts _ hlink) (hK.2.2.2.2 (4, 6) (by decide)).use hrv hdc (k0.2 M hM p e R s mm args below meth c Q H locs cells slots lsA C hR hz hS hc1 hc2 hl hret)
  · exact va_instY hx hb hown (hts _ hlink) (hK.2.2.2.2 (1, 10) (by decide)).use hrv hdc (k0.2 M hM p e R s mm args below meth c Q H locs cells slots lsA C hR hz hS hc1 hc2 hl hret)
  · exact va_instY hx hb hown (hts _ hlink) (hK.2.2.2.2 (7, 0) (by decide)).use hrv hdc (k0.2 M hM p e R s mm args below meth c Q H locs cells slots lsA C hR hz hS hc1 hc2 hl hret)
  all_goals exact va_instS hx hb hown (hts _ hlink) (hK.1.1 _ _ hcc).2 hrv hdc (k0.2 M hM p e R s mm args below meth c Q H locs cells slots lsA C hR hz hS hc1 hc2 hl hret)
set_option maxHeartbeats 1000000 in
theorem s_new : xr_new (XP b ex aC D L xs l) := by
  intro d y pc cn ls rest I J K h r t idx ci hd0 hd hz9 k0
  refine ⟨⟨Nat.le_trans (by show h.length ≤ (h ++ [_]).length; simp) k0.1.1, Nat.le_trans (by show xsz h ≤ xsz (h ++ [_]); rw [xsz_add]; omega) k0.1.2.1, k0.1.2.2⟩, fun M hM p e R s mm args below meth c Q H locs cells slots lsA C hR hz hS hc1 hc2 hl hret => ?_⟩
  obtain ⟨hx, hb, hml, hown, hnm, hts, hK, hF, hbs, hfr, hlo⟩ := id C
  obtain ⟨hcn, hdc, hst⟩ := xdec_of hM hd0
  have hL0 : h.length + 1 ≤ t.2.2.2.length := by have := k0.1.1; simpa using this
  have hS0 : xsz h + xN ci ≤ xsz t.2.2.2 := by have := k0.1.2.1; rw [show xsz (_, _, _, h ++ [_]).2.2.2 = _ from xsz_add h _] at this; exact this
  have hc1' : cells + (t.2.2.2.length - h.length) ≤ R.cells := hc1
  have hc2' : slots + (xsz t.2.2.2 - xsz h) ≤ R.slots := hc2
  have hzz : s.heap.size + cells = b + h.length := hz
  subst hcn
  obtain ⟨hci, hlink⟩ := xDt_ok _ hd
  dsimp only at hci hlink
  obtain ⟨hcw, hcc, hct, hcnm, hcin, hcini⟩ := xcla hci
  refine va_new (D := D) hx hb hts hcw (xty ci) hct hown (hts _ hlink) (hts _ hcin) (hts _ hcini) hK.1 hR.1 (xws_D _) hS (fun q hq => Nat.le_trans hbs hq) hcc (fs := (List.range (xN ci)).map (fun k => xfv b ex (upc I h.length (fun _ => 0), upc J h.length (fun _ => 0), upc K h.length (fun _ => none), h ++ [.inl ci]) h.length (xty ci k) k)) (fun j hj => ?_) (by omega) (by omega) hdc (fun q H1 hP1 hD1 hS1 => ?_)
  · have g1 := xobj_get (b := b) (ex := ex) (m := (upc I h.length (fun _ => 0), upc J h.length (fun _ => 0), upc K h.length (fun _ => none), h ++ [.inl ci])) (a := h.length) hj
    unfold vp_V
    rw [List.getD_eq_getElem?_getD, g1]
    rcases xkd_ok hci hj with e9 | e9 | ⟨C9, e9⟩ | ⟨t9, e9⟩ <;> rw [e9] <;> simp [xfv, xkd, upc_eq, defaultValue, va_rf]
  · exact xW_size fun hz1 => by
        have hpush := XR_push (s := Sum.inl ci) (m' := (upc I h.length (fun _ => 0), upc J h.length (fun _ => 0), upc K h.length (fun _ => none), h ++ [Sum.inl ci])) hR hz9 rfl (fun i hi => ⟨upc_ne _ _ hi, upc_ne _ _ hi, upc_ne _ _ hi⟩) (rfl) hP1 hD1 (by show H1.size ≤ b + h.length + 1; omega)
        obtain ⟨rfl, hR1⟩ := hpush
        have hphi : xphi b ex h.length = b + h.length := if_pos (by omega)
        have k1 := k0.2 M hM p e R s mm args below meth c Q H1 locs (cells + 1) (slots + xN ci) lsA C hR1 (by show s.heap.size + (cells + 1) = b + (h ++ [_]).length; rw [List.length_append]; show _ = b + (h.length + 1); omega) hS1 (by show cells + 1 + (t.2.2.2.length - (h ++ [_]).length) ≤ R.cells; rw [List.length_append]; show cells + 1 + (t.2.2.2.length - (h.length + 1)) ≤ R.cells; omega) (by rw [show xsz (_, _, _, h ++ [_]).2.2.2 = _ from xsz_add h _]; show slots + xN ci + (xsz t.2.2.2 - (xsz h + xN ci)) ≤ R.slots; omega) hl (fun pc' H' locs' ls' g1 g2 g3 => by
          have e1 : cells + 1 + (t.2.2.2.length - (h ++ [Sum.inl ci]).length) = cells + (t.2.2.2.length - h.length) := by rw [List.length_append]; show cells + 1 + (t.2.2.2.length - (h.length + 1)) = _; omega
          have e2 : slots + xN ci + (xsz t.2.2.2 - xsz (h ++ [Sum.inl ci])) = slots + (xsz t.2.2.2 - xsz h) := by rw [xsz_add]; show slots + xN ci + (xsz t.2.2.2 - (xsz h + xN ci)) = _; omega
          exact W.cs e1 e2 (hret pc' H' locs' ls' g1 g2 g3))
        rw [show xcs b ex (Value.ref h.length :: rest) = Value.ref (b + h.length) :: xcs b ex rest from by show Value.ref (xphi b ex h.length) :: _ = _; rw [hphi]; rfl] at k1
        exact k1
theorem xaty1_w {ty : FieldType} (h : xaty1 ty) : Cond.arrayClass ty ∈ xW := by
  rcases h with rfl | rfl | rfl | rfl
  · exact xwA_int
  · exact xwA_long
  · exact xwA_byte
  · exact xwA_boolean
theorem xra {U : State} {c1 c2 : ClassId} {ty : FieldType} (h1 : va_RA U c1 ty) (h2 : va_RA U c2 ty) : c1 = c2 := by
  cases ty with
  | object C =>
    obtain ⟨_, _, _, _, _, e1⟩ := h1
    obtain ⟨_, _, _, _, _, e2⟩ := h2
    exact Option.some.inj (e1.symm.trans e2)
  | _ => exact Option.some.inj (h1.symm.trans h2)
theorem xra2 {U : State} {tys : List (ClassId × FieldType)} {cA : ClassId} {ty : FieldType} {cl : List vw_C} (hK : va_K D cl tys U) {t : Nat} (ht : tys[t]? = some (aC ty, ty)) (hK2 : va_K D cl (tys ++ [(cA, ty)]) U) : cA = aC ty := by
  have h1 := (hK.2 t _ ht).2
  have h2 := (hK2.2 tys.length (cA, ty) (by simp)).2
  exact xra h2 h1
set_option maxHeartbeats 1000000 in
theorem s_newa : xr_newa (XP b ex aC D L xs l) := by
  intro d y pc cn ls rest I J K h r t at1 n N hd0 ha hn hN hb hz9 k0
  refine ⟨⟨Nat.le_trans (by show h.length ≤ (h ++ [_]).length; simp) k0.1.1, Nat.le_trans (by show xsz h ≤ xsz (h ++ [_]); rw [xsz_add]; omega) k0.1.2.1, k0.1.2.2⟩, fun M hM p e R s mm args below meth c Q H locs cells slots lsA C hR hz hS hc1 hc2 hl hret => ?_⟩
  obtain ⟨hx, hb, hml, hown, hnm, hts, hK, hF, hbs, hfr, hlo⟩ := id C
  obtain ⟨hcn, hdc, hst⟩ := xdec_of hM hd0
  have hL0 : h.length + 1 ≤ t.2.2.2.length := by have := k0.1.1; simpa using this
  have hS0 : xsz h + N ≤ xsz t.2.2.2 := by have := k0.1.2.1; rw [show xsz (_, _, _, h ++ [_]).2.2.2 = _ from xsz_add h _] at this; exact this
  have hc1' : cells + (t.2.2.2.length - h.length) ≤ R.cells := hc1
  have hc2' : slots + (xsz t.2.2.2 - xsz h) ≤ R.slots := hc2
  have hzz : s.heap.size + cells = b + h.length := hz
  have hbytes : N * componentBytes (newarray.typeOf at1) ≤ 536870912 := by cases at1 <;> simp [newarray.typeOf, componentBytes] <;> omega
  obtain ⟨t0, ht0⟩ := xtys_at (aC := aC) (Or.inl ha)
  refine va_newa (D := D) (atype := at1) hx hb (hts _ (xaty1_w ha)) rfl hK.1 hR.1 (xws_D _) hS (fun q hq => Nat.le_trans hbs hq) (a0 := (N, xarr b ex (upc I h.length (fun _ => 0), upc J h.length (fun _ => 0), upc K h.length (fun _ => none), h ++ [.inr (newarray.typeOf at1, N)]) h.length (newarray.typeOf at1))) (fun cA => ?_) hn hN hbytes (by omega) (by omega) hdc (fun q cA H1 hK1 hP1 hD1 hS1 => ?_)
  · rcases ha with e9 | e9 | e9 | e9 <;> rw [e9] <;> simp [xarr, upc_eq] <;> rfl
  · have hcA := xra2 hK.1 ht0 hK1
    subst hcA
    exact xW_size fun hz1 => by
        have hpush := XR_push (s := Sum.inr (newarray.typeOf at1, N)) (m' := (upc I h.length (fun _ => 0), upc J h.length (fun _ => 0), upc K h.length (fun _ => none), h ++ [Sum.inr (newarray.typeOf at1, N)])) hR hz9 rfl (fun i hi => ⟨upc_ne _ _ hi, upc_ne _ _ hi, upc_ne _ _ hi⟩) (rfl) hP1 hD1 (by show H1.size ≤ b + h.length + 1; omega)
        obtain ⟨rfl, hR1⟩ := hpush
        have hphi : xphi b ex h.length = b + h.length := if_pos (by omega)
        have k1 := k0.2 M hM p e R s mm args below meth c Q H1 locs (cells + 1) (slots + N) lsA C hR1 (by show s.heap.size + (cells + 1) = b + (h ++ [_]).length; rw [List.length_append]; show _ = b + (h.length + 1); omega) hS1 (by show cells + 1 + (t.2.2.2.length - (h ++ [_]).length) ≤ R.cells; rw [List.length_append]; show cells + 1 + (t.2.2.2.length - (h.length + 1)) ≤ R.cells; omega) (by rw [show xsz (_, _, _, h ++ [_]).2.2.2 = _ from xsz_add h _]; show slots + N + (xsz t.2.2.2 - (xsz h + N)) ≤ R.slots; omega) hl (fun pc' H' locs' ls' g1 g2 g3 => by
          have e1 : cells + 1 + (t.2.2.2.length - (h ++ [Sum.inr (newarray.typeOf at1, N)]).length) = cells + (t.2.2.2.length - h.length) := by rw [List.length_append]; show cells + 1 + (t.2.2.2.length - (h.length + 1)) = _; omega
          have e2 : slots + N + (xsz t.2.2.2 - xsz (h ++ [Sum.inr (newarray.typeOf at1, N)])) = slots + (xsz t.2.2.2 - xsz h) := by rw [xsz_add]; show slots + N + (xsz t.2.2.2 - (xsz h + N)) = _; omega
          exact W.cs e1 e2 (hret pc' H' locs' ls' g1 g2 g3))
        rw [show xcs b ex (Value.ref h.length :: rest) = Value.ref (b + h.length) :: xcs b ex rest from by show Value.ref (xphi b ex h.length) :: _ = _; rw [hphi]; rfl] at k1
        exact k1
set_option maxHeartbeats 1000000 in
theorem s_newq : xr_newq (XP b ex aC D L xs l) := by
  intro d y pc cn ls rest I J K h r t idx ci n N hd0 hd ha hn hN hb hz9 k0
  refine ⟨⟨Nat.le_trans (by show h.length ≤ (h ++ [_]).length; simp) k0.1.1, Nat.le_trans (by show xsz h ≤ xsz (h ++ [_]); rw [xsz_add]; omega) k0.1.2.1, k0.1.2.2⟩, fun M hM p e R s mm args below meth c Q H locs cells slots lsA C hR hz hS hc1 hc2 hl hret => ?_⟩
  obtain ⟨hx, hb, hml, hown, hnm, hts, hK, hF, hbs, hfr, hlo⟩ := id C
  obtain ⟨hcn, hdc, hst⟩ := xdec_of hM hd0
  have hL0 : h.length + 1 ≤ t.2.2.2.length := by have := k0.1.1; simpa using this
  have hS0 : xsz h + N ≤ xsz t.2.2.2 := by have := k0.1.2.1; rw [show xsz (_, _, _, h ++ [_]).2.2.2 = _ from xsz_add h _] at this; exact this
  have hc1' : cells + (t.2.2.2.length - h.length) ≤ R.cells := hc1
  have hc2' : slots + (xsz t.2.2.2 - xsz h) ≤ R.slots := hc2
  have hzz : s.heap.size + cells = b + h.length := hz
  subst hcn
  obtain ⟨hci, hlink⟩ := xDt_ok _ hd
  dsimp only at hci hlink
  obtain ⟨t0, ht0⟩ := xtys_at (aC := aC) ha
  have hAO : va_AO (xR ci) s := by
    obtain ⟨-, -, ⟨g1, g2, g3⟩, -⟩ := hK
    rcases ha with (e | e | e | e) | e | e | e
    · cases e
    · cases e
    · cases e
    · cases e
    · injection e with e; rw [e]; exact g1
    · injection e with e; rw [e]; exact g2
    · injection e with e; rw [e]; exact g3
  refine va_newq (D := D) hx hb hown (hts _ hlink) hAO hK.1 hR.1 (xws_D _) hS (fun q hq => Nat.le_trans hbs hq) hn hN (by omega) (by omega) (by omega) hdc (fun q cA H1 hK1 hP1 hD1 hS1 => ?_)
  have hcA := xra2 hK.1 ht0 hK1
  subst hcA
  exact xW_size fun hz1 => by
        have hpush := XR_push (s := Sum.inr (FieldType.object (xR ci), N)) (m' := (upc I h.length (fun _ => 0), upc J h.length (fun _ => 0), upc K h.length (fun _ => none), h ++ [Sum.inr (FieldType.object (xR ci), N)])) hR hz9 rfl (fun i hi => ⟨upc_ne _ _ hi, upc_ne _ _ hi, upc_ne _ _ hi⟩) (by show Sum.inl (_, (N, Sum.inr (Sum.inr (Sum.inr (Sum.inr (fun k => (upc K h.length _ h.length k).map (xphi b ex))))))) = _; rw [upc_eq]; try rfl) hP1 hD1 (by show H1.size ≤ b + h.length + 1; omega)
        obtain ⟨rfl, hR1⟩ := hpush
        have hphi : xphi b ex h.length = b + h.length := if_pos (by omega)
        have k1 := k0.2 M hM p e R s mm args below meth c Q H1 locs (cells + 1) (slots + N) lsA C hR1 (by show s.heap.size + (cells + 1) = b + (h ++ [_]).length; rw [List.length_append]; show _ = b + (h.length + 1); omega) hS1 (by show cells + 1 + (t.2.2.2.length - (h ++ [_]).length) ≤ R.cells; rw [List.length_append]; show cells + 1 + (t.2.2.2.length - (h.length + 1)) ≤ R.cells; omega) (by rw [show xsz (_, _, _, h ++ [_]).2.2.2 = _ from xsz_add h _]; show slots + N + (xsz t.2.2.2 - (xsz h + N)) ≤ R.slots; omega) hl (fun pc' H' locs' ls' g1 g2 g3 => by
          have e1 : cells + 1 + (t.2.2.2.length - (h ++ [Sum.inr (FieldType.object (xR ci), N)]).length) = cells + (t.2.2.2.length - h.length) := by rw [List.length_append]; show cells + 1 + (t.2.2.2.length - (h.length + 1)) = _; omega
          have e2 : slots + N + (xsz t.2.2.2 - xsz (h ++ [Sum.inr (FieldType.object (xR ci), N)])) = slots + (xsz t.2.2.2 - xsz h) := by rw [xsz_add]; show slots + N + (xsz t.2.2.2 - (xsz h + N)) = _; omega
          exact W.cs e1 e2 (hret pc' H' locs' ls' g1 g2 g3))
        rw [show xcs b ex (Value.ref h.length :: rest) = Value.ref (b + h.length) :: xcs b ex rest from by show Value.ref (xphi b ex h.length) :: _ = _; rw [hphi]; rfl] at k1
        exact k1
set_option maxHeartbeats 1000000 in
theorem s_gets : xr_gets (XP b ex aC D L xs l) := by
  intro d y pc cn ls rest I J K h r t hd0 hc k0
  refine ⟨k0.1, fun M hM p e R s mm args below meth c Q H locs cells slots lsA C hR hz hS hc1 hc2 hl hret => ?_⟩
  obtain ⟨hx, hb, hml, hown, hnm, hts, hK, hF, hbs, hfr, hlo⟩ := id C
  obtain ⟨hcn, hdc, hst⟩ := xdec_of hM hd0
  subst hcn
  have he : xphi b ex 1000010 = ex 10 := rfl
  have k1 := k0.2 M hM p e R s mm args below meth c Q H locs cells slots lsA C hR hz hS hc1 hc2 hl hret
  rw [show xcs b ex (Value.ref 1000010 :: rest) = Value.ref (ex 10) :: xcs b ex rest from rfl] at k1
  rw [hc] at hown
  exact va_gets hx hb hF.2.2.2.2.1 hS hown (hts _ xwNB) (fun x hx => hx) hdc k1
set_option maxHeartbeats 1000000 in
theorem s_sld : xr_sld (XP b ex aC D L xs l) := by
  intro d y pc cn ls rest I J K h r t i hd0 hi k0
  refine ⟨k0.1, fun M hM p e R s mm args below meth c Q H locs cells slots lsA C hR hz hS hc1 hc2 hl hret => ?_⟩
  obtain ⟨hx, hb, hml, hown, hnm, hts, hK, hF, hbs, hfr, hlo⟩ := id C
  obtain ⟨hcn, hdc, hst⟩ := xdec_of hM hd0
  obtain ⟨hX, hb0, -, -, -, hL, -⟩ := hF
  have hxs : I 1000000 = xs := hR.2.2.2.1
  have hLI : I 1000001 0 = Int32.ofNat L := hR.2.2.2.2
  have hLn : (I 1000001 0).toNatClampNeg = L := by rw [hLI]; exact nI_clamp hL
  rw [hLn] at hi
  have k1 := k0.2 M hM p e R s mm args below meth c Q H locs cells slots lsA C hR hz hS hc1 hc2 hl hret
  rw [hxs] at k1
  exact va_sld hx hb hX (Nat.lt_of_lt_of_le hb0 hbs) (Nat.not_le.mpr hb0) hS hi hdc k1
set_option maxHeartbeats 1000000 in
theorem s_slen : xr_slen (XP b ex aC D L xs l) := by
  intro d y pc cn ls rest I J K h r t hd0 k0
  refine ⟨k0.1, fun M hM p e R s mm args below meth c Q H locs cells slots lsA C hR hz hS hc1 hc2 hl hret => ?_⟩
  obtain ⟨hx, hb, hml, hown, hnm, hts, hK, hF, hbs, hfr, hlo⟩ := id C
  obtain ⟨hcn, hdc, hst⟩ := xdec_of hM hd0
  obtain ⟨hX, hb0, -, -, -, hL, -⟩ := hF
  have hLI : I 1000001 0 = Int32.ofNat L := hR.2.2.2.2
  have k1 := k0.2 M hM p e R s mm args below meth c Q H locs cells slots lsA C hR hz hS hc1 hc2 hl hret
  rw [hLI] at k1
  exact va_slen hx hb hX (Nat.lt_of_lt_of_le hb0 hbs) (Nat.not_le.mpr hb0) hS hdc k1
set_option maxHeartbeats 1000000 in
theorem s_sgetV : xr_sgetV (XP b ex aC D L xs l) := by
  intro d y pc cn ls rest I J K h r t k hd0 hc hk k0
  refine ⟨k0.1, fun M hM p e R s mm args below meth c Q H locs cells slots lsA C hR hz hS hc1 hc2 hl hret => ?_⟩
  obtain ⟨hx, hb, hml, hown, hnm, hts, hK, hF, hbs, hfr, hlo⟩ := id C
  obtain ⟨hcn, hdc, hst⟩ := xdec_of hM hd0
  subst hcn
  rw [hc] at hown
  have he : xphi b ex (1000001 + k) = ex (1 + k) := by
    unfold xphi
    rw [if_neg (by omega), show 1000001 + k - 1000000 = 1 + k by omega]
  have he2 : xphi b ex (1000021 + k) = ex (21 + k) := by
    unfold xphi
    rw [if_neg (by omega), show 1000021 + k - 1000000 = 21 + k by omega]
  have k1 := k0.2 M hM p e R s mm args below meth c Q H locs cells slots lsA C hR hz hS hc1 hc2 hl hret
  rw [show xcs b ex (Value.ref (1000021 + k) :: rest) = Value.ref (ex (21 + k)) :: xcs b ex rest from by show Value.ref (xphi b ex (1000021 + k)) :: _ = _; rw [he2]; rfl] at k1
  show W _ _ _ _ _ _ _ _ _ _ _ _ _ _ _ (F0 mm pc lsA (Value.ref (xphi b ex (1000001 + k)) :: xcs b ex rest))
  rw [he]
  exact vk_getf hx hb (hF.2.2.1.1 k hk).2.2.1 hS hown (hts _ xwSV) (fun x hx => hx) hdc k1
set_option maxHeartbeats 1000000 in
theorem s_sgetC : xr_sgetC (XP b ex aC D L xs l) := by
  intro d y pc cn ls rest I J K h r t k hd0 hc hk k0
  refine ⟨k0.1, fun M hM p e R s mm args below meth c Q H locs cells slots lsA C hR hz hS hc1 hc2 hl hret => ?_⟩
  obtain ⟨hx, hb, hml, hown, hnm, hts, hK, hF, hbs, hfr, hlo⟩ := id C
  obtain ⟨hcn, hdc, hst⟩ := xdec_of hM hd0
  subst hcn
  rw [hc] at hown
  have he : xphi b ex (1000001 + k) = ex (1 + k) := by
    unfold xphi
    rw [if_neg (by omega), show 1000001 + k - 1000000 = 1 + k by omega]
  have k1 := k0.2 M hM p e R s mm args below meth c Q H locs cells slots lsA C hR hz hS hc1 hc2 hl hret
  show W _ _ _ _ _ _ _ _ _ _ _ _ _ _ _ (F0 mm pc lsA (Value.ref (xphi b ex (1000001 + k)) :: xcs b ex rest))
  rw [he]
  exact vk_getf hx hb (hF.2.2.1.1 k hk).2.1 hS hown (hts _ xwSC) (fun x hx => hx) hdc k1
theorem xslen {k : Nat} (hk : k < 5) : ([6, 3, 4, 16, 10] : List Nat).getD k 0 = (xStr k).length ∧ ((List.range 5).map xStr).getD k [] = xStr k ∧ (xStr k).length < 2 ^ 31 := by
  rcases (show k = 0 ∨ k = 1 ∨ k = 2 ∨ k = 3 ∨ k = 4 by omega) with rfl | rfl | rfl | rfl | rfl <;> exact ⟨rfl, rfl, by decide⟩
set_option maxHeartbeats 1000000 in
theorem s_sblen : xr_sblen (XP b ex aC D L xs l) := by
  intro d y pc cn ls rest I J K h r t k hd0 hk k0
  refine ⟨k0.1, fun M hM p e R s mm args below meth c Q H locs cells slots lsA C hR hz hS hc1 hc2 hl hret => ?_⟩
  obtain ⟨hx, hb, hml, hown, hnm, hts, hK, hF, hbs, hfr, hlo⟩ := id C
  obtain ⟨hcn, hdc, hst⟩ := xdec_of hM hd0
  have he : xphi b ex (1000021 + k) = ex (21 + k) := by
    unfold xphi
    rw [if_neg (by omega), show 1000021 + k - 1000000 = 21 + k by omega]
  have k1 := k0.2 M hM p e R s mm args below meth c Q H locs cells slots lsA C hR hz hS hc1 hc2 hl hret
  have hT := (hF.2.2.1.1 k hk).2.2.2
  obtain ⟨e1, e2, e3⟩ := xslen hk
  rw [e1] at hT
  show W _ _ _ _ _ _ _ _ _ _ _ _ _ _ _ (F0 mm pc lsA (Value.ref (xphi b ex (1000021 + k)) :: xcs b ex rest))
  rw [he]
  exact va_tlen hx hb hT hS rfl hdc k1
set_option maxHeartbeats 1000000 in
theorem s_sbald : xr_sbald (XP b ex aC D L xs l) := by
  intro d y pc cn ls rest I J K h r t k j hd0 hk hj k0
  refine ⟨k0.1, fun M hM p e R s mm args below meth c Q H locs cells slots lsA C hR hz hS hc1 hc2 hl hret => ?_⟩
  obtain ⟨hx, hb, hml, hown, hnm, hts, hK, hF, hbs, hfr, hlo⟩ := id C
  obtain ⟨hcn, hdc, hst⟩ := xdec_of hM hd0
  have he : xphi b ex (1000021 + k) = ex (21 + k) := by
    unfold xphi
    rw [if_neg (by omega), show 1000021 + k - 1000000 = 21 + k by omega]
  have k1 := k0.2 M hM p e R s mm args below meth c Q H locs cells slots lsA C hR hz hS hc1 hc2 hl hret
  have hT := (hF.2.2.1.1 k hk).2.2.2
  obtain ⟨e1, e2, e3⟩ := xslen hk
  rw [e1, e2] at hT
  show W _ _ _ _ _ _ _ _ _ _ _ _ _ _ _ (F0 mm pc lsA (Value.int (nI j) :: Value.ref (xphi b ex (1000021 + k)) :: xcs b ex rest))
  rw [he]
  exact va_tb hx hb hT hS (vp_in_nI hj e3) (by rw [nI_clamp (by omega)]; rfl) hdc k1
set_option maxHeartbeats 1000000 in
theorem s_getsC : xr_getsC (XP b ex aC D L xs l) := by
  intro d y pc cn ls rest I J K h r t hd0 hc k0
  refine ⟨k0.1, fun M hM p e R s mm args below meth c Q H locs cells slots lsA C hR hz hS hc1 hc2 hl hret => ?_⟩
  obtain ⟨hx, hb, hml, hown, hnm, hts, hK, hF, hbs, hfr, hlo⟩ := id C
  obtain ⟨hcn, hdc, hst⟩ := xdec_of hM hd0
  subst hcn
  rw [hc] at hown
  exact va_gets hx hb hF.2.2.2.2.2.2.1 hS hown (hts _ xwCS) (fun x hx => hx) hdc (k0.2 M hM p e R s mm args below meth c Q H locs cells slots lsA C hR hz hS hc1 hc2 hl hret)
set_option maxHeartbeats 1000000 in
theorem s_getsF : xr_getsF (XP b ex aC D L xs l) := by
  intro d y pc cn ls rest I J K h r t hd0 hc k0 k1
  refine ⟨k0.1, fun M hM p e R s mm args below meth c Q H locs cells slots lsA C hR hz hS hc1 hc2 hl hret => ?_⟩
  obtain ⟨hx, hb, hml, hown, hnm, hts, hK, hF, hbs, hfr, hlo⟩ := id C
  obtain ⟨hcn, hdc, hst⟩ := xdec_of hM hd0
  subst hcn
  rw [hc] at hown
  rcases hF.2.2.2.2.2.2.2 with z | z
  · exact va_gets hx hb z hS hown (hts _ xwFO) (fun x hx => hx) hdc (k0.2 M hM p e R s mm args below meth c Q H locs cells slots lsA C hR hz hS hc1 hc2 hl hret)
  · exact va_gets hx hb z hS hown (hts _ xwFO) (fun x hx => hx) hdc (k1.2 M hM p e R s mm args below meth c Q H locs cells slots lsA C hR hz hS hc1 hc2 hl hret)
set_option maxHeartbeats 1000000 in
theorem s_max : xr_max (XP b ex aC D L xs l) := by
  intro d y pc cn ls rest I J K h r t idx x y1 hd0 hp hw k0
  refine ⟨k0.1, fun M hM p e R s mm args below meth c Q H locs cells slots lsA C hR hz hS hc1 hc2 hl hret => ?_⟩
  obtain ⟨hx, hb, hml, hown, hnm, hts, hK, hF, hbs, hfr, hlo⟩ := id C
  obtain ⟨hcn, hdc, hst⟩ := xdec_of hM hd0
  subst hcn
  have hlk := xPt_ok _ hp
  have hsum : (List.map (fun v => v.category) (List.map (xcv b ex) rest)).sum = (rest.map fun v => v.category).sum := xcs_sum b ex rest
  have h7 : nativeFrameWords "java/lang/System" "arraycopy" 5 = 7 := by decide +kernel
  have hml2 : c.maxLocals = lsA.size := by rw [hml, hl.1]
  exact va_mmax hx hb hml2 hown (hts _ hlk) (hts _ xwMaxS) (hts _ xwMathI) (hts _ xwMaxC) (by omega) (by rw [hsum]; omega) (by omega) (by omega) hdc (k0.2 M hM p e R s mm args below meth c Q H locs cells slots lsA C hR hz hS hc1 hc2 hl hret)
set_option maxHeartbeats 1000000 in
theorem s_min : xr_min (XP b ex aC D L xs l) := by
  intro d y pc cn ls rest I J K h r t idx x y1 hd0 hp hw k0
  refine ⟨k0.1, fun M hM p e R s mm args below meth c Q H locs cells slots lsA C hR hz hS hc1 hc2 hl hret => ?_⟩
  obtain ⟨hx, hb, hml, hown, hnm, hts, hK, hF, hbs, hfr, hlo⟩ := id C
  obtain ⟨hcn, hdc, hst⟩ := xdec_of hM hd0
  subst hcn
  have hlk := xPt_ok _ hp
  have hsum : (List.map (fun v => v.category) (List.map (xcv b ex) rest)).sum = (rest.map fun v => v.category).sum := xcs_sum b ex rest
  have h7 : nativeFrameWords "java/lang/System" "arraycopy" 5 = 7 := by decide +kernel
  have hml2 : c.maxLocals = lsA.size := by rw [hml, hl.1]
  exact va_mmin hx hb hml2 hown (hts _ hlk) (hts _ xwMinS) (hts _ xwMathI) (hts _ xwMinC) (by omega) (by rw [hsum]; omega) (by omega) (by omega) hdc (k0.2 M hM p e R s mm args below meth c Q H locs cells slots lsA C hR hz hS hc1 hc2 hl hret)
set_option maxHeartbeats 1000000 in
theorem s_abs : xr_abs (XP b ex aC D L xs l) := by
  intro d y pc cn ls rest I J K h r t idx x hd0 hp hw k0
  refine ⟨k0.1, fun M hM p e R s mm args below meth c Q H locs cells slots lsA C hR hz hS hc1 hc2 hl hret => ?_⟩
  obtain ⟨hx, hb, hml, hown, hnm, hts, hK, hF, hbs, hfr, hlo⟩ := id C
  obtain ⟨hcn, hdc, hst⟩ := xdec_of hM hd0
  subst hcn
  have hlk := xPt_ok _ hp
  have hsum : (List.map (fun v => v.category) (List.map (xcv b ex) rest)).sum = (rest.map fun v => v.category).sum := xcs_sum b ex rest
  have h7 : nativeFrameWords "java/lang/System" "arraycopy" 5 = 7 := by decide +kernel
  have hml2 : c.maxLocals = lsA.size := by rw [hml, hl.1]
  exact va_mabs hx hb hml2 hown (hts _ hlk) (hts _ xwAbsS) (hts _ xwMathI) (hts _ xwAbsC) (by omega) (by rw [hsum]; omega) (by omega) (by omega) hdc (k0.2 M hM p e R s mm args below meth c Q H locs cells slots lsA C hR hz hS hc1 hc2 hl hret)
set_option maxHeartbeats 1000000 in
theorem s_cpyi : xr_cpyi (XP b ex aC D L xs l) := by
  intro d y pc cn ls rest I J K h r t idx a0 a n0 n1 sp dp n hd0 hp hw hs0 hs1 h1 h2 h3 h4 h5 k0
  refine ⟨k0.1, fun M hM p e R s mm args below meth c Q H locs cells slots lsA C hR hz hS hc1 hc2 hl hret => ?_⟩
  obtain ⟨hx, hb, hml, hown, hnm, hts, hK, hF, hbs, hfr, hlo⟩ := id C
  obtain ⟨hcn, hdc, hst⟩ := xdec_of hM hd0
  subst hcn
  have hlk := xPt_ok _ hp
  have hsum : (List.map (fun v => v.category) (List.map (xcv b ex) rest)).sum = (rest.map fun v => v.category).sum := xcs_sum b ex rest
  have h7 : nativeFrameWords "java/lang/System" "arraycopy" 5 = 7 := by decide +kernel
  have hml2 : c.maxLocals = lsA.size := by rw [hml, hl.1]
  have he0 := xws_get (b := b) (ex := ex) (aC := aC) (m := (I, J, K, h)) hs0
  have he1 := xws_get (b := b) (ex := ex) (aC := aC) (m := (I, J, K, h)) hs1
  show W _ _ _ _ _ _ _ _ _ _ _ _ _ _ _ (F0 mm pc lsA (Value.int n :: Value.int dp :: Value.ref (xphi b ex a) :: Value.int sp :: Value.ref (xphi b ex a0) :: xcs b ex rest))
  rw [xphi_own hR hs1, xphi_own hR hs0]
  exact va_copyi (D := D) hx hb hml2 hown (hts _ hlk) (hts _ xwCpyN) (hts _ xwCpyS) (hts _ xwCpyI) hK.1 hR.1 (xws_D _) hS a0 a 0 0 he0 he1 rfl rfl rfl h1 h2 h3 h4 h5 (fun _ _ => rfl) (by omega) (by rw [xcs_sum, h7]; omega) hdc (fun H1 locs1 hP1 hD1 hS1 => xW_size fun hz1 => k0.2 M hM p e R s mm args below meth c Q H1 locs1 cells slots lsA C (XR_set hR hs1 rfl (fun i hi => ⟨upc_ne _ _ hi, rfl, rfl⟩) (by show Sum.inl (_, (n1, Sum.inl (upc I a _ a))) = _; rw [upc_eq]; try rfl) hP1 (by show H1.size ≤ b + h.length; rw [← hz]; exact hz1)) hz hS1 hc1 hc2 hl hret)
set_option maxHeartbeats 1000000 in
theorem s_cpyl : xr_cpyl (XP b ex aC D L xs l) := by
  intro d y pc cn ls rest I J K h r t idx a0 a n0 n1 sp dp n hd0 hp hw hs0 hs1 h1 h2 h3 h4 h5 k0
  refine ⟨k0.1, fun M hM p e R s mm args below meth c Q H locs cells slots lsA C hR hz hS hc1 hc2 hl hret => ?_⟩
  obtain ⟨hx, hb, hml, hown, hnm, hts, hK, hF, hbs, hfr, hlo⟩ := id C
  obtain ⟨hcn, hdc, hst⟩ := xdec_of hM hd0
  subst hcn
  have hlk := xPt_ok _ hp
  have hsum : (List.map (fun v => v.category) (List.map (xcv b ex) rest)).sum = (rest.map fun v => v.category).sum := xcs_sum b ex rest
  have h7 : nativeFrameWords "java/lang/System" "arraycopy" 5 = 7 := by decide +kernel
  have hml2 : c.maxLocals = lsA.size := by rw [hml, hl.1]
  have he0 := xws_get (b := b) (ex := ex) (aC := aC) (m := (I, J, K, h)) hs0
  have he1 := xws_get (b := b) (ex := ex) (aC := aC) (m := (I, J, K, h)) hs1
  show W _ _ _ _ _ _ _ _ _ _ _ _ _ _ _ (F0 mm pc lsA (Value.int n :: Value.int dp :: Value.ref (xphi b ex a) :: Value.int sp :: Value.ref (xphi b ex a0) :: xcs b ex rest))
  rw [xphi_own hR hs1, xphi_own hR hs0]
  exact va_copyl (D := D) hx hb hml2 hown (hts _ hlk) (hts _ xwCpyN) (hts _ xwCpyS) (hts _ xwCpyI) hK.1 hR.1 (xws_D _) hS a0 a 1 1 he0 he1 rfl rfl rfl h1 h2 h3 h4 h5 (fun _ _ => rfl) (by omega) (by rw [xcs_sum, h7]; omega) hdc (fun H1 locs1 hP1 hD1 hS1 => xW_size fun hz1 => k0.2 M hM p e R s mm args below meth c Q H1 locs1 cells slots lsA C (XR_set hR hs1 rfl (fun i hi => ⟨rfl, upc_ne _ _ hi, rfl⟩) (by show Sum.inl (_, (n1, Sum.inr (Sum.inl (upc J a _ a)))) = _; rw [upc_eq]; try rfl) hP1 (by show H1.size ≤ b + h.length; rw [← hz]; exact hz1)) hz hS1 hc1 hc2 hl hret)
set_option maxHeartbeats 1000000 in
theorem s_oinit : xr_oinit (XP b ex aC D L xs l) := by
  intro d y pc cn ls rest I J K h r t idx a hd0 hp hw k0
  refine ⟨k0.1, fun M hM p e R s mm args below meth c Q H locs cells slots lsA C hR hz hS hc1 hc2 hl hret => ?_⟩
  obtain ⟨hx, hb, hml, hown, hnm, hts, hK, hF, hbs, hfr, hlo⟩ := id C
  obtain ⟨hcn, hdc, hst⟩ := xdec_of hM hd0
  subst hcn
  have hlk := xPt_ok _ hp
  have hsum : (List.map (fun v => v.category) (List.map (xcv b ex) rest)).sum = (rest.map fun v => v.category).sum := xcs_sum b ex rest
  have h7 : nativeFrameWords "java/lang/System" "arraycopy" 5 = 7 := by decide +kernel
  have hml2 : c.maxLocals = lsA.size := by rw [hml, hl.1]
  refine W.objInit (g := F0 mm pc lsA (Value.ref (xphi b ex a) :: xcs b ex rest)) hx hb hown (hts _ hlk) (hts _ xwObjI) (hts _ xwObjC) rfl hml2.symm rfl hdc (by omega) (by have := lv_room (m := mm) (pc := pc) (ls := lsA) (rest := Value.ref (xphi b ex a) :: xcs b ex rest) (st := xcs b ex rest) (by rw [xcs_sum]; exact hw); omega) ?_
  exact k0.2 M hM p e R s mm args below meth c Q H locs cells slots lsA C hR hz hS hc1 hc2 hl hret
end RULES2
