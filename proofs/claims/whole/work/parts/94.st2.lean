/-! what the tables and the start say of the machine -/
section ST2
theorem xtb {w : Cond} (h : w ∈ tables_1) : w ∈ lw_tbl := List.mem_append_right _ h
theorem xcl_all : ∀ q ∈ vwCl, (∀ w ∈ u_ws q.1 q.2.1 q.2.2, w ∈ xW) ∧ Cond.instantiable q.1 q.2.2 ∈ xW := List.forall_mem_cons.mpr ⟨⟨xcl0, xci0⟩, List.forall_mem_cons.mpr ⟨⟨xcl1, xci1⟩, List.forall_mem_cons.mpr ⟨⟨xcl2, xci2⟩, List.forall_mem_cons.mpr ⟨⟨xcl3, xci3⟩, List.forall_mem_cons.mpr ⟨⟨xcl4, xci4⟩, List.forall_mem_cons.mpr ⟨⟨xcl5, xci5⟩, List.forall_mem_cons.mpr ⟨⟨xcl6, xci6⟩, List.forall_mem_cons.mpr ⟨⟨xcl7, xci7⟩, List.forall_mem_cons.mpr ⟨⟨xcl8, xci8⟩, List.forall_mem_cons.mpr ⟨⟨xcl9, xci9⟩, List.forall_mem_cons.mpr ⟨⟨xcl10, xci10⟩, List.forall_mem_cons.mpr ⟨⟨xcl11, xci11⟩, List.forall_mem_cons.mpr ⟨⟨xcl12, xci12⟩, fun _ h => absurd h List.not_mem_nil⟩⟩⟩⟩⟩⟩⟩⟩⟩⟩⟩⟩⟩
theorem xD_at {s : State} {args : Array Value} (hts : ∀ w ∈ lw_tbl, w.before args s = true) : ∃ D : va_G, ∀ (c : Nat) (q : vw_C), vwCl[c]? = some q → u_Kn s q.1 q.2.1 q.2.2 (D.1 c) (D.2 c) := by
  have h0 : ∀ c : Nat, ∃ w : ClassId × (Nat → Nat), ∀ q : vw_C, vwCl[c]? = some q → u_Kn s q.1 q.2.1 q.2.2 w.1 w.2 := by
    intro c
    by_cases h : ∃ q : vw_C, vwCl[c]? = some q
    · obtain ⟨q, h⟩ := h
      obtain ⟨h1, h2⟩ := xcl_all q (List.mem_of_getElem? h)
      obtain ⟨cC, iS, hk⟩ := u_known (ws := xW) (fun w hw => hts w (xW_in hw)) h1 (hts _ (xW_in h2))
      refine ⟨(cC, iS), fun q' h' => ?_⟩
      cases Option.some.inj (h.symm.trans h')
      exact hk
    · exact ⟨(0, fun _ => 0), fun q h' => absurd ⟨q, h'⟩ h⟩
  obtain ⟨f, hf⟩ := Classical.axiomOfChoice h0
  exact ⟨(fun c => (f c).1, fun c => (f c).2), fun c q h => hf c q h⟩
theorem xarr1 {s : State} {args : Array Value} {ty : FieldType} (h : (Cond.arrayClass ty).before args s = true) : ∃ c : ClassId, ArrOfT s c ty ∧ s.vm.findClass ("[" ++ ty.toString) = some c := by
  obtain ⟨c, k, comp, h1, h2, h3⟩ := Cond.arrayClass_spec h
  exact ⟨c, fun n z => ⟨fun k h => (by cases h), k, h2, comp, h3⟩, h1⟩
theorem xarr2 {s : State} {args : Array Value} {C : String} (h : (Cond.arrayOver (.object C)).before args s = true) : ∃ c : ClassId, ArrOfT s c (.object C) ∧ va_RA s c (.object C) := by
  obtain ⟨comp, c, k, h1, h2, h3, h4, h5⟩ := Cond.arrayOver_spec h
  exact ⟨c, fun n z => ⟨fun k h => (by cases h), k, h3, comp, h4⟩, k, comp, h3, h4, h1, h5⟩
def xaC (a b c d e f g : ClassId) : FieldType → ClassId
  | .int => a
  | .long => b
  | .byte => c
  | .boolean => d
  | .object C => if C = RX2 then e else if C = RX8 then f else g
  | _ => g
theorem xaC_f (a b c d e f g : ClassId) : xaC a b c d e f g (.object RX8) = f := by
  show (if RX8 = RX2 then e else if RX8 = RX8 then f else g) = f
  rw [if_neg (by decide +kernel), if_pos rfl]
theorem xaC_e (a b c d e f g : ClassId) : xaC a b c d e f g (.object RX2) = e := by
  show (if RX2 = RX2 then e else if RX2 = RX8 then f else g) = e
  rw [if_pos rfl]
theorem xaC_g (a b c d e f g : ClassId) : xaC a b c d e f g (.object RX5) = g := by
  show (if RX5 = RX2 then e else if RX5 = RX8 then f else g) = g
  rw [if_neg (by decide +kernel), if_neg (by decide +kernel)]
abbrev xGv : Cond := Jvm.Cond.and given_1 narrow_1
theorem xNo_in : ∀ q ∈ xNo, Cond.not (Cond.castable (xR q.1) (xR q.2)) ∈ flatC xGv := by decide +kernel
theorem xCast_in : ∀ q ∈ xCast, Cond.castable (xR q.1) (xR q.2) ∈ tables_1 := List.forall_mem_cons.mpr ⟨xt7 (i := 171) rfl, List.forall_mem_cons.mpr ⟨xt7 (i := 172) rfl, List.forall_mem_cons.mpr ⟨xt7 (i := 173) rfl, List.forall_mem_cons.mpr ⟨xt7 (i := 174) rfl, List.forall_mem_cons.mpr ⟨xt7 (i := 175) rfl, List.forall_mem_cons.mpr ⟨xt7 (i := 176) rfl, List.forall_mem_cons.mpr ⟨xt7 (i := 177) rfl, List.forall_mem_cons.mpr ⟨xt7 (i := 178) rfl, List.forall_mem_cons.mpr ⟨xt7 (i := 179) rfl, fun _ h => absurd h List.not_mem_nil⟩⟩⟩⟩⟩⟩⟩⟩⟩
theorem xK_at {s : State} {args : Array Value} (hts : ∀ w ∈ lw_tbl, w.before args s = true) (hgv : xGv.before args s = true) : ∃ (aC : FieldType → ClassId) (D : va_G), xK aC D s := by
  obtain ⟨D, hD⟩ := xD_at hts
  obtain ⟨a1, p1, q1⟩ := xarr1 (hts _ (xW_in xwA_int))
  obtain ⟨a2, p2, q2⟩ := xarr1 (hts _ (xW_in xwA_long))
  obtain ⟨a3, p3, q3⟩ := xarr1 (hts _ (xW_in xwA_byte))
  obtain ⟨a4, p4, q4⟩ := xarr1 (hts _ (xW_in xwA_boolean))
  obtain ⟨a5, p5, q5⟩ := xarr2 (C := RX2) (hts _ (xtb xtO_Hat))
  obtain ⟨a6, p6, q6⟩ := xarr2 (C := RX8) (hts _ (xtb xtO_Town))
  obtain ⟨a7, p7, q7⟩ := xarr2 (C := RX5) (hts _ (xtb xtO_Tape))
  have hall : ∀ q ∈ xtys (xaC a1 a2 a3 a4 a5 a6 a7), ArrOfT s q.1 q.2 ∧ va_RA s q.1 q.2 := by
    refine List.forall_mem_cons.mpr ⟨⟨p1, q1⟩, List.forall_mem_cons.mpr ⟨⟨p2, q2⟩, List.forall_mem_cons.mpr ⟨⟨p3, q3⟩, List.forall_mem_cons.mpr ⟨⟨p4, q4⟩, List.forall_mem_cons.mpr ⟨?_, List.forall_mem_cons.mpr ⟨?_, List.forall_mem_cons.mpr ⟨?_, fun _ h => absurd h List.not_mem_nil⟩⟩⟩⟩⟩⟩⟩
    · rw [xaC_e]
      exact ⟨p5, q5⟩
    · rw [xaC_f]
      exact ⟨p6, q6⟩
    · rw [xaC_g]
      exact ⟨p7, q7⟩
  refine ⟨xaC a1 a2 a3 a4 a5 a6 a7, D, ⟨hD, fun k q hq => hall q (List.mem_of_getElem? hq)⟩, fun w hw => ?_, ⟨va_AO.of (hts _ (xtb xtO_Hat)), va_AO.of (hts _ (xtb xtO_Town)), va_AO.of (hts _ (xtb xtO_Tape))⟩, fun q hq => va_Nc.of (flat_of_before _ hgv _ (xNo_in q hq)), fun q hq => xYc.of (hts _ (xtb (xCast_in q hq)))⟩
  have h7 := hts w (xtb (xNest_in w hw))
  obtain ⟨a, i, x, z, rfl⟩ := xNest_form w hw
  exact va_Nw.of rfl h7
end ST2
/-! the texts and the statics at the start -/
section ST3
def xTm : Nat → Term
  | 0 => .string "HatsDecide" 60
  | 1 => .string "HatsDecide$Town" 61
  | 2 => .string "HatsDecide$Town" 88
  | 3 => .string "HatsDecide$Town" 94
  | _ => .string "HatsDecide$Town" 122
abbrev xTl : List Nat := [6, 3, 4, 16, 10]
abbrev xTb : List (List Int32) := (List.range 5).map xStr
theorem xT_ex : ∀ i : Nat, i < 5 → Cond.exactly (xTm i) "java/lang/String" ∈ flatC xGv := by decide +kernel
theorem xT_co : ∀ i : Nat, i < 5 → Cond.eq (.field (xTm i) "java/lang/String" "coder" "B") (.int 0) ∈ flatC xGv := by decide +kernel
theorem xT_ar : ∀ i : Nat, i < 5 → Cond.arrayOf (.field (xTm i) "java/lang/String" "value" "[B") .byte ∈ flatC xGv := by decide +kernel
theorem xT_le : ∀ i : Nat, i < 5 → Cond.eq (.length (.field (xTm i) "java/lang/String" "value" "[B")) (.int (Int32.ofNat (xTl.getD i 0))) ∈ flatC xGv := by decide +kernel
theorem xT_el : ∀ i : Nat, i < 5 → ∀ j : Nat, j < xTl.getD i 0 → Cond.eq (.elem (.field (xTm i) "java/lang/String" "value" "[B") (.int (Int32.ofNat j))) (.int ((xTb.getD i []).getD j 0)) ∈ flatC xGv := by decide +kernel
theorem xT_ne : ∀ i : Nat, i < 5 → ∀ j : Nat, j < 5 → i ≠ j → Cond.not (Cond.eq (xTm i) (xTm j)) ∈ flatC xGv ∨ Cond.not (Cond.eq (xTm j) (xTm i)) ∈ flatC xGv := by decide +kernel
theorem xT_eq : Cond.eq (.string "HatsDecide" 60) (.string "HatsDecide$Town" 116) ∈ flatC xGv := by decide +kernel
theorem xT_nb : Cond.arrayOf (.static "HatsDecide$Town" "NO_BYTES" "[B") .byte ∈ flatC xGv ∧ Cond.eq (.length (.static "HatsDecide$Town" "NO_BYTES" "[B")) (.int 0) ∈ flatC xGv ∧ Cond.eq (.static "java/lang/String" "COMPACT_STRINGS" "Z") (.int 1) ∈ flatC xGv ∧ Cond.isRef (.static "jdk/internal/util/Preconditions" "SIOOBE_FORMATTER" "Ljava/util/function/BiFunction;") ∈ flatC xGv := by decide +kernel
theorem xSt_in : ∀ q ∈ xSt, Cond.stringRef (xR q.1) q.2.1 (xStx q.2.2) ∈ tables_1 := List.forall_mem_cons.mpr ⟨xt1 (i := 176) rfl, List.forall_mem_cons.mpr ⟨xt3 (i := 117) rfl, List.forall_mem_cons.mpr ⟨xt2 (i := 204) rfl, List.forall_mem_cons.mpr ⟨xt3 (i := 55) rfl, List.forall_mem_cons.mpr ⟨xt3 (i := 98) rfl, List.forall_mem_cons.mpr ⟨xt3 (i := 103) rfl, fun _ h => absurd h List.not_mem_nil⟩⟩⟩⟩⟩⟩
theorem vk_S_congr {N : Nat} {len : List Nat} {byt : List (List Int32)} {adK adV aK aV : Nat → Nat} {A : Nat → Prop} {U : State} {H : Heap} (h : vk_S N len byt adK adV A U H) (hc : ∀ i : Nat, i < N → aK i = adK i ∧ aV i = adV i) : vk_S N len byt aK aV A U H := by
  refine ⟨fun i hi => ?_, fun i j hi hj e => h.2 i j hi hj (by rw [← (hc i hi).1, ← (hc j hj).1]; exact e)⟩
  rw [(hc i hi).1, (hc i hi).2]
  exact h.1 i hi
/-- the numbers of what lies there at the start -/
def xEx (b : Nat) (aK aV : Nat → Nat) (nb sf : Nat) : Nat → Nat := fun k => if k = 0 then b else if k < 6 then aK (k - 1) else if k = 10 then nb else if k = 11 then sf else aV (k - 21)
theorem xEx_K {b : Nat} {aK aV : Nat → Nat} {nb sf : Nat} {i : Nat} (h : i < 5) : xEx b aK aV nb sf (1 + i) = aK i := by
  unfold xEx
  rw [if_neg (by omega), if_pos (by omega), Nat.add_sub_cancel_left]
theorem xEx_V {b : Nat} {aK aV : Nat → Nat} {nb sf : Nat} {i : Nat} (h : i < 5) : xEx b aK aV nb sf (21 + i) = aV i := by
  unfold xEx
  rw [if_neg (by omega), if_neg (by omega), if_neg (by omega), if_neg (by omega), Nat.add_sub_cancel_left]
theorem xF_at {s : State} {args : Array Value} {b L : Nat} {xs : Nat → Int32} (hL : L ≤ 3072) (hts : ∀ w ∈ lw_tbl, w.before args s = true) (hgv : xGv.before args s = true) (hX : va_X b L xs s s.heap) (hbl : b < s.heap.size) : ∃ ex : Nat → Nat, ex 0 = b ∧ xF s.heap.size ex L xs s s.heap := by
  have hs := flat_of_before _ hgv
  have hA : ∀ a : Nat, a < s.heap.size → ¬ xA s.heap.size a := fun a h h2 => absurd h (Nat.not_lt.mpr h2)
  have hlen : ∀ i : Nat, i < 5 → xTl.getD i 0 < 2 ^ 31 := by decide +kernel
  obtain ⟨aK, aV, hS, hE⟩ := vk_Sof (args := args) (s := s) (N := 5) (tm := xTm) (len := xTl) (byt := xTb) (A := xA s.heap.size) hlen (fun i hi => hs _ (xT_ex i hi)) (fun i hi => hs _ (xT_co i hi)) (fun i hi => hs _ (xT_ar i hi)) (fun i hi => hs _ (xT_le i hi)) (fun i hi j hj => hs _ (xT_el i hi j hj)) (fun i j hi hj hij => (xT_ne i hi j hj hij).imp (hs _) (hs _)) hA
  obtain ⟨nb1, nb2, nb3, nb4⟩ := xT_nb
  obtain ⟨nb, hnb, -⟩ := va_Tof (N := 0) (f := fun _ => .null) (A := xA s.heap.size) (by decide) (hs _ nb1) (va_eqt (hs _ nb2)) (fun j hj => absurd hj (Nat.not_lt_zero _)) hA
  have z1 : va_Z "HatsDecide$Town" "NO_BYTES" "[B" (.ref nb) (xA s.heap.size) s s.heap := va_Zof (args := args) (hts _ (xtb (xt1 (i := 120) rfl))) (hts _ (xtb (xt1 (i := 3) rfl))) hnb hA
  have z2 : va_Z "java/lang/String" "COMPACT_STRINGS" "Z" (.int 1) (xA s.heap.size) s s.heap := va_Zof (args := args) (hts _ (xtb (xt1 (i := 186) rfl))) (hts _ (xtb (xt1 (i := 5) rfl))) (va_eqt (hs _ nb3)) hA
  have z3 : va_Zq "jdk/internal/util/Preconditions" "SIOOBE_FORMATTER" "Ljava/util/function/BiFunction;" (xA s.heap.size) s s.heap := va_Zqof (args := args) (hts _ (xtb (xt3 (i := 75) rfl))) (hts _ (xtb (xt1 (i := 18) rfl))) (hs _ nb4) hA
  obtain ⟨sf, z4⟩ : ∃ sf : Nat, va_Z "jdk/internal/util/Preconditions" "SIOOBE_FORMATTER" "Ljava/util/function/BiFunction;" .null (xA s.heap.size) s s.heap ∨ va_Z "jdk/internal/util/Preconditions" "SIOOBE_FORMATTER" "Ljava/util/function/BiFunction;" (.ref sf) (xA s.heap.size) s s.heap := by
    rcases z3 with z | ⟨t, z⟩
    · exact ⟨0, Or.inl z⟩
    · exact ⟨t, Or.inr z⟩
  have e60 : (Term.string "HatsDecide" 60).eval args s none [] s = some (.ref (aK 0)) := hE 0 (by decide)
  have e116 : (Term.string "HatsDecide$Town" 116).eval args s none [] s = some (.ref (aK 0)) := va_eqR (hs _ xT_eq) e60
  have hR : ∀ q ∈ xSt, q.2.2 < 5 ∧ vk_R (xR q.1) q.2.1 (xStx q.2.2) (aK q.2.2) s := by
    have hw := fun q hq => hts _ (xtb (xSt_in q hq))
    obtain ⟨w1, hw⟩ := List.forall_mem_cons.mp hw
    obtain ⟨w2, hw⟩ := List.forall_mem_cons.mp hw
    obtain ⟨w3, hw⟩ := List.forall_mem_cons.mp hw
    obtain ⟨w4, hw⟩ := List.forall_mem_cons.mp hw
    obtain ⟨w5, hw⟩ := List.forall_mem_cons.mp hw
    obtain ⟨w6, hw⟩ := List.forall_mem_cons.mp hw
    exact List.forall_mem_cons.mpr ⟨⟨by decide, vk_R.of w1 e60⟩, List.forall_mem_cons.mpr ⟨⟨by decide, vk_R.of w2 e116⟩, List.forall_mem_cons.mpr ⟨⟨by decide, vk_R.of w3 (hE 1 (by decide))⟩, List.forall_mem_cons.mpr ⟨⟨by decide, vk_R.of w4 (hE 2 (by decide))⟩, List.forall_mem_cons.mpr ⟨⟨by decide, vk_R.of w5 (hE 3 (by decide))⟩, List.forall_mem_cons.mpr ⟨⟨by decide, vk_R.of w6 (hE 4 (by decide))⟩, fun _ h => absurd h List.not_mem_nil⟩⟩⟩⟩⟩⟩
  refine ⟨xEx b aK aV nb sf, rfl, hX, hbl, vk_S_congr hS (fun i hi => ⟨xEx_K hi, xEx_V hi⟩), fun q hq => ?_, z1, by omega, z2, z4⟩
  obtain ⟨h1, h2⟩ := hR q hq
  rw [xEx_K h1]
  exact h2
end ST3
