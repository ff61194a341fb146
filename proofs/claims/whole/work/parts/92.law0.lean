/-! the law from its first instruction -/
def LI (I : Nat → Nat → Int32) : Nat → Nat → Int32 := mdlI (upc (clsI (upc I 0 (fun _ => 0)) 0) 98 (fun _ => 0)) 98
def LJ : Nat → Nat → Int64 := mdlJ (upc (clsJ (upc (fun _ _ => 0) 0 (fun _ => 0)) 0) 98 (fun _ => 0)) 98
def LK : Nat → Nat → Option Nat := mdlK (upc (clsK (upc (fun _ _ => none) 0 (fun _ => none)) 0) 98 (fun _ => none)) 98
def LH : List xSh := mdlH (clsH [.inl 11] ++ [.inl 12])
set_option maxRecDepth 100000 in
theorem LH_SH : LH = SH := rfl
set_option maxRecDepth 100000 in
theorem LK_RT : RT.all (fun e => LK e.1 e.2.1 == some e.2.2) = true := by decide +kernel
set_option maxRecDepth 100000 in
theorem LK_n : (List.range 6).all (fun i => LK 5 i == none && LK 18 i == none) = true := by decide +kernel
set_option maxRecDepth 100000 in
theorem LH_xsz : Nat.ble LH.length 153 && Nat.ble (xsz LH) 1000000 = true := by decide +kernel
theorem LK_St : St LK LH := by
  refine ⟨fun a _ => by rw [LH_SH], fun e he => ?_⟩
  have := List.all_eq_true.mp LK_RT e he
  exact eq_of_beq this
