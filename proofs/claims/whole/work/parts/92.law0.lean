/-! the law from its first instruction -/
def LI (I : Nat → Nat → Int32) : Nat → Nat → Int32 := mdlI (upc (clsI (upc I 0 (fun _ => 0)) 0) 98 (fun _ => 0)) 98
def LJ : Nat → Nat → Int64 := mdlJ (upc (clsJ (upc (fun _ _ => 0) 0 (fun _ => 0)) 0) 98 (fun _ => 0)) 98
def LK : Nat → Nat → Option Nat := mdlK (upc (clsK (upc (fun _ _ => none) 0 (fun _ => none)) 0) 98 (fun _ => none)) 98
def LH : List xSh := mdlH (clsH [.inl 11] ++ [.inl 12])
set_option maxRecDepth 100000 in
theorem LH_SH : LH = SH := rfl
set_option maxRecDepth 100000 in
theorem LK_RT : RT.all (fun e => LK e.1 e.2.1 == some e.2.2) = true := by decide +kernel
set_option maxRecDepth 100000 in
theorem LK_n : (List.range 6).all (fun i => LK 5 i == none && LK 18 i == none) = true := by decide +kernel
set_option maxRecDepth 100000 in
theorem LH_xsz : Nat.ble LH.length 153 && Nat.ble (xsz LH) 1000000 = true := by decide +kernel
theorem LK_St : St LK LH := by
  refine ⟨fun a _ => by rw [LH_SH], fun e he => ?_⟩
  have := List.all_eq_true.mp LK_RT e he
  exact eq_of_beq this
set_option maxRecDepth 100000
section
variable (I : Nat → Nat → Int32)
theorem LIf_2 : LI I 2 = (fun _ => 0) := rfl
theorem LIf_99 : LI I 99 = (fun _ => 0) := rfl
theorem LI_2 : LI I 2 = LI I 99 := (LIf_2 I).trans (LIf_99 I).symm
theorem LIf_3 : LI I 3 = (fun _ => 0) := rfl
theorem LIf_100 : LI I 100 = (fun _ => 0) := rfl
theorem LI_3 : LI I 3 = LI I 100 := (LIf_3 I).trans (LIf_100 I).symm
theorem LIf_4 : LI I 4 = (fun _ => 0) := rfl
theorem LIf_101 : LI I 101 = (fun _ => 0) := rfl
theorem LI_4 : LI I 4 = LI I 101 := (LIf_4 I).trans (LIf_101 I).symm
theorem LIf_6 : LI I 6 = (fun _ => 0) := rfl
theorem LIf_105 : LI I 105 = (fun _ => 0) := rfl
theorem LI_6 : LI I 6 = LI I 105 := (LIf_6 I).trans (LIf_105 I).symm
theorem LIf_7 : LI I 7 = (fun _ => 0) := rfl
theorem LIf_107 : LI I 107 = (fun _ => 0) := rfl
theorem LI_7 : LI I 7 = LI I 107 := (LIf_7 I).trans (LIf_107 I).symm
theorem LIf_8 : LI I 8 = (fun _ => 0) := rfl
theorem LIf_108 : LI I 108 = (fun _ => 0) := rfl
theorem LI_8 : LI I 8 = LI I 108 := (LIf_8 I).trans (LIf_108 I).symm
theorem LIf_9 : LI I 9 = (fun _ => 0) := rfl
theorem LIf_109 : LI I 109 = (fun _ => 0) := rfl
theorem LI_9 : LI I 9 = LI I 109 := (LIf_9 I).trans (LIf_109 I).symm
theorem LIf_10 : LI I 10 = (fun _ => 0) := rfl
theorem LIf_128 : LI I 128 = (fun _ => 0) := rfl
theorem LI_10 : LI I 10 = LI I 128 := (LIf_10 I).trans (LIf_128 I).symm
theorem LIf_11 : LI I 11 = (fun _ => 0) := rfl
theorem LIf_129 : LI I 129 = (fun _ => 0) := rfl
theorem LI_11 : LI I 11 = LI I 129 := (LIf_11 I).trans (LIf_129 I).symm
theorem LIf_12 : LI I 12 = (fun _ => 0) := rfl
theorem LIf_131 : LI I 131 = (fun _ => 0) := rfl
theorem LI_12 : LI I 12 = LI I 131 := (LIf_12 I).trans (LIf_131 I).symm
theorem LIf_13 : LI I 13 = (fun _ => 0) := rfl
theorem LIf_132 : LI I 132 = (fun _ => 0) := rfl
theorem LI_13 : LI I 13 = LI I 132 := (LIf_13 I).trans (LIf_132 I).symm
theorem LIf_15 : LI I 15 = (fun _ => 0) := rfl
theorem LIf_133 : LI I 133 = (fun _ => 0) := rfl
theorem LI_15 : LI I 15 = LI I 133 := (LIf_15 I).trans (LIf_133 I).symm
theorem LIf_16 : LI I 16 = (fun _ => 0) := rfl
theorem LIf_134 : LI I 134 = (fun _ => 0) := rfl
theorem LI_16 : LI I 16 = LI I 134 := (LIf_16 I).trans (LIf_134 I).symm
theorem LIf_17 : LI I 17 = (fun _ => 0) := rfl
theorem LIf_135 : LI I 135 = (fun _ => 0) := rfl
theorem LI_17 : LI I 17 = LI I 135 := (LIf_17 I).trans (LIf_135 I).symm
theorem LIf_19 : LI I 19 = (fun _ => 0) := rfl
theorem LIf_139 : LI I 139 = (fun _ => 0) := rfl
theorem LI_19 : LI I 19 = LI I 139 := (LIf_19 I).trans (LIf_139 I).symm
theorem LIf_20 : LI I 20 = (fun _ => 0) := rfl
theorem LIf_141 : LI I 141 = (fun _ => 0) := rfl
theorem LI_20 : LI I 20 = LI I 141 := (LIf_20 I).trans (LIf_141 I).symm
theorem LIf_21 : LI I 21 = (fun _ => 0) := rfl
theorem LIf_142 : LI I 142 = (fun _ => 0) := rfl
theorem LI_21 : LI I 21 = LI I 142 := (LIf_21 I).trans (LIf_142 I).symm
theorem LIf_22 : LI I 22 = (fun _ => 0) := rfl
theorem LIf_143 : LI I 143 = (fun _ => 0) := rfl
theorem LI_22 : LI I 22 = LI I 143 := (LIf_22 I).trans (LIf_143 I).symm
theorem LIf_23 : LI I 23 = (fun _ => 0) := rfl
theorem LIf_144 : LI I 144 = (fun _ => 0) := rfl
theorem LI_23 : LI I 23 = LI I 144 := (LIf_23 I).trans (LIf_144 I).symm
theorem LIf_24 : LI I 24 = (fun _ => 0) := rfl
theorem LIf_145 : LI I 145 = (fun _ => 0) := rfl
theorem LI_24 : LI I 24 = LI I 145 := (LIf_24 I).trans (LIf_145 I).symm
theorem LIf_25 : LI I 25 = (fun _ => 0) := rfl
theorem LIf_146 : LI I 146 = (fun _ => 0) := rfl
theorem LI_25 : LI I 25 = LI I 146 := (LIf_25 I).trans (LIf_146 I).symm
theorem LIf_26 : LI I 26 = (fun _ => 0) := rfl
theorem LIf_147 : LI I 147 = (fun _ => 0) := rfl
theorem LI_26 : LI I 26 = LI I 147 := (LIf_26 I).trans (LIf_147 I).symm
theorem LIf_27 : LI I 27 = (fun _ => 0) := rfl
theorem LIf_110 : LI I 110 = (fun _ => 0) := rfl
theorem LI_27 : LI I 27 = LI I 110 := (LIf_27 I).trans (LIf_110 I).symm
theorem LIf_37 : LI I 37 = (fun _ => 0) := rfl
theorem LIf_148 : LI I 148 = (fun _ => 0) := rfl
theorem LI_37 : LI I 37 = LI I 148 := (LIf_37 I).trans (LIf_148 I).symm
theorem LI_1_0 : LI I 1 0 = LI I 98 0 := (show LI I 1 0 = 0 from rfl).trans (show LI I 98 0 = 0 from rfl).symm
theorem LI_1_4 : LI I 1 4 = LI I 98 1 := (show LI I 1 4 = 0 from rfl).trans (show LI I 98 1 = 0 from rfl).symm
theorem LI_1_9 : LI I 1 9 = LI I 98 2 := (show LI I 1 9 = 0 from rfl).trans (show LI I 98 2 = 0 from rfl).symm
theorem LI_1_11 : LI I 1 11 = LI I 98 43 := (show LI I 1 11 = 0 from rfl).trans (show LI I 98 43 = 0 from rfl).symm
theorem LI_1_14 : LI I 1 14 = LI I 98 47 := (show LI I 1 14 = 0 from rfl).trans (show LI I 98 47 = 0 from rfl).symm
theorem LI_1_17 : LI I 1 17 = LI I 98 15 := (show LI I 1 17 = -1 from rfl).trans (show LI I 98 15 = -1 from rfl).symm
theorem LI_0_2 : LI I 0 2 = LI I 98 50 := (show LI I 0 2 = 0 from rfl).trans (show LI I 98 50 = 0 from rfl).symm
theorem LI_14_0 : LI I 14 0 = LI I 98 52 := (show LI I 14 0 = 0 from rfl).trans (show LI I 98 52 = 0 from rfl).symm
theorem LI_14_4 : LI I 14 4 = LI I 98 53 := (show LI I 14 4 = 0 from rfl).trans (show LI I 98 53 = 0 from rfl).symm
theorem LI_14_9 : LI I 14 9 = LI I 98 54 := (show LI I 14 9 = 0 from rfl).trans (show LI I 98 54 = 0 from rfl).symm
theorem LI_14_11 : LI I 14 11 = LI I 98 55 := (show LI I 14 11 = 0 from rfl).trans (show LI I 98 55 = 0 from rfl).symm
theorem LI_14_14 : LI I 14 14 = LI I 98 56 := (show LI I 14 14 = 0 from rfl).trans (show LI I 98 56 = 0 from rfl).symm
theorem LI_14_17 : LI I 14 17 = LI I 98 51 := (show LI I 14 17 = -1 from rfl).trans (show LI I 98 51 = -1 from rfl).symm
theorem LI_0_4 : LI I 0 4 = LI I 98 16 := (show LI I 0 4 = 0 from rfl).trans (show LI I 98 16 = 0 from rfl).symm
theorem LI_36_1 : LI I 36 1 = LI I 98 72 := (show LI I 36 1 = 0 from rfl).trans (show LI I 98 72 = 0 from rfl).symm
theorem LIv_98_0 : LI I 98 0 = nI 0 := rfl
theorem LIv_98_1 : LI I 98 1 = nI 0 := rfl
theorem LIv_98_2 : LI I 98 2 = nI 0 := rfl
theorem LIv_98_14 : LI I 98 14 = nI 0 := rfl
theorem LIv_98_15 : LI I 98 15 = -1 := rfl
theorem LIv_98_16 : LI I 98 16 = nI 0 := rfl
theorem LIv_98_33 : LI I 98 33 = nI 9999 := rfl
theorem LIv_98_43 : LI I 98 43 = nI 0 := rfl
theorem LIv_98_47 : LI I 98 47 = nI 0 := rfl
theorem LIv_98_50 : LI I 98 50 = 0 := rfl
theorem LIv_98_72 : LI I 98 72 = nI 0 := rfl
theorem LIv_0_7 : LI I 0 7 = nI 0 := rfl
theorem LIv_29_0 : LI I 29 0 = nI 0 := rfl
end
