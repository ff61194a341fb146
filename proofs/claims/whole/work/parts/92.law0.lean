/-! the law from its first instruction -/
def LI (I : Nat → Nat → Int32) : Nat → Nat → Int32 := mdlI (upc (clsI (upc I 0 (fun _ => 0)) 0) 98 (fun _ => 0)) 98
def LJ : Nat → Nat → Int64 := mdlJ (upc (clsJ (upc (fun _ _ => 0) 0 (fun _ => 0)) 0) 98 (fun _ => 0)) 98
def LK : Nat → Nat → Option Nat := mdlK (upc (clsK (upc (fun _ _ => none) 0 (fun _ => none)) 0) 98 (fun _ => none)) 98
def LH : List xSh := mdlH (clsH [.inl 11] ++ [.inl 12])
set_option maxRecDepth 100000 in
theorem LH_SH : LH = SH := rfl
set_option maxRecDepth 100000 in
theorem LK_RT : RT.all (fun e => LK e.1 e.2.1 == some e.2.2) = true := by decide +kernel
set_option maxRecDepth 100000 in
theorem LK_n : (List.range 6).all (fun i => LK 5 i == none && LK 18 i == none) = true := by decide +kernel
set_option maxRecDepth 100000 in
theorem LH_xsz : (Nat.ble LH.length 153 && Nat.ble (xsz LH) 1000000) = true := by decide +kernel
theorem LK_St : St LK LH := by
  refine ⟨fun a _ => by rw [LH_SH], fun e he => ?_⟩
  have := List.all_eq_true.mp LK_RT e he
  exact eq_of_beq this
set_option maxRecDepth 100000
section
variable (I : Nat → Nat → Int32)
theorem LIf_2 : LI I 2 = (fun _ => 0) := rfl
theorem LIf_99 : LI I 99 = (fun _ => 0) := rfl
theorem LI_2 : LI I 2 = LI I 99 := (LIf_2 I).trans (LIf_99 I).symm
theorem LIf_3 : LI I 3 = (fun _ => 0) := rfl
theorem LIf_100 : LI I 100 = (fun _ => 0) := rfl
theorem LI_3 : LI I 3 = LI I 100 := (LIf_3 I).trans (LIf_100 I).symm
theorem LIf_4 : LI I 4 = (fun _ => 0) := rfl
theorem LIf_101 : LI I 101 = (fun _ => 0) := rfl
theorem LI_4 : LI I 4 = LI I 101 := (LIf_4 I).trans (LIf_101 I).symm
theorem LIf_6 : LI I 6 = (fun _ => 0) := rfl
theorem LIf_105 : LI I 105 = (fun _ => 0) := rfl
theorem LI_6 : LI I 6 = LI I 105 := (LIf_6 I).trans (LIf_105 I).symm
theorem LIf_7 : LI I 7 = (fun _ => 0) := rfl
theorem LIf_107 : LI I 107 = (fun _ => 0) := rfl
theorem LI_7 : LI I 7 = LI I 107 := (LIf_7 I).trans (LIf_107 I).symm
theorem LIf_8 : LI I 8 = (fun _ => 0) := rfl
theorem LIf_108 : LI I 108 = (fun _ => 0) := rfl
theorem LI_8 : LI I 8 = LI I 108 := (LIf_8 I).trans (LIf_108 I).symm
theorem LIf_9 : LI I 9 = (fun _ => 0) := rfl
theorem LIf_109 : LI I 109 = (fun _ => 0) := rfl
theorem LI_9 : LI I 9 = LI I 109 := (LIf_9 I).trans (LIf_109 I).symm
theorem LIf_10 : LI I 10 = (fun _ => 0) := rfl
theorem LIf_128 : LI I 128 = (fun _ => 0) := rfl
theorem LI_10 : LI I 10 = LI I 128 := (LIf_10 I).trans (LIf_128 I).symm
theorem LIf_11 : LI I 11 = (fun _ => 0) := rfl
theorem LIf_129 : LI I 129 = (fun _ => 0) := rfl
theorem LI_11 : LI I 11 = LI I 129 := (LIf_11 I).trans (LIf_129 I).symm
theorem LIf_12 : LI I 12 = (fun _ => 0) := rfl
theorem LIf_131 : LI I 131 = (fun _ => 0) := rfl
theorem LI_12 : LI I 12 = LI I 131 := (LIf_12 I).trans (LIf_131 I).symm
theorem LIf_13 : LI I 13 = (fun _ => 0) := rfl
theorem LIf_132 : LI I 132 = (fun _ => 0) := rfl
theorem LI_13 : LI I 13 = LI I 132 := (LIf_13 I).trans (LIf_132 I).symm
theorem LIf_15 : LI I 15 = (fun _ => 0) := rfl
theorem LIf_133 : LI I 133 = (fun _ => 0) := rfl
theorem LI_15 : LI I 15 = LI I 133 := (LIf_15 I).trans (LIf_133 I).symm
theorem LIf_16 : LI I 16 = (fun _ => 0) := rfl
theorem LIf_134 : LI I 134 = (fun _ => 0) := rfl
theorem LI_16 : LI I 16 = LI I 134 := (LIf_16 I).trans (LIf_134 I).symm
theorem LIf_17 : LI I 17 = (fun _ => 0) := rfl
theorem LIf_135 : LI I 135 = (fun _ => 0) := rfl
theorem LI_17 : LI I 17 = LI I 135 := (LIf_17 I).trans (LIf_135 I).symm
theorem LIf_19 : LI I 19 = (fun _ => 0) := rfl
theorem LIf_139 : LI I 139 = (fun _ => 0) := rfl
theorem LI_19 : LI I 19 = LI I 139 := (LIf_19 I).trans (LIf_139 I).symm
theorem LIf_20 : LI I 20 = (fun _ => 0) := rfl
theorem LIf_141 : LI I 141 = (fun _ => 0) := rfl
theorem LI_20 : LI I 20 = LI I 141 := (LIf_20 I).trans (LIf_141 I).symm
theorem LIf_21 : LI I 21 = (fun _ => 0) := rfl
theorem LIf_142 : LI I 142 = (fun _ => 0) := rfl
theorem LI_21 : LI I 21 = LI I 142 := (LIf_21 I).trans (LIf_142 I).symm
theorem LIf_22 : LI I 22 = (fun _ => 0) := rfl
theorem LIf_143 : LI I 143 = (fun _ => 0) := rfl
theorem LI_22 : LI I 22 = LI I 143 := (LIf_22 I).trans (LIf_143 I).symm
theorem LIf_23 : LI I 23 = (fun _ => 0) := rfl
theorem LIf_144 : LI I 144 = (fun _ => 0) := rfl
theorem LI_23 : LI I 23 = LI I 144 := (LIf_23 I).trans (LIf_144 I).symm
theorem LIf_24 : LI I 24 = (fun _ => 0) := rfl
theorem LIf_145 : LI I 145 = (fun _ => 0) := rfl
theorem LI_24 : LI I 24 = LI I 145 := (LIf_24 I).trans (LIf_145 I).symm
theorem LIf_25 : LI I 25 = (fun _ => 0) := rfl
theorem LIf_146 : LI I 146 = (fun _ => 0) := rfl
theorem LI_25 : LI I 25 = LI I 146 := (LIf_25 I).trans (LIf_146 I).symm
theorem LIf_26 : LI I 26 = (fun _ => 0) := rfl
theorem LIf_147 : LI I 147 = (fun _ => 0) := rfl
theorem LI_26 : LI I 26 = LI I 147 := (LIf_26 I).trans (LIf_147 I).symm
theorem LIf_27 : LI I 27 = (fun _ => 0) := rfl
theorem LIf_110 : LI I 110 = (fun _ => 0) := rfl
theorem LI_27 : LI I 27 = LI I 110 := (LIf_27 I).trans (LIf_110 I).symm
theorem LIf_37 : LI I 37 = (fun _ => 0) := rfl
theorem LIf_148 : LI I 148 = (fun _ => 0) := rfl
theorem LI_37 : LI I 37 = LI I 148 := (LIf_37 I).trans (LIf_148 I).symm
theorem LI_1_0 : LI I 1 0 = LI I 98 0 := (show LI I 1 0 = 0 from rfl).trans (show LI I 98 0 = 0 from rfl).symm
theorem LI_1_4 : LI I 1 4 = LI I 98 1 := (show LI I 1 4 = 0 from rfl).trans (show LI I 98 1 = 0 from rfl).symm
theorem LI_1_9 : LI I 1 9 = LI I 98 2 := (show LI I 1 9 = 0 from rfl).trans (show LI I 98 2 = 0 from rfl).symm
theorem LI_1_11 : LI I 1 11 = LI I 98 43 := (show LI I 1 11 = 0 from rfl).trans (show LI I 98 43 = 0 from rfl).symm
theorem LI_1_14 : LI I 1 14 = LI I 98 47 := (show LI I 1 14 = 0 from rfl).trans (show LI I 98 47 = 0 from rfl).symm
theorem LI_1_17 : LI I 1 17 = LI I 98 15 := (show LI I 1 17 = -1 from rfl).trans (show LI I 98 15 = -1 from rfl).symm
theorem LI_0_2 : LI I 0 2 = LI I 98 50 := (show LI I 0 2 = 0 from rfl).trans (show LI I 98 50 = 0 from rfl).symm
theorem LI_14_0 : LI I 14 0 = LI I 98 52 := (show LI I 14 0 = 0 from rfl).trans (show LI I 98 52 = 0 from rfl).symm
theorem LI_14_4 : LI I 14 4 = LI I 98 53 := (show LI I 14 4 = 0 from rfl).trans (show LI I 98 53 = 0 from rfl).symm
theorem LI_14_9 : LI I 14 9 = LI I 98 54 := (show LI I 14 9 = 0 from rfl).trans (show LI I 98 54 = 0 from rfl).symm
theorem LI_14_11 : LI I 14 11 = LI I 98 55 := (show LI I 14 11 = 0 from rfl).trans (show LI I 98 55 = 0 from rfl).symm
theorem LI_14_14 : LI I 14 14 = LI I 98 56 := (show LI I 14 14 = 0 from rfl).trans (show LI I 98 56 = 0 from rfl).symm
theorem LI_14_17 : LI I 14 17 = LI I 98 51 := (show LI I 14 17 = -1 from rfl).trans (show LI I 98 51 = -1 from rfl).symm
theorem LI_0_4 : LI I 0 4 = LI I 98 16 := (show LI I 0 4 = 0 from rfl).trans (show LI I 98 16 = 0 from rfl).symm
theorem LI_36_1 : LI I 36 1 = LI I 98 72 := (show LI I 36 1 = 0 from rfl).trans (show LI I 98 72 = 0 from rfl).symm
theorem LIv_98_0 : LI I 98 0 = nI 0 := rfl
theorem LIv_98_1 : LI I 98 1 = nI 0 := rfl
theorem LIv_98_2 : LI I 98 2 = nI 0 := rfl
theorem LIv_98_14 : LI I 98 14 = nI 0 := rfl
theorem LIv_98_15 : LI I 98 15 = -1 := rfl
theorem LIv_98_16 : LI I 98 16 = nI 0 := rfl
theorem LIv_98_33 : LI I 98 33 = nI 9999 := rfl
theorem LIv_98_43 : LI I 98 43 = nI 0 := rfl
theorem LIv_98_47 : LI I 98 47 = nI 0 := rfl
theorem LIv_98_50 : LI I 98 50 = 0 := rfl
theorem LIv_98_72 : LI I 98 72 = nI 0 := rfl
theorem LIv_0_7 : LI I 0 7 = nI 0 := rfl
theorem LIv_29_0 : LI I 29 0 = nI 0 := rfl
theorem LIt0_51_0 : LI I 51 0 = -1 := rfl
theorem LIt0_149_0 : LI I 149 0 = -1 := rfl
theorem LIt0_51_1 : LI I 51 1 = nI 0 := rfl
theorem LIt0_150_0 : LI I 150 0 = nI 0 := rfl
theorem LIt1_60_0 : LI I 60 0 = -1 := rfl
theorem LIt1_149_1 : LI I 149 1 = -1 := rfl
theorem LIt1_60_1 : LI I 60 1 = nI 0 := rfl
theorem LIt1_150_1 : LI I 150 1 = nI 0 := rfl
theorem LIt2_69_0 : LI I 69 0 = -1 := rfl
theorem LIt2_149_2 : LI I 149 2 = -1 := rfl
theorem LIt2_69_1 : LI I 69 1 = nI 0 := rfl
theorem LIt2_150_2 : LI I 150 2 = nI 0 := rfl
theorem LIt3_78_0 : LI I 78 0 = -1 := rfl
theorem LIt3_149_3 : LI I 149 3 = -1 := rfl
theorem LIt3_78_1 : LI I 78 1 = nI 0 := rfl
theorem LIt3_150_3 : LI I 150 3 = nI 0 := rfl
theorem LIt4_87_0 : LI I 87 0 = -1 := rfl
theorem LIt4_149_4 : LI I 149 4 = -1 := rfl
theorem LIt4_87_1 : LI I 87 1 = nI 0 := rfl
theorem LIt4_150_4 : LI I 150 4 = nI 0 := rfl
theorem LIt5_96_0 : LI I 96 0 = -1 := rfl
theorem LIt5_149_5 : LI I 149 5 = -1 := rfl
theorem LIt5_96_1 : LI I 96 1 = nI 0 := rfl
theorem LIt5_150_5 : LI I 150 5 = nI 0 := rfl
theorem LIl_0 : LI I 119 0 = nI (ltrN 0) := rfl
theorem LIl_1 : LI I 119 1 = nI (ltrN 1) := rfl
theorem LIl_2 : LI I 119 2 = nI (ltrN 2) := rfl
theorem LIl_3 : LI I 119 3 = nI (ltrN 3) := rfl
theorem LIl_4 : LI I 119 4 = nI (ltrN 4) := rfl
theorem LIl_5 : LI I 119 5 = nI (ltrN 5) := rfl
theorem LIl_6 : LI I 119 6 = nI (ltrN 6) := rfl
theorem LIl_7 : LI I 119 7 = nI (ltrN 7) := rfl
theorem LIl_8 : LI I 119 8 = nI (ltrN 8) := rfl
theorem LIl_9 : LI I 119 9 = nI (ltrN 9) := rfl
theorem LIl_10 : LI I 119 10 = nI (ltrN 10) := rfl
theorem LIl_11 : LI I 119 11 = nI (ltrN 11) := rfl
theorem LIl_12 : LI I 119 12 = nI (ltrN 12) := rfl
theorem LIl_13 : LI I 119 13 = nI (ltrN 13) := rfl
theorem LIl_14 : LI I 119 14 = nI (ltrN 14) := rfl
theorem LIl_15 : LI I 119 15 = nI (ltrN 15) := rfl
end
theorem LJf_52 : LJ 52 = (fun _ => 0) := rfl
theorem LJf_61 : LJ 61 = (fun _ => 0) := rfl
theorem LJf_70 : LJ 70 = (fun _ => 0) := rfl
theorem LJf_79 : LJ 79 = (fun _ => 0) := rfl
theorem LJf_88 : LJ 88 = (fun _ => 0) := rfl
theorem LJf_97 : LJ 97 = (fun _ => 0) := rfl
theorem LJf_151 : LJ 151 = (fun _ => 0) := rfl
theorem LI_SV (I : Nat → Nat → Int32) : SV (LI I) 0 0 0 0 0 0 0 := by
  refine ⟨⟨LIv_98_0 I, by decide, LIv_98_1 I, by decide, LIv_98_2 I, by decide, Or.inl ⟨by rw [LIv_98_15]; decide, rfl, rfl⟩, fun c _ hx => absurd hx (Nat.not_lt_zero _), fun k hx => absurd hx (Nat.not_lt_zero _), fun a hx => absurd hx (Nat.not_lt_zero _)⟩, ⟨fun k l a hx => absurd hx (Nat.not_lt_zero _), fun a hx => absurd hx (Nat.not_lt_zero _), fun a hx => absurd hx (Nat.not_lt_zero _), fun a hx => absurd hx (Nat.not_lt_zero _), fun a hx => absurd hx (Nat.not_lt_zero _), fun a hx => absurd hx (Nat.not_lt_zero _), fun a hx => absurd hx (Nat.not_lt_zero _), fun a p hx => absurd hx (Nat.not_lt_zero _), fun a hx => absurd hx (Nat.not_lt_zero _), by decide, LIv_98_33 I⟩, ⟨by decide, fun c _ hx => absurd hx (Nat.not_lt_zero _)⟩, ⟨LIv_98_43 I, by decide⟩, ⟨LIv_98_47 I, by decide⟩, fun k hx => absurd hx (Nat.not_lt_zero _)⟩
theorem LI_CR (I : Nat → Nat → Int32) : CR (LI I) LK LH (LI I) 0 0 :=
  ⟨LI_1_0 I, LI_1_4 I, LI_1_9 I, LI_1_11 I, LI_1_14 I, LI_1_17 I, LI_2 I, LI_3 I, LI_4 I, LI_6 I, LI_7 I, LI_8 I, LI_9 I, LI_10 I, LI_11 I, LI_12 I, LI_13 I, LIv_0_7 I, by decide, Or.inl (LIv_98_15 I), LIv_29_0 I, fun tt hx => absurd hx (Nat.not_lt_zero _), fun a hx => absurd hx (Nat.not_lt_zero _)⟩
theorem LI_KEPT (I : Nat → Nat → Int32) : KEPT (LI I) LK LH 0 :=
  ⟨⟨LI_0_2 I, ⟨LI_14_0 I, LI_14_4 I, LI_14_9 I, LI_14_11 I, LI_14_14 I, LI_14_17 I, LI_15 I, LI_16 I, LI_17 I, LI_19 I, LI_20 I, LI_21 I, LI_22 I, LI_23 I, LI_24 I, LI_25 I, LI_26 I⟩, Or.inl (LIv_98_50 I)⟩, fun tt hx => absurd hx (Nat.not_lt_zero _)⟩
theorem LI_SID (I : Nat → Nat → Int32) : SID (LI I) LJ := by
  refine ⟨⟨fun _ => 200, 0, LIv_98_16 I, by decide, fun p => ⟨fun _ => rfl, fun hx => absurd hx (Nat.not_lt_zero _)⟩, fun p hx => absurd hx (Nat.not_lt_zero _)⟩, ⟨LI_0_4 I, LI_27 I⟩, fun i hi => ?_, ⟨LI_36_1 I, LI_37 I, 0, by decide, LIv_98_72 I⟩, fun t ht => ?_, fun t ht => ?_, fun t ht _ => ?_⟩
  · rcases (show i = 0 ∨ i = 1 ∨ i = 2 ∨ i = 3 ∨ i = 4 ∨ i = 5 ∨ i = 6 ∨ i = 7 ∨ i = 8 ∨ i = 9 ∨ i = 10 ∨ i = 11 ∨ i = 12 ∨ i = 13 ∨ i = 14 ∨ i = 15 by omega) with rfl | rfl | rfl | rfl | rfl | rfl | rfl | rfl | rfl | rfl | rfl | rfl | rfl | rfl | rfl | rfl
    · exact LIl_0 I
    · exact LIl_1 I
    · exact LIl_2 I
    · exact LIl_3 I
    · exact LIl_4 I
    · exact LIl_5 I
    · exact LIl_6 I
    · exact LIl_7 I
    · exact LIl_8 I
    · exact LIl_9 I
    · exact LIl_10 I
    · exact LIl_11 I
    · exact LIl_12 I
    · exact LIl_13 I
    · exact LIl_14 I
    · exact LIl_15 I
  · rcases (show t = 0 ∨ t = 1 ∨ t = 2 ∨ t = 3 ∨ t = 4 ∨ t = 5 by omega) with rfl | rfl | rfl | rfl | rfl | rfl
    · exact ⟨(LIt0_51_0 I).trans (LIt0_149_0 I).symm, (LIt0_51_1 I).trans (LIt0_150_0 I).symm, fun i _ => (congrFun LJf_52 i).trans (congrFun LJf_151 _).symm⟩
    · exact ⟨(LIt1_60_0 I).trans (LIt1_149_1 I).symm, (LIt1_60_1 I).trans (LIt1_150_1 I).symm, fun i _ => (congrFun LJf_61 i).trans (congrFun LJf_151 _).symm⟩
    · exact ⟨(LIt2_69_0 I).trans (LIt2_149_2 I).symm, (LIt2_69_1 I).trans (LIt2_150_2 I).symm, fun i _ => (congrFun LJf_70 i).trans (congrFun LJf_151 _).symm⟩
    · exact ⟨(LIt3_78_0 I).trans (LIt3_149_3 I).symm, (LIt3_78_1 I).trans (LIt3_150_3 I).symm, fun i _ => (congrFun LJf_79 i).trans (congrFun LJf_151 _).symm⟩
    · exact ⟨(LIt4_87_0 I).trans (LIt4_149_4 I).symm, (LIt4_87_1 I).trans (LIt4_150_4 I).symm, fun i _ => (congrFun LJf_88 i).trans (congrFun LJf_151 _).symm⟩
    · exact ⟨(LIt5_96_0 I).trans (LIt5_149_5 I).symm, (LIt5_96_1 I).trans (LIt5_150_5 I).symm, fun i _ => (congrFun LJf_97 i).trans (congrFun LJf_151 _).symm⟩
  · rcases (show t = 0 ∨ t = 1 ∨ t = 2 ∨ t = 3 ∨ t = 4 ∨ t = 5 by omega) with rfl | rfl | rfl | rfl | rfl | rfl
    · exact ⟨Or.inl (LIt0_149_0 I), 0, by decide, LIt0_150_0 I⟩
    · exact ⟨Or.inl (LIt1_149_1 I), 0, by decide, LIt1_150_1 I⟩
    · exact ⟨Or.inl (LIt2_149_2 I), 0, by decide, LIt2_150_2 I⟩
    · exact ⟨Or.inl (LIt3_149_3 I), 0, by decide, LIt3_150_3 I⟩
    · exact ⟨Or.inl (LIt4_149_4 I), 0, by decide, LIt4_150_4 I⟩
    · exact ⟨Or.inl (LIt5_149_5 I), 0, by decide, LIt5_150_5 I⟩
  · rcases (show t = 0 ∨ t = 1 ∨ t = 2 ∨ t = 3 ∨ t = 4 ∨ t = 5 by omega) with rfl | rfl | rfl | rfl | rfl | rfl
    · exact LIt0_150_0 I
    · exact LIt1_150_1 I
    · exact LIt2_150_2 I
    · exact LIt3_150_3 I
    · exact LIt4_150_4 I
    · exact LIt5_150_5 I
theorem LI_INV (I : Nat → Nat → Int32) : INV (LI I) LJ LK LH 153 := by
  have hz := LH_xsz
  rw [Bool.and_eq_true] at hz
  have hk : ∀ i, i < 6 → LK 5 i = none ∧ LK 18 i = none := by
    intro i hi
    have h := List.all_eq_true.mp LK_n i (List.mem_range.mpr hi)
    rw [Bool.and_eq_true] at h
    exact ⟨eq_of_beq h.1, eq_of_beq h.2⟩
  exact ⟨⟨LK_St, Nat.le_of_ble_eq_true hz.1, Nat.le_trans (Nat.le_of_ble_eq_true hz.2) (by decide)⟩, ⟨0, 0, 0, 0, 0, 0, 0, 0, LI_SV I, LI_CR I, LIv_98_14 I, LI_KEPT I⟩, LI_SID I, fun i hi => Or.inl (hk i hi).1, fun i hi => Or.inl (hk i hi).2⟩
set_option maxRecDepth 100000 in
theorem LAW_0 {d n : Nat} {sc : Nat → Int32} (hn9 : n ≤ 3072) {I : Nat → Nat → Int32} (hsc : I 1000000 = sc) (hn : I 1000001 0 = nI n) : EvP (d + 21) 244 0 [(0, .ref 1000000)] [] (I, fun _ _ => 0, fun _ _ => none, []) (QI (fun x t => x = bI true ∧ HL t.2.2.2 2000)) := by
  refine p_new (ci := 11) k244_0 (by decide) (by decide) ?_
  refine p_dup k244_3 rfl ?_
  refine p_cI0v k244_4 c_13_9 (Nat.le_of_ble_eq_true rfl) (C_cls (d := d + 18) (q := 0) (by decide) rfl rfl) (fun m1 hq => ?_)
  obtain rfl := hq
  refine p_astore_n (ls' := [(0, .ref 1000000), (1, .ref 0)]) k244_7 rfl ?_
  have hc : (clsH [(.inl 11 : xSh)]).length = 98 := cls_len _
  have hc' : (clsH ([] ++ [(.inl 11 : xSh)])).length = 98 := cls_len _
  refine p_new (ci := 12) k244_8 (by decide) (by rw [hc']; decide) ?_
  rw [hc']
  refine p_dup k244_11 rfl ?_
  refine p_cI0v k244_12 c_13_12 (Nat.le_of_ble_eq_true rfl) (C_mdl (d := d + 19) (q := 98) (by decide) (by rw [List.length_append, hc']; rfl) (by rw [List.getElem?_append_right (by rw [hc']; decide), hc']; rfl)) (fun m1 hq => ?_)
  obtain rfl := hq
  refine p_astore_n (ls' := [(0, .ref 1000000), (1, .ref 0), (2, .ref 98)]) k244_15 rfl ?_
  refine p_iconst (v := nI 0) k244_16 (by decide) ?_
  refine p_istore_n (ls' := [(0, .ref 1000000), (1, .ref 0), (2, .ref 98), (3, .int (nI 0))]) k244_17 rfl ?_
  exact LAW_18 (d := d) (B := 2000) hn9 (by decide) (n / 6 + 1) 0 153 (LI I) LJ LK LH (by omega) (by omega) (by omega) (LI_INV I) ((show LI I 1000000 = I 1000000 from rfl).trans hsc) ((show LI I 1000001 0 = I 1000001 0 from rfl).trans hn)
