/-! the layout: cells 0 .. 97 of the class, 98 .. 152 of the reference; what is fixed of them -/
def SH : List xSh := [.inl 11, .inl 3, .inr (.int, 6), .inr (.int, 6), .inr (.int, 6), .inr (.object RX2, 6), .inr (.int, 6), .inr (.int, 6), .inr (.int, 24), .inr (.int, 5), .inr (.int, 6), .inr (.int, 6), .inr (.int, 8), .inr (.int, 8), .inl 3, .inr (.int, 6), .inr (.int, 6), .inr (.int, 6), .inr (.object RX2, 6), .inr (.int, 6), .inr (.int, 6), .inr (.int, 24), .inr (.int, 5), .inr (.int, 6), .inr (.int, 6), .inr (.int, 8), .inr (.int, 8), .inr (.byte, 100), .inr (.object RX8, 6), .inl 8, .inr (.int, 10), .inr (.int, 10), .inr (.int, 10), .inr (.int, 10), .inr (.int, 10), .inr (.int, 100), .inl 9, .inr (.int, 20), .inr (.object RX5, 6), .inr (.int, 6), .inr (.int, 36), .inr (.int, 448), .inr (.int, 64), .inr (.int, 6), .inl 8, .inr (.int, 10), .inr (.int, 10), .inr (.int, 10), .inr (.int, 10), .inr (.int, 10), .inr (.int, 100), .inl 5, .inr (.long, 60), .inl 8, .inr (.int, 10), .inr (.int, 10), .inr (.int, 10), .inr (.int, 10), .inr (.int, 10), .inr (.int, 100), .inl 5, .inr (.long, 60), .inl 8, .inr (.int, 10), .inr (.int, 10), .inr (.int, 10), .inr (.int, 10), .inr (.int, 10), .inr (.int, 100), .inl 5, .inr (.long, 60), .inl 8, .inr (.int, 10), .inr (.int, 10), .inr (.int, 10), .inr (.int, 10), .inr (.int, 10), .inr (.int, 100), .inl 5, .inr (.long, 60), .inl 8, .inr (.int, 10), .inr (.int, 10), .inr (.int, 10), .inr (.int, 10), .inr (.int, 10), .inr (.int, 100), .inl 5, .inr (.long, 60), .inl 8, .inr (.int, 10), .inr (.int, 10), .inr (.int, 10), .inr (.int, 10), .inr (.int, 10), .inr (.int, 100), .inl 5, .inr (.long, 60), .inl 12, .inr (.int, 6), .inr (.int, 6), .inr (.int, 6), .inr (.int, 6), .inr (.int, 6), .inr (.int, 6), .inr (.int, 6), .inr (.int, 6), .inr (.int, 6), .inr (.int, 24), .inr (.int, 5), .inr (.int, 100), .inr (.int, 6), .inr (.int, 60), .inr (.int, 60), .inr (.int, 60), .inr (.int, 60), .inr (.int, 60), .inr (.int, 600), .inr (.int, 101), .inr (.int, 16), .inr (.boolean, 100), .inr (.int, 6), .inr (.int, 6), .inr (.int, 6), .inr (.int, 6), .inr (.int, 36), .inr (.int, 448), .inr (.int, 64), .inr (.int, 6), .inr (.int, 6), .inr (.int, 64), .inr (.int, 8), .inr (.int, 8), .inr (.int, 6), .inr (.int, 6), .inr (.int, 6), .inr (.int, 6), .inr (.int, 6), .inr (.int, 6), .inr (.int, 6), .inr (.int, 6), .inr (.int, 6), .inr (.int, 24), .inr (.int, 5), .inr (.int, 6), .inr (.int, 6), .inr (.int, 8), .inr (.int, 8), .inr (.int, 20), .inr (.int, 6), .inr (.int, 6), .inr (.long, 360), .inr (.long, 60)]
def RT : List (Nat × Nat × Nat) := [(0, 0, 1), (0, 1, 14), (0, 3, 27), (0, 5, 28), (0, 6, 29), (0, 8, 36), (0, 9, 38), (0, 10, 39), (0, 11, 40), (0, 12, 41), (0, 13, 42), (0, 14, 43), (1, 1, 2), (1, 2, 3), (1, 3, 4), (1, 5, 5), (1, 6, 6), (1, 7, 7), (1, 8, 8), (1, 10, 9), (1, 12, 10), (1, 13, 11), (1, 15, 12), (1, 16, 13), (14, 1, 15), (14, 2, 16), (14, 3, 17), (14, 5, 18), (14, 6, 19), (14, 7, 20), (14, 8, 21), (14, 10, 22), (14, 12, 23), (14, 13, 24), (14, 15, 25), (14, 16, 26), (28, 0, 44), (28, 1, 53), (28, 2, 62), (28, 3, 71), (28, 4, 80), (28, 5, 89), (29, 1, 30), (29, 2, 31), (29, 3, 32), (29, 4, 33), (29, 5, 34), (29, 7, 35), (36, 0, 37), (38, 0, 51), (38, 1, 60), (38, 2, 69), (38, 3, 78), (38, 4, 87), (38, 5, 96), (44, 1, 45), (44, 2, 46), (44, 3, 47), (44, 4, 48), (44, 5, 49), (44, 7, 50), (51, 2, 52), (53, 1, 54), (53, 2, 55), (53, 3, 56), (53, 4, 57), (53, 5, 58), (53, 7, 59), (60, 2, 61), (62, 1, 63), (62, 2, 64), (62, 3, 65), (62, 4, 66), (62, 5, 67), (62, 7, 68), (69, 2, 70), (71, 1, 72), (71, 2, 73), (71, 3, 74), (71, 4, 75), (71, 5, 76), (71, 7, 77), (78, 2, 79), (80, 1, 81), (80, 2, 82), (80, 3, 83), (80, 4, 84), (80, 5, 85), (80, 7, 86), (87, 2, 88), (89, 1, 90), (89, 2, 91), (89, 3, 92), (89, 4, 93), (89, 5, 94), (89, 7, 95), (96, 2, 97), (98, 3, 99), (98, 4, 100), (98, 5, 101), (98, 6, 102), (98, 7, 103), (98, 8, 104), (98, 9, 105), (98, 10, 106), (98, 11, 107), (98, 12, 108), (98, 13, 109), (98, 19, 110), (98, 20, 111), (98, 21, 112), (98, 22, 113), (98, 23, 114), (98, 24, 115), (98, 25, 116), (98, 26, 117), (98, 27, 118), (98, 31, 119), (98, 32, 120), (98, 34, 121), (98, 36, 122), (98, 37, 123), (98, 38, 124), (98, 39, 125), (98, 41, 126), (98, 42, 127), (98, 44, 128), (98, 45, 129), (98, 46, 130), (98, 48, 131), (98, 49, 132), (98, 57, 133), (98, 58, 134), (98, 59, 135), (98, 60, 136), (98, 61, 137), (98, 62, 138), (98, 63, 139), (98, 64, 140), (98, 65, 141), (98, 66, 142), (98, 67, 143), (98, 68, 144), (98, 69, 145), (98, 70, 146), (98, 71, 147), (98, 73, 148), (98, 74, 149), (98, 75, 150), (98, 76, 151), (98, 77, 152)]
def St (K : Nat → Nat → Option Nat) (h : List xSh) : Prop := (∀ a, a < 153 → h[a]? = SH[a]?) ∧ ∀ e ∈ RT, K e.1 e.2.1 = some e.2.2
section LAY
variable {K : Nat → Nat → Option Nat} {h : List xSh}
theorem s_0 (S : St K h) : h[0]? = some (.inl 11) := (S.1 0 (Nat.le_of_ble_eq_true rfl)).trans rfl
theorem s_1 (S : St K h) : h[1]? = some (.inl 3) := (S.1 1 (Nat.le_of_ble_eq_true rfl)).trans rfl
theorem s_2 (S : St K h) : h[2]? = some (.inr (.int, 6)) := (S.1 2 (Nat.le_of_ble_eq_true rfl)).trans rfl
theorem s_3 (S : St K h) : h[3]? = some (.inr (.int, 6)) := (S.1 3 (Nat.le_of_ble_eq_true rfl)).trans rfl
theorem s_4 (S : St K h) : h[4]? = some (.inr (.int, 6)) := (S.1 4 (Nat.le_of_ble_eq_true rfl)).trans rfl
theorem s_5 (S : St K h) : h[5]? = some (.inr (.object RX2, 6)) := (S.1 5 (Nat.le_of_ble_eq_true rfl)).trans rfl
theorem s_6 (S : St K h) : h[6]? = some (.inr (.int, 6)) := (S.1 6 (Nat.le_of_ble_eq_true rfl)).trans rfl
theorem s_7 (S : St K h) : h[7]? = some (.inr (.int, 6)) := (S.1 7 (Nat.le_of_ble_eq_true rfl)).trans rfl
theorem s_8 (S : St K h) : h[8]? = some (.inr (.int, 24)) := (S.1 8 (Nat.le_of_ble_eq_true rfl)).trans rfl
theorem s_9 (S : St K h) : h[9]? = some (.inr (.int, 5)) := (S.1 9 (Nat.le_of_ble_eq_true rfl)).trans rfl
theorem s_10 (S : St K h) : h[10]? = some (.inr (.int, 6)) := (S.1 10 (Nat.le_of_ble_eq_true rfl)).trans rfl
theorem s_11 (S : St K h) : h[11]? = some (.inr (.int, 6)) := (S.1 11 (Nat.le_of_ble_eq_true rfl)).trans rfl
theorem s_12 (S : St K h) : h[12]? = some (.inr (.int, 8)) := (S.1 12 (Nat.le_of_ble_eq_true rfl)).trans rfl
theorem s_13 (S : St K h) : h[13]? = some (.inr (.int, 8)) := (S.1 13 (Nat.le_of_ble_eq_true rfl)).trans rfl
theorem s_14 (S : St K h) : h[14]? = some (.inl 3) := (S.1 14 (Nat.le_of_ble_eq_true rfl)).trans rfl
theorem s_15 (S : St K h) : h[15]? = some (.inr (.int, 6)) := (S.1 15 (Nat.le_of_ble_eq_true rfl)).trans rfl
theorem s_16 (S : St K h) : h[16]? = some (.inr (.int, 6)) := (S.1 16 (Nat.le_of_ble_eq_true rfl)).trans rfl
theorem s_17 (S : St K h) : h[17]? = some (.inr (.int, 6)) := (S.1 17 (Nat.le_of_ble_eq_true rfl)).trans rfl
theorem s_18 (S : St K h) : h[18]? = some (.inr (.object RX2, 6)) := (S.1 18 (Nat.le_of_ble_eq_true rfl)).trans rfl
theorem s_19 (S : St K h) : h[19]? = some (.inr (.int, 6)) := (S.1 19 (Nat.le_of_ble_eq_true rfl)).trans rfl
theorem s_20 (S : St K h) : h[20]? = some (.inr (.int, 6)) := (S.1 20 (Nat.le_of_ble_eq_true rfl)).trans rfl
theorem s_21 (S : St K h) : h[21]? = some (.inr (.int, 24)) := (S.1 21 (Nat.le_of_ble_eq_true rfl)).trans rfl
theorem s_22 (S : St K h) : h[22]? = some (.inr (.int, 5)) := (S.1 22 (Nat.le_of_ble_eq_true rfl)).trans rfl
theorem s_23 (S : St K h) : h[23]? = some (.inr (.int, 6)) := (S.1 23 (Nat.le_of_ble_eq_true rfl)).trans rfl
theorem s_24 (S : St K h) : h[24]? = some (.inr (.int, 6)) := (S.1 24 (Nat.le_of_ble_eq_true rfl)).trans rfl
theorem s_25 (S : St K h) : h[25]? = some (.inr (.int, 8)) := (S.1 25 (Nat.le_of_ble_eq_true rfl)).trans rfl
theorem s_26 (S : St K h) : h[26]? = some (.inr (.int, 8)) := (S.1 26 (Nat.le_of_ble_eq_true rfl)).trans rfl
theorem s_27 (S : St K h) : h[27]? = some (.inr (.byte, 100)) := (S.1 27 (Nat.le_of_ble_eq_true rfl)).trans rfl
theorem s_28 (S : St K h) : h[28]? = some (.inr (.object RX8, 6)) := (S.1 28 (Nat.le_of_ble_eq_true rfl)).trans rfl
theorem s_29 (S : St K h) : h[29]? = some (.inl 8) := (S.1 29 (Nat.le_of_ble_eq_true rfl)).trans rfl
theorem s_30 (S : St K h) : h[30]? = some (.inr (.int, 10)) := (S.1 30 (Nat.le_of_ble_eq_true rfl)).trans rfl
theorem s_31 (S : St K h) : h[31]? = some (.inr (.int, 10)) := (S.1 31 (Nat.le_of_ble_eq_true rfl)).trans rfl
theorem s_32 (S : St K h) : h[32]? = some (.inr (.int, 10)) := (S.1 32 (Nat.le_of_ble_eq_true rfl)).trans rfl
theorem s_33 (S : St K h) : h[33]? = some (.inr (.int, 10)) := (S.1 33 (Nat.le_of_ble_eq_true rfl)).trans rfl
theorem s_34 (S : St K h) : h[34]? = some (.inr (.int, 10)) := (S.1 34 (Nat.le_of_ble_eq_true rfl)).trans rfl
theorem s_35 (S : St K h) : h[35]? = some (.inr (.int, 100)) := (S.1 35 (Nat.le_of_ble_eq_true rfl)).trans rfl
theorem s_36 (S : St K h) : h[36]? = some (.inl 9) := (S.1 36 (Nat.le_of_ble_eq_true rfl)).trans rfl
theorem s_37 (S : St K h) : h[37]? = some (.inr (.int, 20)) := (S.1 37 (Nat.le_of_ble_eq_true rfl)).trans rfl
theorem s_38 (S : St K h) : h[38]? = some (.inr (.object RX5, 6)) := (S.1 38 (Nat.le_of_ble_eq_true rfl)).trans rfl
theorem s_39 (S : St K h) : h[39]? = some (.inr (.int, 6)) := (S.1 39 (Nat.le_of_ble_eq_true rfl)).trans rfl
theorem s_40 (S : St K h) : h[40]? = some (.inr (.int, 36)) := (S.1 40 (Nat.le_of_ble_eq_true rfl)).trans rfl
theorem s_41 (S : St K h) : h[41]? = some (.inr (.int, 448)) := (S.1 41 (Nat.le_of_ble_eq_true rfl)).trans rfl
theorem s_42 (S : St K h) : h[42]? = some (.inr (.int, 64)) := (S.1 42 (Nat.le_of_ble_eq_true rfl)).trans rfl
theorem s_43 (S : St K h) : h[43]? = some (.inr (.int, 6)) := (S.1 43 (Nat.le_of_ble_eq_true rfl)).trans rfl
theorem s_44 (S : St K h) : h[44]? = some (.inl 8) := (S.1 44 (Nat.le_of_ble_eq_true rfl)).trans rfl
theorem s_45 (S : St K h) : h[45]? = some (.inr (.int, 10)) := (S.1 45 (Nat.le_of_ble_eq_true rfl)).trans rfl
theorem s_46 (S : St K h) : h[46]? = some (.inr (.int, 10)) := (S.1 46 (Nat.le_of_ble_eq_true rfl)).trans rfl
theorem s_47 (S : St K h) : h[47]? = some (.inr (.int, 10)) := (S.1 47 (Nat.le_of_ble_eq_true rfl)).trans rfl
theorem s_48 (S : St K h) : h[48]? = some (.inr (.int, 10)) := (S.1 48 (Nat.le_of_ble_eq_true rfl)).trans rfl
theorem s_49 (S : St K h) : h[49]? = some (.inr (.int, 10)) := (S.1 49 (Nat.le_of_ble_eq_true rfl)).trans rfl
theorem s_50 (S : St K h) : h[50]? = some (.inr (.int, 100)) := (S.1 50 (Nat.le_of_ble_eq_true rfl)).trans rfl
theorem s_51 (S : St K h) : h[51]? = some (.inl 5) := (S.1 51 (Nat.le_of_ble_eq_true rfl)).trans rfl
theorem s_52 (S : St K h) : h[52]? = some (.inr (.long, 60)) := (S.1 52 (Nat.le_of_ble_eq_true rfl)).trans rfl
theorem s_53 (S : St K h) : h[53]? = some (.inl 8) := (S.1 53 (Nat.le_of_ble_eq_true rfl)).trans rfl
theorem s_54 (S : St K h) : h[54]? = some (.inr (.int, 10)) := (S.1 54 (Nat.le_of_ble_eq_true rfl)).trans rfl
theorem s_55 (S : St K h) : h[55]? = some (.inr (.int, 10)) := (S.1 55 (Nat.le_of_ble_eq_true rfl)).trans rfl
theorem s_56 (S : St K h) : h[56]? = some (.inr (.int, 10)) := (S.1 56 (Nat.le_of_ble_eq_true rfl)).trans rfl
theorem s_57 (S : St K h) : h[57]? = some (.inr (.int, 10)) := (S.1 57 (Nat.le_of_ble_eq_true rfl)).trans rfl
theorem s_58 (S : St K h) : h[58]? = some (.inr (.int, 10)) := (S.1 58 (Nat.le_of_ble_eq_true rfl)).trans rfl
theorem s_59 (S : St K h) : h[59]? = some (.inr (.int, 100)) := (S.1 59 (Nat.le_of_ble_eq_true rfl)).trans rfl
theorem s_60 (S : St K h) : h[60]? = some (.inl 5) := (S.1 60 (Nat.le_of_ble_eq_true rfl)).trans rfl
theorem s_61 (S : St K h) : h[61]? = some (.inr (.long, 60)) := (S.1 61 (Nat.le_of_ble_eq_true rfl)).trans rfl
theorem s_62 (S : St K h) : h[62]? = some (.inl 8) := (S.1 62 (Nat.le_of_ble_eq_true rfl)).trans rfl
theorem s_63 (S : St K h) : h[63]? = some (.inr (.int, 10)) := (S.1 63 (Nat.le_of_ble_eq_true rfl)).trans rfl
theorem s_64 (S : St K h) : h[64]? = some (.inr (.int, 10)) := (S.1 64 (Nat.le_of_ble_eq_true rfl)).trans rfl
theorem s_65 (S : St K h) : h[65]? = some (.inr (.int, 10)) := (S.1 65 (Nat.le_of_ble_eq_true rfl)).trans rfl
theorem s_66 (S : St K h) : h[66]? = some (.inr (.int, 10)) := (S.1 66 (Nat.le_of_ble_eq_true rfl)).trans rfl
theorem s_67 (S : St K h) : h[67]? = some (.inr (.int, 10)) := (S.1 67 (Nat.le_of_ble_eq_true rfl)).trans rfl
theorem s_68 (S : St K h) : h[68]? = some (.inr (.int, 100)) := (S.1 68 (Nat.le_of_ble_eq_true rfl)).trans rfl
theorem s_69 (S : St K h) : h[69]? = some (.inl 5) := (S.1 69 (Nat.le_of_ble_eq_true rfl)).trans rfl
theorem s_70 (S : St K h) : h[70]? = some (.inr (.long, 60)) := (S.1 70 (Nat.le_of_ble_eq_true rfl)).trans rfl
theorem s_71 (S : St K h) : h[71]? = some (.inl 8) := (S.1 71 (Nat.le_of_ble_eq_true rfl)).trans rfl
theorem s_72 (S : St K h) : h[72]? = some (.inr (.int, 10)) := (S.1 72 (Nat.le_of_ble_eq_true rfl)).trans rfl
theorem s_73 (S : St K h) : h[73]? = some (.inr (.int, 10)) := (S.1 73 (Nat.le_of_ble_eq_true rfl)).trans rfl
theorem s_74 (S : St K h) : h[74]? = some (.inr (.int, 10)) := (S.1 74 (Nat.le_of_ble_eq_true rfl)).trans rfl
theorem s_75 (S : St K h) : h[75]? = some (.inr (.int, 10)) := (S.1 75 (Nat.le_of_ble_eq_true rfl)).trans rfl
theorem s_76 (S : St K h) : h[76]? = some (.inr (.int, 10)) := (S.1 76 (Nat.le_of_ble_eq_true rfl)).trans rfl
theorem s_77 (S : St K h) : h[77]? = some (.inr (.int, 100)) := (S.1 77 (Nat.le_of_ble_eq_true rfl)).trans rfl
theorem s_78 (S : St K h) : h[78]? = some (.inl 5) := (S.1 78 (Nat.le_of_ble_eq_true rfl)).trans rfl
theorem s_79 (S : St K h) : h[79]? = some (.inr (.long, 60)) := (S.1 79 (Nat.le_of_ble_eq_true rfl)).trans rfl
theorem s_80 (S : St K h) : h[80]? = some (.inl 8) := (S.1 80 (Nat.le_of_ble_eq_true rfl)).trans rfl
theorem s_81 (S : St K h) : h[81]? = some (.inr (.int, 10)) := (S.1 81 (Nat.le_of_ble_eq_true rfl)).trans rfl
theorem s_82 (S : St K h) : h[82]? = some (.inr (.int, 10)) := (S.1 82 (Nat.le_of_ble_eq_true rfl)).trans rfl
theorem s_83 (S : St K h) : h[83]? = some (.inr (.int, 10)) := (S.1 83 (Nat.le_of_ble_eq_true rfl)).trans rfl
theorem s_84 (S : St K h) : h[84]? = some (.inr (.int, 10)) := (S.1 84 (Nat.le_of_ble_eq_true rfl)).trans rfl
theorem s_85 (S : St K h) : h[85]? = some (.inr (.int, 10)) := (S.1 85 (Nat.le_of_ble_eq_true rfl)).trans rfl
theorem s_86 (S : St K h) : h[86]? = some (.inr (.int, 100)) := (S.1 86 (Nat.le_of_ble_eq_true rfl)).trans rfl
theorem s_87 (S : St K h) : h[87]? = some (.inl 5) := (S.1 87 (Nat.le_of_ble_eq_true rfl)).trans rfl
theorem s_88 (S : St K h) : h[88]? = some (.inr (.long, 60)) := (S.1 88 (Nat.le_of_ble_eq_true rfl)).trans rfl
theorem s_89 (S : St K h) : h[89]? = some (.inl 8) := (S.1 89 (Nat.le_of_ble_eq_true rfl)).trans rfl
theorem s_90 (S : St K h) : h[90]? = some (.inr (.int, 10)) := (S.1 90 (Nat.le_of_ble_eq_true rfl)).trans rfl
theorem s_91 (S : St K h) : h[91]? = some (.inr (.int, 10)) := (S.1 91 (Nat.le_of_ble_eq_true rfl)).trans rfl
theorem s_92 (S : St K h) : h[92]? = some (.inr (.int, 10)) := (S.1 92 (Nat.le_of_ble_eq_true rfl)).trans rfl
theorem s_93 (S : St K h) : h[93]? = some (.inr (.int, 10)) := (S.1 93 (Nat.le_of_ble_eq_true rfl)).trans rfl
theorem s_94 (S : St K h) : h[94]? = some (.inr (.int, 10)) := (S.1 94 (Nat.le_of_ble_eq_true rfl)).trans rfl
theorem s_95 (S : St K h) : h[95]? = some (.inr (.int, 100)) := (S.1 95 (Nat.le_of_ble_eq_true rfl)).trans rfl
theorem s_96 (S : St K h) : h[96]? = some (.inl 5) := (S.1 96 (Nat.le_of_ble_eq_true rfl)).trans rfl
theorem s_97 (S : St K h) : h[97]? = some (.inr (.long, 60)) := (S.1 97 (Nat.le_of_ble_eq_true rfl)).trans rfl
theorem s_98 (S : St K h) : h[98]? = some (.inl 12) := (S.1 98 (Nat.le_of_ble_eq_true rfl)).trans rfl
theorem s_99 (S : St K h) : h[99]? = some (.inr (.int, 6)) := (S.1 99 (Nat.le_of_ble_eq_true rfl)).trans rfl
theorem s_100 (S : St K h) : h[100]? = some (.inr (.int, 6)) := (S.1 100 (Nat.le_of_ble_eq_true rfl)).trans rfl
theorem s_101 (S : St K h) : h[101]? = some (.inr (.int, 6)) := (S.1 101 (Nat.le_of_ble_eq_true rfl)).trans rfl
theorem s_102 (S : St K h) : h[102]? = some (.inr (.int, 6)) := (S.1 102 (Nat.le_of_ble_eq_true rfl)).trans rfl
theorem s_103 (S : St K h) : h[103]? = some (.inr (.int, 6)) := (S.1 103 (Nat.le_of_ble_eq_true rfl)).trans rfl
theorem s_104 (S : St K h) : h[104]? = some (.inr (.int, 6)) := (S.1 104 (Nat.le_of_ble_eq_true rfl)).trans rfl
theorem s_105 (S : St K h) : h[105]? = some (.inr (.int, 6)) := (S.1 105 (Nat.le_of_ble_eq_true rfl)).trans rfl
theorem s_106 (S : St K h) : h[106]? = some (.inr (.int, 6)) := (S.1 106 (Nat.le_of_ble_eq_true rfl)).trans rfl
theorem s_107 (S : St K h) : h[107]? = some (.inr (.int, 6)) := (S.1 107 (Nat.le_of_ble_eq_true rfl)).trans rfl
theorem s_108 (S : St K h) : h[108]? = some (.inr (.int, 24)) := (S.1 108 (Nat.le_of_ble_eq_true rfl)).trans rfl
theorem s_109 (S : St K h) : h[109]? = some (.inr (.int, 5)) := (S.1 109 (Nat.le_of_ble_eq_true rfl)).trans rfl
theorem s_110 (S : St K h) : h[110]? = some (.inr (.int, 100)) := (S.1 110 (Nat.le_of_ble_eq_true rfl)).trans rfl
theorem s_111 (S : St K h) : h[111]? = some (.inr (.int, 6)) := (S.1 111 (Nat.le_of_ble_eq_true rfl)).trans rfl
theorem s_112 (S : St K h) : h[112]? = some (.inr (.int, 60)) := (S.1 112 (Nat.le_of_ble_eq_true rfl)).trans rfl
theorem s_113 (S : St K h) : h[113]? = some (.inr (.int, 60)) := (S.1 113 (Nat.le_of_ble_eq_true rfl)).trans rfl
theorem s_114 (S : St K h) : h[114]? = some (.inr (.int, 60)) := (S.1 114 (Nat.le_of_ble_eq_true rfl)).trans rfl
theorem s_115 (S : St K h) : h[115]? = some (.inr (.int, 60)) := (S.1 115 (Nat.le_of_ble_eq_true rfl)).trans rfl
theorem s_116 (S : St K h) : h[116]? = some (.inr (.int, 60)) := (S.1 116 (Nat.le_of_ble_eq_true rfl)).trans rfl
theorem s_117 (S : St K h) : h[117]? = some (.inr (.int, 600)) := (S.1 117 (Nat.le_of_ble_eq_true rfl)).trans rfl
theorem s_118 (S : St K h) : h[118]? = some (.inr (.int, 101)) := (S.1 118 (Nat.le_of_ble_eq_true rfl)).trans rfl
theorem s_119 (S : St K h) : h[119]? = some (.inr (.int, 16)) := (S.1 119 (Nat.le_of_ble_eq_true rfl)).trans rfl
theorem s_120 (S : St K h) : h[120]? = some (.inr (.boolean, 100)) := (S.1 120 (Nat.le_of_ble_eq_true rfl)).trans rfl
theorem s_121 (S : St K h) : h[121]? = some (.inr (.int, 6)) := (S.1 121 (Nat.le_of_ble_eq_true rfl)).trans rfl
theorem s_122 (S : St K h) : h[122]? = some (.inr (.int, 6)) := (S.1 122 (Nat.le_of_ble_eq_true rfl)).trans rfl
theorem s_123 (S : St K h) : h[123]? = some (.inr (.int, 6)) := (S.1 123 (Nat.le_of_ble_eq_true rfl)).trans rfl
theorem s_124 (S : St K h) : h[124]? = some (.inr (.int, 6)) := (S.1 124 (Nat.le_of_ble_eq_true rfl)).trans rfl
theorem s_125 (S : St K h) : h[125]? = some (.inr (.int, 36)) := (S.1 125 (Nat.le_of_ble_eq_true rfl)).trans rfl
theorem s_126 (S : St K h) : h[126]? = some (.inr (.int, 448)) := (S.1 126 (Nat.le_of_ble_eq_true rfl)).trans rfl
theorem s_127 (S : St K h) : h[127]? = some (.inr (.int, 64)) := (S.1 127 (Nat.le_of_ble_eq_true rfl)).trans rfl
theorem s_128 (S : St K h) : h[128]? = some (.inr (.int, 6)) := (S.1 128 (Nat.le_of_ble_eq_true rfl)).trans rfl
theorem s_129 (S : St K h) : h[129]? = some (.inr (.int, 6)) := (S.1 129 (Nat.le_of_ble_eq_true rfl)).trans rfl
theorem s_130 (S : St K h) : h[130]? = some (.inr (.int, 64)) := (S.1 130 (Nat.le_of_ble_eq_true rfl)).trans rfl
theorem s_131 (S : St K h) : h[131]? = some (.inr (.int, 8)) := (S.1 131 (Nat.le_of_ble_eq_true rfl)).trans rfl
theorem s_132 (S : St K h) : h[132]? = some (.inr (.int, 8)) := (S.1 132 (Nat.le_of_ble_eq_true rfl)).trans rfl
theorem s_133 (S : St K h) : h[133]? = some (.inr (.int, 6)) := (S.1 133 (Nat.le_of_ble_eq_true rfl)).trans rfl
theorem s_134 (S : St K h) : h[134]? = some (.inr (.int, 6)) := (S.1 134 (Nat.le_of_ble_eq_true rfl)).trans rfl
theorem s_135 (S : St K h) : h[135]? = some (.inr (.int, 6)) := (S.1 135 (Nat.le_of_ble_eq_true rfl)).trans rfl
theorem s_136 (S : St K h) : h[136]? = some (.inr (.int, 6)) := (S.1 136 (Nat.le_of_ble_eq_true rfl)).trans rfl
theorem s_137 (S : St K h) : h[137]? = some (.inr (.int, 6)) := (S.1 137 (Nat.le_of_ble_eq_true rfl)).trans rfl
theorem s_138 (S : St K h) : h[138]? = some (.inr (.int, 6)) := (S.1 138 (Nat.le_of_ble_eq_true rfl)).trans rfl
theorem s_139 (S : St K h) : h[139]? = some (.inr (.int, 6)) := (S.1 139 (Nat.le_of_ble_eq_true rfl)).trans rfl
theorem s_140 (S : St K h) : h[140]? = some (.inr (.int, 6)) := (S.1 140 (Nat.le_of_ble_eq_true rfl)).trans rfl
theorem s_141 (S : St K h) : h[141]? = some (.inr (.int, 6)) := (S.1 141 (Nat.le_of_ble_eq_true rfl)).trans rfl
theorem s_142 (S : St K h) : h[142]? = some (.inr (.int, 24)) := (S.1 142 (Nat.le_of_ble_eq_true rfl)).trans rfl
theorem s_143 (S : St K h) : h[143]? = some (.inr (.int, 5)) := (S.1 143 (Nat.le_of_ble_eq_true rfl)).trans rfl
theorem s_144 (S : St K h) : h[144]? = some (.inr (.int, 6)) := (S.1 144 (Nat.le_of_ble_eq_true rfl)).trans rfl
theorem s_145 (S : St K h) : h[145]? = some (.inr (.int, 6)) := (S.1 145 (Nat.le_of_ble_eq_true rfl)).trans rfl
theorem s_146 (S : St K h) : h[146]? = some (.inr (.int, 8)) := (S.1 146 (Nat.le_of_ble_eq_true rfl)).trans rfl
theorem s_147 (S : St K h) : h[147]? = some (.inr (.int, 8)) := (S.1 147 (Nat.le_of_ble_eq_true rfl)).trans rfl
theorem s_148 (S : St K h) : h[148]? = some (.inr (.int, 20)) := (S.1 148 (Nat.le_of_ble_eq_true rfl)).trans rfl
theorem s_149 (S : St K h) : h[149]? = some (.inr (.int, 6)) := (S.1 149 (Nat.le_of_ble_eq_true rfl)).trans rfl
theorem s_150 (S : St K h) : h[150]? = some (.inr (.int, 6)) := (S.1 150 (Nat.le_of_ble_eq_true rfl)).trans rfl
theorem s_151 (S : St K h) : h[151]? = some (.inr (.long, 360)) := (S.1 151 (Nat.le_of_ble_eq_true rfl)).trans rfl
theorem s_152 (S : St K h) : h[152]? = some (.inr (.long, 60)) := (S.1 152 (Nat.le_of_ble_eq_true rfl)).trans rfl
theorem r_0_0 (S : St K h) : K 0 0 = some 1 := S.2 (0, 0, 1) (List.mem_of_getElem? (i := 0) rfl)
theorem r_0_1 (S : St K h) : K 0 1 = some 14 := S.2 (0, 1, 14) (List.mem_of_getElem? (i := 1) rfl)
theorem r_0_3 (S : St K h) : K 0 3 = some 27 := S.2 (0, 3, 27) (List.mem_of_getElem? (i := 2) rfl)
theorem r_0_5 (S : St K h) : K 0 5 = some 28 := S.2 (0, 5, 28) (List.mem_of_getElem? (i := 3) rfl)
theorem r_0_6 (S : St K h) : K 0 6 = some 29 := S.2 (0, 6, 29) (List.mem_of_getElem? (i := 4) rfl)
theorem r_0_8 (S : St K h) : K 0 8 = some 36 := S.2 (0, 8, 36) (List.mem_of_getElem? (i := 5) rfl)
theorem r_0_9 (S : St K h) : K 0 9 = some 38 := S.2 (0, 9, 38) (List.mem_of_getElem? (i := 6) rfl)
theorem r_0_10 (S : St K h) : K 0 10 = some 39 := S.2 (0, 10, 39) (List.mem_of_getElem? (i := 7) rfl)
theorem r_0_11 (S : St K h) : K 0 11 = some 40 := S.2 (0, 11, 40) (List.mem_of_getElem? (i := 8) rfl)
theorem r_0_12 (S : St K h) : K 0 12 = some 41 := S.2 (0, 12, 41) (List.mem_of_getElem? (i := 9) rfl)
theorem r_0_13 (S : St K h) : K 0 13 = some 42 := S.2 (0, 13, 42) (List.mem_of_getElem? (i := 10) rfl)
theorem r_0_14 (S : St K h) : K 0 14 = some 43 := S.2 (0, 14, 43) (List.mem_of_getElem? (i := 11) rfl)
theorem r_1_1 (S : St K h) : K 1 1 = some 2 := S.2 (1, 1, 2) (List.mem_of_getElem? (i := 12) rfl)
theorem r_1_2 (S : St K h) : K 1 2 = some 3 := S.2 (1, 2, 3) (List.mem_of_getElem? (i := 13) rfl)
theorem r_1_3 (S : St K h) : K 1 3 = some 4 := S.2 (1, 3, 4) (List.mem_of_getElem? (i := 14) rfl)
theorem r_1_5 (S : St K h) : K 1 5 = some 5 := S.2 (1, 5, 5) (List.mem_of_getElem? (i := 15) rfl)
theorem r_1_6 (S : St K h) : K 1 6 = some 6 := S.2 (1, 6, 6) (List.mem_of_getElem? (i := 16) rfl)
theorem r_1_7 (S : St K h) : K 1 7 = some 7 := S.2 (1, 7, 7) (List.mem_of_getElem? (i := 17) rfl)
theorem r_1_8 (S : St K h) : K 1 8 = some 8 := S.2 (1, 8, 8) (List.mem_of_getElem? (i := 18) rfl)
theorem r_1_10 (S : St K h) : K 1 10 = some 9 := S.2 (1, 10, 9) (List.mem_of_getElem? (i := 19) rfl)
theorem r_1_12 (S : St K h) : K 1 12 = some 10 := S.2 (1, 12, 10) (List.mem_of_getElem? (i := 20) rfl)
theorem r_1_13 (S : St K h) : K 1 13 = some 11 := S.2 (1, 13, 11) (List.mem_of_getElem? (i := 21) rfl)
theorem r_1_15 (S : St K h) : K 1 15 = some 12 := S.2 (1, 15, 12) (List.mem_of_getElem? (i := 22) rfl)
theorem r_1_16 (S : St K h) : K 1 16 = some 13 := S.2 (1, 16, 13) (List.mem_of_getElem? (i := 23) rfl)
theorem r_14_1 (S : St K h) : K 14 1 = some 15 := S.2 (14, 1, 15) (List.mem_of_getElem? (i := 24) rfl)
theorem r_14_2 (S : St K h) : K 14 2 = some 16 := S.2 (14, 2, 16) (List.mem_of_getElem? (i := 25) rfl)
theorem r_14_3 (S : St K h) : K 14 3 = some 17 := S.2 (14, 3, 17) (List.mem_of_getElem? (i := 26) rfl)
theorem r_14_5 (S : St K h) : K 14 5 = some 18 := S.2 (14, 5, 18) (List.mem_of_getElem? (i := 27) rfl)
theorem r_14_6 (S : St K h) : K 14 6 = some 19 := S.2 (14, 6, 19) (List.mem_of_getElem? (i := 28) rfl)
theorem r_14_7 (S : St K h) : K 14 7 = some 20 := S.2 (14, 7, 20) (List.mem_of_getElem? (i := 29) rfl)
theorem r_14_8 (S : St K h) : K 14 8 = some 21 := S.2 (14, 8, 21) (List.mem_of_getElem? (i := 30) rfl)
theorem r_14_10 (S : St K h) : K 14 10 = some 22 := S.2 (14, 10, 22) (List.mem_of_getElem? (i := 31) rfl)
theorem r_14_12 (S : St K h) : K 14 12 = some 23 := S.2 (14, 12, 23) (List.mem_of_getElem? (i := 32) rfl)
theorem r_14_13 (S : St K h) : K 14 13 = some 24 := S.2 (14, 13, 24) (List.mem_of_getElem? (i := 33) rfl)
theorem r_14_15 (S : St K h) : K 14 15 = some 25 := S.2 (14, 15, 25) (List.mem_of_getElem? (i := 34) rfl)
theorem r_14_16 (S : St K h) : K 14 16 = some 26 := S.2 (14, 16, 26) (List.mem_of_getElem? (i := 35) rfl)
theorem r_28_0 (S : St K h) : K 28 0 = some 44 := S.2 (28, 0, 44) (List.mem_of_getElem? (i := 36) rfl)
theorem r_28_1 (S : St K h) : K 28 1 = some 53 := S.2 (28, 1, 53) (List.mem_of_getElem? (i := 37) rfl)
theorem r_28_2 (S : St K h) : K 28 2 = some 62 := S.2 (28, 2, 62) (List.mem_of_getElem? (i := 38) rfl)
theorem r_28_3 (S : St K h) : K 28 3 = some 71 := S.2 (28, 3, 71) (List.mem_of_getElem? (i := 39) rfl)
theorem r_28_4 (S : St K h) : K 28 4 = some 80 := S.2 (28, 4, 80) (List.mem_of_getElem? (i := 40) rfl)
theorem r_28_5 (S : St K h) : K 28 5 = some 89 := S.2 (28, 5, 89) (List.mem_of_getElem? (i := 41) rfl)
theorem r_29_1 (S : St K h) : K 29 1 = some 30 := S.2 (29, 1, 30) (List.mem_of_getElem? (i := 42) rfl)
theorem r_29_2 (S : St K h) : K 29 2 = some 31 := S.2 (29, 2, 31) (List.mem_of_getElem? (i := 43) rfl)
theorem r_29_3 (S : St K h) : K 29 3 = some 32 := S.2 (29, 3, 32) (List.mem_of_getElem? (i := 44) rfl)
theorem r_29_4 (S : St K h) : K 29 4 = some 33 := S.2 (29, 4, 33) (List.mem_of_getElem? (i := 45) rfl)
theorem r_29_5 (S : St K h) : K 29 5 = some 34 := S.2 (29, 5, 34) (List.mem_of_getElem? (i := 46) rfl)
theorem r_29_7 (S : St K h) : K 29 7 = some 35 := S.2 (29, 7, 35) (List.mem_of_getElem? (i := 47) rfl)
theorem r_36_0 (S : St K h) : K 36 0 = some 37 := S.2 (36, 0, 37) (List.mem_of_getElem? (i := 48) rfl)
theorem r_38_0 (S : St K h) : K 38 0 = some 51 := S.2 (38, 0, 51) (List.mem_of_getElem? (i := 49) rfl)
theorem r_38_1 (S : St K h) : K 38 1 = some 60 := S.2 (38, 1, 60) (List.mem_of_getElem? (i := 50) rfl)
theorem r_38_2 (S : St K h) : K 38 2 = some 69 := S.2 (38, 2, 69) (List.mem_of_getElem? (i := 51) rfl)
theorem r_38_3 (S : St K h) : K 38 3 = some 78 := S.2 (38, 3, 78) (List.mem_of_getElem? (i := 52) rfl)
theorem r_38_4 (S : St K h) : K 38 4 = some 87 := S.2 (38, 4, 87) (List.mem_of_getElem? (i := 53) rfl)
theorem r_38_5 (S : St K h) : K 38 5 = some 96 := S.2 (38, 5, 96) (List.mem_of_getElem? (i := 54) rfl)
theorem r_44_1 (S : St K h) : K 44 1 = some 45 := S.2 (44, 1, 45) (List.mem_of_getElem? (i := 55) rfl)
theorem r_44_2 (S : St K h) : K 44 2 = some 46 := S.2 (44, 2, 46) (List.mem_of_getElem? (i := 56) rfl)
theorem r_44_3 (S : St K h) : K 44 3 = some 47 := S.2 (44, 3, 47) (List.mem_of_getElem? (i := 57) rfl)
theorem r_44_4 (S : St K h) : K 44 4 = some 48 := S.2 (44, 4, 48) (List.mem_of_getElem? (i := 58) rfl)
theorem r_44_5 (S : St K h) : K 44 5 = some 49 := S.2 (44, 5, 49) (List.mem_of_getElem? (i := 59) rfl)
theorem r_44_7 (S : St K h) : K 44 7 = some 50 := S.2 (44, 7, 50) (List.mem_of_getElem? (i := 60) rfl)
theorem r_51_2 (S : St K h) : K 51 2 = some 52 := S.2 (51, 2, 52) (List.mem_of_getElem? (i := 61) rfl)
theorem r_53_1 (S : St K h) : K 53 1 = some 54 := S.2 (53, 1, 54) (List.mem_of_getElem? (i := 62) rfl)
theorem r_53_2 (S : St K h) : K 53 2 = some 55 := S.2 (53, 2, 55) (List.mem_of_getElem? (i := 63) rfl)
theorem r_53_3 (S : St K h) : K 53 3 = some 56 := S.2 (53, 3, 56) (List.mem_of_getElem? (i := 64) rfl)
theorem r_53_4 (S : St K h) : K 53 4 = some 57 := S.2 (53, 4, 57) (List.mem_of_getElem? (i := 65) rfl)
theorem r_53_5 (S : St K h) : K 53 5 = some 58 := S.2 (53, 5, 58) (List.mem_of_getElem? (i := 66) rfl)
theorem r_53_7 (S : St K h) : K 53 7 = some 59 := S.2 (53, 7, 59) (List.mem_of_getElem? (i := 67) rfl)
theorem r_60_2 (S : St K h) : K 60 2 = some 61 := S.2 (60, 2, 61) (List.mem_of_getElem? (i := 68) rfl)
theorem r_62_1 (S : St K h) : K 62 1 = some 63 := S.2 (62, 1, 63) (List.mem_of_getElem? (i := 69) rfl)
theorem r_62_2 (S : St K h) : K 62 2 = some 64 := S.2 (62, 2, 64) (List.mem_of_getElem? (i := 70) rfl)
theorem r_62_3 (S : St K h) : K 62 3 = some 65 := S.2 (62, 3, 65) (List.mem_of_getElem? (i := 71) rfl)
theorem r_62_4 (S : St K h) : K 62 4 = some 66 := S.2 (62, 4, 66) (List.mem_of_getElem? (i := 72) rfl)
theorem r_62_5 (S : St K h) : K 62 5 = some 67 := S.2 (62, 5, 67) (List.mem_of_getElem? (i := 73) rfl)
theorem r_62_7 (S : St K h) : K 62 7 = some 68 := S.2 (62, 7, 68) (List.mem_of_getElem? (i := 74) rfl)
theorem r_69_2 (S : St K h) : K 69 2 = some 70 := S.2 (69, 2, 70) (List.mem_of_getElem? (i := 75) rfl)
theorem r_71_1 (S : St K h) : K 71 1 = some 72 := S.2 (71, 1, 72) (List.mem_of_getElem? (i := 76) rfl)
theorem r_71_2 (S : St K h) : K 71 2 = some 73 := S.2 (71, 2, 73) (List.mem_of_getElem? (i := 77) rfl)
theorem r_71_3 (S : St K h) : K 71 3 = some 74 := S.2 (71, 3, 74) (List.mem_of_getElem? (i := 78) rfl)
theorem r_71_4 (S : St K h) : K 71 4 = some 75 := S.2 (71, 4, 75) (List.mem_of_getElem? (i := 79) rfl)
theorem r_71_5 (S : St K h) : K 71 5 = some 76 := S.2 (71, 5, 76) (List.mem_of_getElem? (i := 80) rfl)
theorem r_71_7 (S : St K h) : K 71 7 = some 77 := S.2 (71, 7, 77) (List.mem_of_getElem? (i := 81) rfl)
theorem r_78_2 (S : St K h) : K 78 2 = some 79 := S.2 (78, 2, 79) (List.mem_of_getElem? (i := 82) rfl)
theorem r_80_1 (S : St K h) : K 80 1 = some 81 := S.2 (80, 1, 81) (List.mem_of_getElem? (i := 83) rfl)
theorem r_80_2 (S : St K h) : K 80 2 = some 82 := S.2 (80, 2, 82) (List.mem_of_getElem? (i := 84) rfl)
theorem r_80_3 (S : St K h) : K 80 3 = some 83 := S.2 (80, 3, 83) (List.mem_of_getElem? (i := 85) rfl)
theorem r_80_4 (S : St K h) : K 80 4 = some 84 := S.2 (80, 4, 84) (List.mem_of_getElem? (i := 86) rfl)
theorem r_80_5 (S : St K h) : K 80 5 = some 85 := S.2 (80, 5, 85) (List.mem_of_getElem? (i := 87) rfl)
theorem r_80_7 (S : St K h) : K 80 7 = some 86 := S.2 (80, 7, 86) (List.mem_of_getElem? (i := 88) rfl)
theorem r_87_2 (S : St K h) : K 87 2 = some 88 := S.2 (87, 2, 88) (List.mem_of_getElem? (i := 89) rfl)
theorem r_89_1 (S : St K h) : K 89 1 = some 90 := S.2 (89, 1, 90) (List.mem_of_getElem? (i := 90) rfl)
theorem r_89_2 (S : St K h) : K 89 2 = some 91 := S.2 (89, 2, 91) (List.mem_of_getElem? (i := 91) rfl)
theorem r_89_3 (S : St K h) : K 89 3 = some 92 := S.2 (89, 3, 92) (List.mem_of_getElem? (i := 92) rfl)
theorem r_89_4 (S : St K h) : K 89 4 = some 93 := S.2 (89, 4, 93) (List.mem_of_getElem? (i := 93) rfl)
theorem r_89_5 (S : St K h) : K 89 5 = some 94 := S.2 (89, 5, 94) (List.mem_of_getElem? (i := 94) rfl)
theorem r_89_7 (S : St K h) : K 89 7 = some 95 := S.2 (89, 7, 95) (List.mem_of_getElem? (i := 95) rfl)
theorem r_96_2 (S : St K h) : K 96 2 = some 97 := S.2 (96, 2, 97) (List.mem_of_getElem? (i := 96) rfl)
theorem r_98_3 (S : St K h) : K 98 3 = some 99 := S.2 (98, 3, 99) (List.mem_of_getElem? (i := 97) rfl)
theorem r_98_4 (S : St K h) : K 98 4 = some 100 := S.2 (98, 4, 100) (List.mem_of_getElem? (i := 98) rfl)
theorem r_98_5 (S : St K h) : K 98 5 = some 101 := S.2 (98, 5, 101) (List.mem_of_getElem? (i := 99) rfl)
theorem r_98_6 (S : St K h) : K 98 6 = some 102 := S.2 (98, 6, 102) (List.mem_of_getElem? (i := 100) rfl)
theorem r_98_7 (S : St K h) : K 98 7 = some 103 := S.2 (98, 7, 103) (List.mem_of_getElem? (i := 101) rfl)
theorem r_98_8 (S : St K h) : K 98 8 = some 104 := S.2 (98, 8, 104) (List.mem_of_getElem? (i := 102) rfl)
theorem r_98_9 (S : St K h) : K 98 9 = some 105 := S.2 (98, 9, 105) (List.mem_of_getElem? (i := 103) rfl)
theorem r_98_10 (S : St K h) : K 98 10 = some 106 := S.2 (98, 10, 106) (List.mem_of_getElem? (i := 104) rfl)
theorem r_98_11 (S : St K h) : K 98 11 = some 107 := S.2 (98, 11, 107) (List.mem_of_getElem? (i := 105) rfl)
theorem r_98_12 (S : St K h) : K 98 12 = some 108 := S.2 (98, 12, 108) (List.mem_of_getElem? (i := 106) rfl)
theorem r_98_13 (S : St K h) : K 98 13 = some 109 := S.2 (98, 13, 109) (List.mem_of_getElem? (i := 107) rfl)
theorem r_98_19 (S : St K h) : K 98 19 = some 110 := S.2 (98, 19, 110) (List.mem_of_getElem? (i := 108) rfl)
theorem r_98_20 (S : St K h) : K 98 20 = some 111 := S.2 (98, 20, 111) (List.mem_of_getElem? (i := 109) rfl)
theorem r_98_21 (S : St K h) : K 98 21 = some 112 := S.2 (98, 21, 112) (List.mem_of_getElem? (i := 110) rfl)
theorem r_98_22 (S : St K h) : K 98 22 = some 113 := S.2 (98, 22, 113) (List.mem_of_getElem? (i := 111) rfl)
theorem r_98_23 (S : St K h) : K 98 23 = some 114 := S.2 (98, 23, 114) (List.mem_of_getElem? (i := 112) rfl)
theorem r_98_24 (S : St K h) : K 98 24 = some 115 := S.2 (98, 24, 115) (List.mem_of_getElem? (i := 113) rfl)
theorem r_98_25 (S : St K h) : K 98 25 = some 116 := S.2 (98, 25, 116) (List.mem_of_getElem? (i := 114) rfl)
theorem r_98_26 (S : St K h) : K 98 26 = some 117 := S.2 (98, 26, 117) (List.mem_of_getElem? (i := 115) rfl)
theorem r_98_27 (S : St K h) : K 98 27 = some 118 := S.2 (98, 27, 118) (List.mem_of_getElem? (i := 116) rfl)
theorem r_98_31 (S : St K h) : K 98 31 = some 119 := S.2 (98, 31, 119) (List.mem_of_getElem? (i := 117) rfl)
theorem r_98_32 (S : St K h) : K 98 32 = some 120 := S.2 (98, 32, 120) (List.mem_of_getElem? (i := 118) rfl)
theorem r_98_34 (S : St K h) : K 98 34 = some 121 := S.2 (98, 34, 121) (List.mem_of_getElem? (i := 119) rfl)
theorem r_98_36 (S : St K h) : K 98 36 = some 122 := S.2 (98, 36, 122) (List.mem_of_getElem? (i := 120) rfl)
theorem r_98_37 (S : St K h) : K 98 37 = some 123 := S.2 (98, 37, 123) (List.mem_of_getElem? (i := 121) rfl)
theorem r_98_38 (S : St K h) : K 98 38 = some 124 := S.2 (98, 38, 124) (List.mem_of_getElem? (i := 122) rfl)
theorem r_98_39 (S : St K h) : K 98 39 = some 125 := S.2 (98, 39, 125) (List.mem_of_getElem? (i := 123) rfl)
theorem r_98_41 (S : St K h) : K 98 41 = some 126 := S.2 (98, 41, 126) (List.mem_of_getElem? (i := 124) rfl)
theorem r_98_42 (S : St K h) : K 98 42 = some 127 := S.2 (98, 42, 127) (List.mem_of_getElem? (i := 125) rfl)
theorem r_98_44 (S : St K h) : K 98 44 = some 128 := S.2 (98, 44, 128) (List.mem_of_getElem? (i := 126) rfl)
theorem r_98_45 (S : St K h) : K 98 45 = some 129 := S.2 (98, 45, 129) (List.mem_of_getElem? (i := 127) rfl)
theorem r_98_46 (S : St K h) : K 98 46 = some 130 := S.2 (98, 46, 130) (List.mem_of_getElem? (i := 128) rfl)
theorem r_98_48 (S : St K h) : K 98 48 = some 131 := S.2 (98, 48, 131) (List.mem_of_getElem? (i := 129) rfl)
theorem r_98_49 (S : St K h) : K 98 49 = some 132 := S.2 (98, 49, 132) (List.mem_of_getElem? (i := 130) rfl)
theorem r_98_57 (S : St K h) : K 98 57 = some 133 := S.2 (98, 57, 133) (List.mem_of_getElem? (i := 131) rfl)
theorem r_98_58 (S : St K h) : K 98 58 = some 134 := S.2 (98, 58, 134) (List.mem_of_getElem? (i := 132) rfl)
theorem r_98_59 (S : St K h) : K 98 59 = some 135 := S.2 (98, 59, 135) (List.mem_of_getElem? (i := 133) rfl)
theorem r_98_60 (S : St K h) : K 98 60 = some 136 := S.2 (98, 60, 136) (List.mem_of_getElem? (i := 134) rfl)
theorem r_98_61 (S : St K h) : K 98 61 = some 137 := S.2 (98, 61, 137) (List.mem_of_getElem? (i := 135) rfl)
theorem r_98_62 (S : St K h) : K 98 62 = some 138 := S.2 (98, 62, 138) (List.mem_of_getElem? (i := 136) rfl)
theorem r_98_63 (S : St K h) : K 98 63 = some 139 := S.2 (98, 63, 139) (List.mem_of_getElem? (i := 137) rfl)
theorem r_98_64 (S : St K h) : K 98 64 = some 140 := S.2 (98, 64, 140) (List.mem_of_getElem? (i := 138) rfl)
theorem r_98_65 (S : St K h) : K 98 65 = some 141 := S.2 (98, 65, 141) (List.mem_of_getElem? (i := 139) rfl)
theorem r_98_66 (S : St K h) : K 98 66 = some 142 := S.2 (98, 66, 142) (List.mem_of_getElem? (i := 140) rfl)
theorem r_98_67 (S : St K h) : K 98 67 = some 143 := S.2 (98, 67, 143) (List.mem_of_getElem? (i := 141) rfl)
theorem r_98_68 (S : St K h) : K 98 68 = some 144 := S.2 (98, 68, 144) (List.mem_of_getElem? (i := 142) rfl)
theorem r_98_69 (S : St K h) : K 98 69 = some 145 := S.2 (98, 69, 145) (List.mem_of_getElem? (i := 143) rfl)
theorem r_98_70 (S : St K h) : K 98 70 = some 146 := S.2 (98, 70, 146) (List.mem_of_getElem? (i := 144) rfl)
theorem r_98_71 (S : St K h) : K 98 71 = some 147 := S.2 (98, 71, 147) (List.mem_of_getElem? (i := 145) rfl)
theorem r_98_73 (S : St K h) : K 98 73 = some 148 := S.2 (98, 73, 148) (List.mem_of_getElem? (i := 146) rfl)
theorem r_98_74 (S : St K h) : K 98 74 = some 149 := S.2 (98, 74, 149) (List.mem_of_getElem? (i := 147) rfl)
theorem r_98_75 (S : St K h) : K 98 75 = some 150 := S.2 (98, 75, 150) (List.mem_of_getElem? (i := 148) rfl)
theorem r_98_76 (S : St K h) : K 98 76 = some 151 := S.2 (98, 76, 151) (List.mem_of_getElem? (i := 149) rfl)
theorem r_98_77 (S : St K h) : K 98 77 = some 152 := S.2 (98, 77, 152) (List.mem_of_getElem? (i := 150) rfl)
end LAY
theorem f_3_9_3 : xFh 3 9 3 0 ∧ xkd (xty 3 0) = 0 := ⟨⟨"HatsDecide$Scene", List.mem_of_getElem? (i := 0) rfl⟩, rfl⟩
theorem g_3_9_3 : xFh 3 9 3 0 ∧ xty 3 0 = .int := ⟨⟨"HatsDecide$Scene", List.mem_of_getElem? (i := 0) rfl⟩, rfl⟩
theorem f_11_89_3 : xFh 11 89 3 0 ∧ xkd (xty 3 0) = 0 := ⟨⟨"HatsDecide$Scene", List.mem_of_getElem? (i := 1) rfl⟩, rfl⟩
theorem g_11_89_3 : xFh 11 89 3 0 ∧ xty 3 0 = .int := ⟨⟨"HatsDecide$Scene", List.mem_of_getElem? (i := 1) rfl⟩, rfl⟩
theorem f_3_15_3 : xFh 3 15 3 1 ∧ xkd (xty 3 1) = 2 := ⟨⟨"HatsDecide$Scene", List.mem_of_getElem? (i := 2) rfl⟩, rfl⟩
theorem f_11_92_3 : xFh 11 92 3 1 ∧ xkd (xty 3 1) = 2 := ⟨⟨"HatsDecide$Scene", List.mem_of_getElem? (i := 3) rfl⟩, rfl⟩
theorem f_3_19_3 : xFh 3 19 3 2 ∧ xkd (xty 3 2) = 2 := ⟨⟨"HatsDecide$Scene", List.mem_of_getElem? (i := 4) rfl⟩, rfl⟩
theorem f_11_95_3 : xFh 11 95 3 2 ∧ xkd (xty 3 2) = 2 := ⟨⟨"HatsDecide$Scene", List.mem_of_getElem? (i := 5) rfl⟩, rfl⟩
theorem f_3_22_3 : xFh 3 22 3 3 ∧ xkd (xty 3 3) = 2 := ⟨⟨"HatsDecide$Scene", List.mem_of_getElem? (i := 6) rfl⟩, rfl⟩
theorem f_11_98_3 : xFh 11 98 3 3 ∧ xkd (xty 3 3) = 2 := ⟨⟨"HatsDecide$Scene", List.mem_of_getElem? (i := 7) rfl⟩, rfl⟩
theorem f_3_25_3 : xFh 3 25 3 4 ∧ xkd (xty 3 4) = 0 := ⟨⟨"HatsDecide$Scene", List.mem_of_getElem? (i := 8) rfl⟩, rfl⟩
theorem g_3_25_3 : xFh 3 25 3 4 ∧ xty 3 4 = .int := ⟨⟨"HatsDecide$Scene", List.mem_of_getElem? (i := 8) rfl⟩, rfl⟩
theorem f_11_108_3 : xFh 11 108 3 4 ∧ xkd (xty 3 4) = 0 := ⟨⟨"HatsDecide$Scene", List.mem_of_getElem? (i := 9) rfl⟩, rfl⟩
theorem g_11_108_3 : xFh 11 108 3 4 ∧ xty 3 4 = .int := ⟨⟨"HatsDecide$Scene", List.mem_of_getElem? (i := 9) rfl⟩, rfl⟩
theorem f_3_30_3 : xFh 3 30 3 5 ∧ xkd (xty 3 5) = 2 := ⟨⟨"HatsDecide$Scene", List.mem_of_getElem? (i := 10) rfl⟩, rfl⟩
theorem f_11_111_3 : xFh 11 111 3 5 ∧ xkd (xty 3 5) = 2 := ⟨⟨"HatsDecide$Scene", List.mem_of_getElem? (i := 11) rfl⟩, rfl⟩
theorem f_3_34_3 : xFh 3 34 3 6 ∧ xkd (xty 3 6) = 2 := ⟨⟨"HatsDecide$Scene", List.mem_of_getElem? (i := 12) rfl⟩, rfl⟩
theorem f_11_119_3 : xFh 11 119 3 6 ∧ xkd (xty 3 6) = 2 := ⟨⟨"HatsDecide$Scene", List.mem_of_getElem? (i := 13) rfl⟩, rfl⟩
theorem f_3_37_3 : xFh 3 37 3 7 ∧ xkd (xty 3 7) = 2 := ⟨⟨"HatsDecide$Scene", List.mem_of_getElem? (i := 14) rfl⟩, rfl⟩
theorem f_11_122_3 : xFh 11 122 3 7 ∧ xkd (xty 3 7) = 2 := ⟨⟨"HatsDecide$Scene", List.mem_of_getElem? (i := 15) rfl⟩, rfl⟩
theorem f_3_40_3 : xFh 3 40 3 8 ∧ xkd (xty 3 8) = 2 := ⟨⟨"HatsDecide$Scene", List.mem_of_getElem? (i := 16) rfl⟩, rfl⟩
theorem f_11_125_3 : xFh 11 125 3 8 ∧ xkd (xty 3 8) = 2 := ⟨⟨"HatsDecide$Scene", List.mem_of_getElem? (i := 17) rfl⟩, rfl⟩
theorem f_3_43_3 : xFh 3 43 3 9 ∧ xkd (xty 3 9) = 0 := ⟨⟨"HatsDecide$Scene", List.mem_of_getElem? (i := 18) rfl⟩, rfl⟩
theorem g_3_43_3 : xFh 3 43 3 9 ∧ xty 3 9 = .int := ⟨⟨"HatsDecide$Scene", List.mem_of_getElem? (i := 18) rfl⟩, rfl⟩
theorem f_11_190_3 : xFh 11 190 3 9 ∧ xkd (xty 3 9) = 0 := ⟨⟨"HatsDecide$Scene", List.mem_of_getElem? (i := 19) rfl⟩, rfl⟩
theorem g_11_190_3 : xFh 11 190 3 9 ∧ xty 3 9 = .int := ⟨⟨"HatsDecide$Scene", List.mem_of_getElem? (i := 19) rfl⟩, rfl⟩
theorem f_3_46_3 : xFh 3 46 3 10 ∧ xkd (xty 3 10) = 2 := ⟨⟨"HatsDecide$Scene", List.mem_of_getElem? (i := 20) rfl⟩, rfl⟩
theorem f_11_200_3 : xFh 11 200 3 10 ∧ xkd (xty 3 10) = 2 := ⟨⟨"HatsDecide$Scene", List.mem_of_getElem? (i := 21) rfl⟩, rfl⟩
theorem f_3_49_3 : xFh 3 49 3 11 ∧ xkd (xty 3 11) = 0 := ⟨⟨"HatsDecide$Scene", List.mem_of_getElem? (i := 22) rfl⟩, rfl⟩
theorem g_3_49_3 : xFh 3 49 3 11 ∧ xty 3 11 = .int := ⟨⟨"HatsDecide$Scene", List.mem_of_getElem? (i := 22) rfl⟩, rfl⟩
theorem f_11_251_3 : xFh 11 251 3 11 ∧ xkd (xty 3 11) = 0 := ⟨⟨"HatsDecide$Scene", List.mem_of_getElem? (i := 23) rfl⟩, rfl⟩
theorem g_11_251_3 : xFh 11 251 3 11 ∧ xty 3 11 = .int := ⟨⟨"HatsDecide$Scene", List.mem_of_getElem? (i := 23) rfl⟩, rfl⟩
theorem f_3_52_3 : xFh 3 52 3 12 ∧ xkd (xty 3 12) = 2 := ⟨⟨"HatsDecide$Scene", List.mem_of_getElem? (i := 24) rfl⟩, rfl⟩
theorem f_11_254_3 : xFh 11 254 3 12 ∧ xkd (xty 3 12) = 2 := ⟨⟨"HatsDecide$Scene", List.mem_of_getElem? (i := 25) rfl⟩, rfl⟩
theorem f_3_55_3 : xFh 3 55 3 13 ∧ xkd (xty 3 13) = 2 := ⟨⟨"HatsDecide$Scene", List.mem_of_getElem? (i := 26) rfl⟩, rfl⟩
theorem f_11_257_3 : xFh 11 257 3 13 ∧ xkd (xty 3 13) = 2 := ⟨⟨"HatsDecide$Scene", List.mem_of_getElem? (i := 27) rfl⟩, rfl⟩
theorem f_3_58_3 : xFh 3 58 3 14 ∧ xkd (xty 3 14) = 0 := ⟨⟨"HatsDecide$Scene", List.mem_of_getElem? (i := 28) rfl⟩, rfl⟩
theorem g_3_58_3 : xFh 3 58 3 14 ∧ xty 3 14 = .int := ⟨⟨"HatsDecide$Scene", List.mem_of_getElem? (i := 28) rfl⟩, rfl⟩
theorem f_11_281_3 : xFh 11 281 3 14 ∧ xkd (xty 3 14) = 0 := ⟨⟨"HatsDecide$Scene", List.mem_of_getElem? (i := 29) rfl⟩, rfl⟩
theorem g_11_281_3 : xFh 11 281 3 14 ∧ xty 3 14 = .int := ⟨⟨"HatsDecide$Scene", List.mem_of_getElem? (i := 29) rfl⟩, rfl⟩
theorem f_3_61_3 : xFh 3 61 3 15 ∧ xkd (xty 3 15) = 2 := ⟨⟨"HatsDecide$Scene", List.mem_of_getElem? (i := 30) rfl⟩, rfl⟩
theorem f_11_284_3 : xFh 11 284 3 15 ∧ xkd (xty 3 15) = 2 := ⟨⟨"HatsDecide$Scene", List.mem_of_getElem? (i := 31) rfl⟩, rfl⟩
theorem f_3_64_3 : xFh 3 64 3 16 ∧ xkd (xty 3 16) = 2 := ⟨⟨"HatsDecide$Scene", List.mem_of_getElem? (i := 32) rfl⟩, rfl⟩
theorem f_11_287_3 : xFh 11 287 3 16 ∧ xkd (xty 3 16) = 2 := ⟨⟨"HatsDecide$Scene", List.mem_of_getElem? (i := 33) rfl⟩, rfl⟩
theorem f_3_67_3 : xFh 3 67 3 17 ∧ xkd (xty 3 17) = 0 := ⟨⟨"HatsDecide$Scene", List.mem_of_getElem? (i := 34) rfl⟩, rfl⟩
theorem g_3_67_3 : xFh 3 67 3 17 ∧ xty 3 17 = .int := ⟨⟨"HatsDecide$Scene", List.mem_of_getElem? (i := 34) rfl⟩, rfl⟩
theorem f_11_187_3 : xFh 11 187 3 17 ∧ xkd (xty 3 17) = 0 := ⟨⟨"HatsDecide$Scene", List.mem_of_getElem? (i := 35) rfl⟩, rfl⟩
theorem g_11_187_3 : xFh 11 187 3 17 ∧ xty 3 17 = .int := ⟨⟨"HatsDecide$Scene", List.mem_of_getElem? (i := 35) rfl⟩, rfl⟩
theorem f_8_9_8 : xFh 8 9 8 0 ∧ xkd (xty 8 0) = 0 := ⟨⟨"HatsDecide$Town", List.mem_of_getElem? (i := 36) rfl⟩, rfl⟩
theorem g_8_9_8 : xFh 8 9 8 0 ∧ xty 8 0 = .int := ⟨⟨"HatsDecide$Town", List.mem_of_getElem? (i := 36) rfl⟩, rfl⟩
theorem f_8_15_8 : xFh 8 15 8 1 ∧ xkd (xty 8 1) = 2 := ⟨⟨"HatsDecide$Town", List.mem_of_getElem? (i := 37) rfl⟩, rfl⟩
theorem f_8_19_8 : xFh 8 19 8 2 ∧ xkd (xty 8 2) = 2 := ⟨⟨"HatsDecide$Town", List.mem_of_getElem? (i := 38) rfl⟩, rfl⟩
theorem f_8_22_8 : xFh 8 22 8 3 ∧ xkd (xty 8 3) = 2 := ⟨⟨"HatsDecide$Town", List.mem_of_getElem? (i := 39) rfl⟩, rfl⟩
theorem f_8_25_8 : xFh 8 25 8 4 ∧ xkd (xty 8 4) = 2 := ⟨⟨"HatsDecide$Town", List.mem_of_getElem? (i := 40) rfl⟩, rfl⟩
theorem f_8_28_8 : xFh 8 28 8 5 ∧ xkd (xty 8 5) = 2 := ⟨⟨"HatsDecide$Town", List.mem_of_getElem? (i := 41) rfl⟩, rfl⟩
theorem f_8_31_8 : xFh 8 31 8 6 ∧ xkd (xty 8 6) = 0 := ⟨⟨"HatsDecide$Town", List.mem_of_getElem? (i := 42) rfl⟩, rfl⟩
theorem g_8_31_8 : xFh 8 31 8 6 ∧ xty 8 6 = .int := ⟨⟨"HatsDecide$Town", List.mem_of_getElem? (i := 42) rfl⟩, rfl⟩
theorem f_8_34_8 : xFh 8 34 8 7 ∧ xkd (xty 8 7) = 2 := ⟨⟨"HatsDecide$Town", List.mem_of_getElem? (i := 43) rfl⟩, rfl⟩
theorem f_8_41_8 : xFh 8 41 8 8 ∧ xkd (xty 8 8) = 2 := ⟨⟨"HatsDecide$Town", List.mem_of_getElem? (i := 44) rfl⟩, rfl⟩
theorem f_8_44_8 : xFh 8 44 8 9 ∧ xkd (xty 8 9) = 0 := ⟨⟨"HatsDecide$Town", List.mem_of_getElem? (i := 45) rfl⟩, rfl⟩
theorem g_8_44_8 : xFh 8 44 8 9 ∧ xty 8 9 = .int := ⟨⟨"HatsDecide$Town", List.mem_of_getElem? (i := 45) rfl⟩, rfl⟩
theorem f_8_47_8 : xFh 8 47 8 10 ∧ xkd (xty 8 10) = 0 := ⟨⟨"HatsDecide$Town", List.mem_of_getElem? (i := 46) rfl⟩, rfl⟩
theorem g_8_47_8 : xFh 8 47 8 10 ∧ xty 8 10 = .int := ⟨⟨"HatsDecide$Town", List.mem_of_getElem? (i := 46) rfl⟩, rfl⟩
theorem f_8_50_8 : xFh 8 50 8 11 ∧ xkd (xty 8 11) = 0 := ⟨⟨"HatsDecide$Town", List.mem_of_getElem? (i := 47) rfl⟩, rfl⟩
theorem g_8_50_8 : xFh 8 50 8 11 ∧ xty 8 11 = .boolean := ⟨⟨"HatsDecide$Town", List.mem_of_getElem? (i := 47) rfl⟩, rfl⟩
theorem f_9_9_9 : xFh 9 9 9 0 ∧ xkd (xty 9 0) = 2 := ⟨⟨"HatsDecide$Trace", List.mem_of_getElem? (i := 48) rfl⟩, rfl⟩
theorem f_11_322_9 : xFh 11 322 9 0 ∧ xkd (xty 9 0) = 2 := ⟨⟨"HatsDecide$Trace", List.mem_of_getElem? (i := 49) rfl⟩, rfl⟩
theorem f_9_15_9 : xFh 9 15 9 1 ∧ xkd (xty 9 1) = 0 := ⟨⟨"HatsDecide$Trace", List.mem_of_getElem? (i := 50) rfl⟩, rfl⟩
theorem g_9_15_9 : xFh 9 15 9 1 ∧ xty 9 1 = .int := ⟨⟨"HatsDecide$Trace", List.mem_of_getElem? (i := 50) rfl⟩, rfl⟩
theorem f_11_319_9 : xFh 11 319 9 1 ∧ xkd (xty 9 1) = 0 := ⟨⟨"HatsDecide$Trace", List.mem_of_getElem? (i := 51) rfl⟩, rfl⟩
theorem g_11_319_9 : xFh 11 319 9 1 ∧ xty 9 1 = .int := ⟨⟨"HatsDecide$Trace", List.mem_of_getElem? (i := 51) rfl⟩, rfl⟩
theorem f_5_11_5 : xFh 5 11 5 0 ∧ xkd (xty 5 0) = 0 := ⟨⟨"HatsDecide$Tape", List.mem_of_getElem? (i := 52) rfl⟩, rfl⟩
theorem g_5_11_5 : xFh 5 11 5 0 ∧ xty 5 0 = .int := ⟨⟨"HatsDecide$Tape", List.mem_of_getElem? (i := 52) rfl⟩, rfl⟩
theorem f_11_293_5 : xFh 11 293 5 0 ∧ xkd (xty 5 0) = 0 := ⟨⟨"HatsDecide$Tape", List.mem_of_getElem? (i := 53) rfl⟩, rfl⟩
theorem g_11_293_5 : xFh 11 293 5 0 ∧ xty 5 0 = .int := ⟨⟨"HatsDecide$Tape", List.mem_of_getElem? (i := 53) rfl⟩, rfl⟩
theorem f_5_15_5 : xFh 5 15 5 1 ∧ xkd (xty 5 1) = 0 := ⟨⟨"HatsDecide$Tape", List.mem_of_getElem? (i := 54) rfl⟩, rfl⟩
theorem g_5_15_5 : xFh 5 15 5 1 ∧ xty 5 1 = .int := ⟨⟨"HatsDecide$Tape", List.mem_of_getElem? (i := 54) rfl⟩, rfl⟩
theorem f_5_18_5 : xFh 5 18 5 2 ∧ xkd (xty 5 2) = 2 := ⟨⟨"HatsDecide$Tape", List.mem_of_getElem? (i := 55) rfl⟩, rfl⟩
theorem f_11_299_5 : xFh 11 299 5 2 ∧ xkd (xty 5 2) = 2 := ⟨⟨"HatsDecide$Tape", List.mem_of_getElem? (i := 56) rfl⟩, rfl⟩
theorem f_11_14_11 : xFh 11 14 11 0 ∧ xkd (xty 11 0) = 2 := ⟨⟨"HatsDecide", List.mem_of_getElem? (i := 57) rfl⟩, rfl⟩
theorem f_11_18_11 : xFh 11 18 11 1 ∧ xkd (xty 11 1) = 2 := ⟨⟨"HatsDecide", List.mem_of_getElem? (i := 58) rfl⟩, rfl⟩
theorem f_11_21_11 : xFh 11 21 11 2 ∧ xkd (xty 11 2) = 0 := ⟨⟨"HatsDecide", List.mem_of_getElem? (i := 59) rfl⟩, rfl⟩
theorem g_11_21_11 : xFh 11 21 11 2 ∧ xty 11 2 = .boolean := ⟨⟨"HatsDecide", List.mem_of_getElem? (i := 59) rfl⟩, rfl⟩
theorem f_11_25_11 : xFh 11 25 11 3 ∧ xkd (xty 11 3) = 2 := ⟨⟨"HatsDecide", List.mem_of_getElem? (i := 60) rfl⟩, rfl⟩
theorem f_11_29_11 : xFh 11 29 11 4 ∧ xkd (xty 11 4) = 0 := ⟨⟨"HatsDecide", List.mem_of_getElem? (i := 61) rfl⟩, rfl⟩
theorem g_11_29_11 : xFh 11 29 11 4 ∧ xty 11 4 = .int := ⟨⟨"HatsDecide", List.mem_of_getElem? (i := 61) rfl⟩, rfl⟩
theorem f_11_35_11 : xFh 11 35 11 5 ∧ xkd (xty 11 5) = 2 := ⟨⟨"HatsDecide", List.mem_of_getElem? (i := 62) rfl⟩, rfl⟩
theorem f_11_40_11 : xFh 11 40 11 6 ∧ xkd (xty 11 6) = 2 := ⟨⟨"HatsDecide", List.mem_of_getElem? (i := 63) rfl⟩, rfl⟩
theorem f_11_44_11 : xFh 11 44 11 7 ∧ xkd (xty 11 7) = 0 := ⟨⟨"HatsDecide", List.mem_of_getElem? (i := 64) rfl⟩, rfl⟩
theorem g_11_44_11 : xFh 11 44 11 7 ∧ xty 11 7 = .int := ⟨⟨"HatsDecide", List.mem_of_getElem? (i := 64) rfl⟩, rfl⟩
theorem f_11_50_11 : xFh 11 50 11 8 ∧ xkd (xty 11 8) = 2 := ⟨⟨"HatsDecide", List.mem_of_getElem? (i := 65) rfl⟩, rfl⟩
theorem f_11_56_11 : xFh 11 56 11 9 ∧ xkd (xty 11 9) = 2 := ⟨⟨"HatsDecide", List.mem_of_getElem? (i := 66) rfl⟩, rfl⟩
theorem f_11_68_11 : xFh 11 68 11 10 ∧ xkd (xty 11 10) = 2 := ⟨⟨"HatsDecide", List.mem_of_getElem? (i := 67) rfl⟩, rfl⟩
theorem f_11_72_11 : xFh 11 72 11 11 ∧ xkd (xty 11 11) = 2 := ⟨⟨"HatsDecide", List.mem_of_getElem? (i := 68) rfl⟩, rfl⟩
theorem f_11_75_11 : xFh 11 75 11 12 ∧ xkd (xty 11 12) = 2 := ⟨⟨"HatsDecide", List.mem_of_getElem? (i := 69) rfl⟩, rfl⟩
theorem f_11_78_11 : xFh 11 78 11 13 ∧ xkd (xty 11 13) = 2 := ⟨⟨"HatsDecide", List.mem_of_getElem? (i := 70) rfl⟩, rfl⟩
theorem f_11_81_11 : xFh 11 81 11 14 ∧ xkd (xty 11 14) = 2 := ⟨⟨"HatsDecide", List.mem_of_getElem? (i := 71) rfl⟩, rfl⟩
theorem f_2_7_0 : xFh 2 7 0 0 ∧ xkd (xty 0 0) = 0 := ⟨⟨"HatsDecide$Hat", List.mem_of_getElem? (i := 72) rfl⟩, rfl⟩
theorem g_2_7_0 : xFh 2 7 0 0 ∧ xty 0 0 = .int := ⟨⟨"HatsDecide$Hat", List.mem_of_getElem? (i := 72) rfl⟩, rfl⟩
theorem f_2_7_1 : xFh 2 7 1 0 ∧ xkd (xty 1 0) = 0 := ⟨⟨"HatsDecide$Hat", List.mem_of_getElem? (i := 73) rfl⟩, rfl⟩
theorem g_2_7_1 : xFh 2 7 1 0 ∧ xty 1 0 = .int := ⟨⟨"HatsDecide$Hat", List.mem_of_getElem? (i := 73) rfl⟩, rfl⟩
theorem f_2_7_2 : xFh 2 7 2 0 ∧ xkd (xty 2 0) = 0 := ⟨⟨"HatsDecide$Hat", List.mem_of_getElem? (i := 74) rfl⟩, rfl⟩
theorem g_2_7_2 : xFh 2 7 2 0 ∧ xty 2 0 = .int := ⟨⟨"HatsDecide$Hat", List.mem_of_getElem? (i := 74) rfl⟩, rfl⟩
theorem f_2_7_4 : xFh 2 7 4 0 ∧ xkd (xty 4 0) = 0 := ⟨⟨"HatsDecide$Hat", List.mem_of_getElem? (i := 75) rfl⟩, rfl⟩
theorem g_2_7_4 : xFh 2 7 4 0 ∧ xty 4 0 = .int := ⟨⟨"HatsDecide$Hat", List.mem_of_getElem? (i := 75) rfl⟩, rfl⟩
theorem f_2_7_6 : xFh 2 7 6 0 ∧ xkd (xty 6 0) = 0 := ⟨⟨"HatsDecide$Hat", List.mem_of_getElem? (i := 76) rfl⟩, rfl⟩
theorem g_2_7_6 : xFh 2 7 6 0 ∧ xty 6 0 = .int := ⟨⟨"HatsDecide$Hat", List.mem_of_getElem? (i := 76) rfl⟩, rfl⟩
theorem f_2_7_7 : xFh 2 7 7 0 ∧ xkd (xty 7 0) = 0 := ⟨⟨"HatsDecide$Hat", List.mem_of_getElem? (i := 77) rfl⟩, rfl⟩
theorem g_2_7_7 : xFh 2 7 7 0 ∧ xty 7 0 = .int := ⟨⟨"HatsDecide$Hat", List.mem_of_getElem? (i := 77) rfl⟩, rfl⟩
theorem f_2_7_10 : xFh 2 7 10 0 ∧ xkd (xty 10 0) = 0 := ⟨⟨"HatsDecide$Hat", List.mem_of_getElem? (i := 78) rfl⟩, rfl⟩
theorem g_2_7_10 : xFh 2 7 10 0 ∧ xty 10 0 = .int := ⟨⟨"HatsDecide$Hat", List.mem_of_getElem? (i := 78) rfl⟩, rfl⟩
theorem f_11_154_0 : xFh 11 154 0 0 ∧ xkd (xty 0 0) = 0 := ⟨⟨"HatsDecide$Hat", List.mem_of_getElem? (i := 79) rfl⟩, rfl⟩
theorem g_11_154_0 : xFh 11 154 0 0 ∧ xty 0 0 = .int := ⟨⟨"HatsDecide$Hat", List.mem_of_getElem? (i := 79) rfl⟩, rfl⟩
theorem f_11_154_1 : xFh 11 154 1 0 ∧ xkd (xty 1 0) = 0 := ⟨⟨"HatsDecide$Hat", List.mem_of_getElem? (i := 80) rfl⟩, rfl⟩
theorem g_11_154_1 : xFh 11 154 1 0 ∧ xty 1 0 = .int := ⟨⟨"HatsDecide$Hat", List.mem_of_getElem? (i := 80) rfl⟩, rfl⟩
theorem f_11_154_2 : xFh 11 154 2 0 ∧ xkd (xty 2 0) = 0 := ⟨⟨"HatsDecide$Hat", List.mem_of_getElem? (i := 81) rfl⟩, rfl⟩
theorem g_11_154_2 : xFh 11 154 2 0 ∧ xty 2 0 = .int := ⟨⟨"HatsDecide$Hat", List.mem_of_getElem? (i := 81) rfl⟩, rfl⟩
theorem f_11_154_4 : xFh 11 154 4 0 ∧ xkd (xty 4 0) = 0 := ⟨⟨"HatsDecide$Hat", List.mem_of_getElem? (i := 82) rfl⟩, rfl⟩
theorem g_11_154_4 : xFh 11 154 4 0 ∧ xty 4 0 = .int := ⟨⟨"HatsDecide$Hat", List.mem_of_getElem? (i := 82) rfl⟩, rfl⟩
theorem f_11_154_6 : xFh 11 154 6 0 ∧ xkd (xty 6 0) = 0 := ⟨⟨"HatsDecide$Hat", List.mem_of_getElem? (i := 83) rfl⟩, rfl⟩
theorem g_11_154_6 : xFh 11 154 6 0 ∧ xty 6 0 = .int := ⟨⟨"HatsDecide$Hat", List.mem_of_getElem? (i := 83) rfl⟩, rfl⟩
theorem f_11_154_7 : xFh 11 154 7 0 ∧ xkd (xty 7 0) = 0 := ⟨⟨"HatsDecide$Hat", List.mem_of_getElem? (i := 84) rfl⟩, rfl⟩
theorem g_11_154_7 : xFh 11 154 7 0 ∧ xty 7 0 = .int := ⟨⟨"HatsDecide$Hat", List.mem_of_getElem? (i := 84) rfl⟩, rfl⟩
theorem f_11_154_10 : xFh 11 154 10 0 ∧ xkd (xty 10 0) = 0 := ⟨⟨"HatsDecide$Hat", List.mem_of_getElem? (i := 85) rfl⟩, rfl⟩
theorem g_11_154_10 : xFh 11 154 10 0 ∧ xty 10 0 = .int := ⟨⟨"HatsDecide$Hat", List.mem_of_getElem? (i := 85) rfl⟩, rfl⟩
theorem f_2_13_0 : xFh 2 13 0 1 ∧ xkd (xty 0 1) = 0 := ⟨⟨"HatsDecide$Hat", List.mem_of_getElem? (i := 86) rfl⟩, rfl⟩
theorem g_2_13_0 : xFh 2 13 0 1 ∧ xty 0 1 = .int := ⟨⟨"HatsDecide$Hat", List.mem_of_getElem? (i := 86) rfl⟩, rfl⟩
theorem f_2_13_1 : xFh 2 13 1 1 ∧ xkd (xty 1 1) = 0 := ⟨⟨"HatsDecide$Hat", List.mem_of_getElem? (i := 87) rfl⟩, rfl⟩
theorem g_2_13_1 : xFh 2 13 1 1 ∧ xty 1 1 = .int := ⟨⟨"HatsDecide$Hat", List.mem_of_getElem? (i := 87) rfl⟩, rfl⟩
theorem f_2_13_2 : xFh 2 13 2 1 ∧ xkd (xty 2 1) = 0 := ⟨⟨"HatsDecide$Hat", List.mem_of_getElem? (i := 88) rfl⟩, rfl⟩
theorem g_2_13_2 : xFh 2 13 2 1 ∧ xty 2 1 = .int := ⟨⟨"HatsDecide$Hat", List.mem_of_getElem? (i := 88) rfl⟩, rfl⟩
theorem f_2_13_4 : xFh 2 13 4 1 ∧ xkd (xty 4 1) = 0 := ⟨⟨"HatsDecide$Hat", List.mem_of_getElem? (i := 89) rfl⟩, rfl⟩
theorem g_2_13_4 : xFh 2 13 4 1 ∧ xty 4 1 = .int := ⟨⟨"HatsDecide$Hat", List.mem_of_getElem? (i := 89) rfl⟩, rfl⟩
theorem f_2_13_6 : xFh 2 13 6 1 ∧ xkd (xty 6 1) = 0 := ⟨⟨"HatsDecide$Hat", List.mem_of_getElem? (i := 90) rfl⟩, rfl⟩
theorem g_2_13_6 : xFh 2 13 6 1 ∧ xty 6 1 = .int := ⟨⟨"HatsDecide$Hat", List.mem_of_getElem? (i := 90) rfl⟩, rfl⟩
theorem f_2_13_7 : xFh 2 13 7 1 ∧ xkd (xty 7 1) = 0 := ⟨⟨"HatsDecide$Hat", List.mem_of_getElem? (i := 91) rfl⟩, rfl⟩
theorem g_2_13_7 : xFh 2 13 7 1 ∧ xty 7 1 = .int := ⟨⟨"HatsDecide$Hat", List.mem_of_getElem? (i := 91) rfl⟩, rfl⟩
theorem f_2_13_10 : xFh 2 13 10 1 ∧ xkd (xty 10 1) = 0 := ⟨⟨"HatsDecide$Hat", List.mem_of_getElem? (i := 92) rfl⟩, rfl⟩
theorem g_2_13_10 : xFh 2 13 10 1 ∧ xty 10 1 = .int := ⟨⟨"HatsDecide$Hat", List.mem_of_getElem? (i := 92) rfl⟩, rfl⟩
theorem f_1_33_1 : xFh 1 33 1 1 ∧ xkd (xty 1 1) = 0 := ⟨⟨"HatsDecide$Frayed", List.mem_of_getElem? (i := 93) rfl⟩, rfl⟩
theorem g_1_33_1 : xFh 1 33 1 1 ∧ xty 1 1 = .int := ⟨⟨"HatsDecide$Frayed", List.mem_of_getElem? (i := 93) rfl⟩, rfl⟩
theorem f_2_16_0 : xFh 2 16 0 2 ∧ xkd (xty 0 2) = 0 := ⟨⟨"HatsDecide$Hat", List.mem_of_getElem? (i := 94) rfl⟩, rfl⟩
theorem g_2_16_0 : xFh 2 16 0 2 ∧ xty 0 2 = .int := ⟨⟨"HatsDecide$Hat", List.mem_of_getElem? (i := 94) rfl⟩, rfl⟩
theorem f_2_16_1 : xFh 2 16 1 2 ∧ xkd (xty 1 2) = 0 := ⟨⟨"HatsDecide$Hat", List.mem_of_getElem? (i := 95) rfl⟩, rfl⟩
theorem g_2_16_1 : xFh 2 16 1 2 ∧ xty 1 2 = .int := ⟨⟨"HatsDecide$Hat", List.mem_of_getElem? (i := 95) rfl⟩, rfl⟩
theorem f_2_16_2 : xFh 2 16 2 2 ∧ xkd (xty 2 2) = 0 := ⟨⟨"HatsDecide$Hat", List.mem_of_getElem? (i := 96) rfl⟩, rfl⟩
theorem g_2_16_2 : xFh 2 16 2 2 ∧ xty 2 2 = .int := ⟨⟨"HatsDecide$Hat", List.mem_of_getElem? (i := 96) rfl⟩, rfl⟩
theorem f_2_16_4 : xFh 2 16 4 2 ∧ xkd (xty 4 2) = 0 := ⟨⟨"HatsDecide$Hat", List.mem_of_getElem? (i := 97) rfl⟩, rfl⟩
theorem g_2_16_4 : xFh 2 16 4 2 ∧ xty 4 2 = .int := ⟨⟨"HatsDecide$Hat", List.mem_of_getElem? (i := 97) rfl⟩, rfl⟩
theorem f_2_16_6 : xFh 2 16 6 2 ∧ xkd (xty 6 2) = 0 := ⟨⟨"HatsDecide$Hat", List.mem_of_getElem? (i := 98) rfl⟩, rfl⟩
theorem g_2_16_6 : xFh 2 16 6 2 ∧ xty 6 2 = .int := ⟨⟨"HatsDecide$Hat", List.mem_of_getElem? (i := 98) rfl⟩, rfl⟩
theorem f_2_16_7 : xFh 2 16 7 2 ∧ xkd (xty 7 2) = 0 := ⟨⟨"HatsDecide$Hat", List.mem_of_getElem? (i := 99) rfl⟩, rfl⟩
theorem g_2_16_7 : xFh 2 16 7 2 ∧ xty 7 2 = .int := ⟨⟨"HatsDecide$Hat", List.mem_of_getElem? (i := 99) rfl⟩, rfl⟩
theorem f_2_16_10 : xFh 2 16 10 2 ∧ xkd (xty 10 2) = 0 := ⟨⟨"HatsDecide$Hat", List.mem_of_getElem? (i := 100) rfl⟩, rfl⟩
theorem g_2_16_10 : xFh 2 16 10 2 ∧ xty 10 2 = .int := ⟨⟨"HatsDecide$Hat", List.mem_of_getElem? (i := 100) rfl⟩, rfl⟩
theorem f_0_11_0 : xFh 0 11 0 2 ∧ xkd (xty 0 2) = 0 := ⟨⟨"HatsDecide$Crown", List.mem_of_getElem? (i := 101) rfl⟩, rfl⟩
theorem g_0_11_0 : xFh 0 11 0 2 ∧ xty 0 2 = .int := ⟨⟨"HatsDecide$Crown", List.mem_of_getElem? (i := 101) rfl⟩, rfl⟩
theorem f_0_11_7 : xFh 0 11 7 2 ∧ xkd (xty 7 2) = 0 := ⟨⟨"HatsDecide$Crown", List.mem_of_getElem? (i := 102) rfl⟩, rfl⟩
theorem g_0_11_7 : xFh 0 11 7 2 ∧ xty 7 2 = .int := ⟨⟨"HatsDecide$Crown", List.mem_of_getElem? (i := 102) rfl⟩, rfl⟩
theorem f_1_11_1 : xFh 1 11 1 2 ∧ xkd (xty 1 2) = 0 := ⟨⟨"HatsDecide$Frayed", List.mem_of_getElem? (i := 103) rfl⟩, rfl⟩
theorem g_1_11_1 : xFh 1 11 1 2 ∧ xty 1 2 = .int := ⟨⟨"HatsDecide$Frayed", List.mem_of_getElem? (i := 103) rfl⟩, rfl⟩
theorem f_7_30_7 : xFh 7 30 7 2 ∧ xkd (xty 7 2) = 0 := ⟨⟨"HatsDecide$Told", List.mem_of_getElem? (i := 104) rfl⟩, rfl⟩
theorem g_7_30_7 : xFh 7 30 7 2 ∧ xty 7 2 = .int := ⟨⟨"HatsDecide$Told", List.mem_of_getElem? (i := 104) rfl⟩, rfl⟩
theorem f_11_157_0 : xFh 11 157 0 2 ∧ xkd (xty 0 2) = 0 := ⟨⟨"HatsDecide$Hat", List.mem_of_getElem? (i := 105) rfl⟩, rfl⟩
theorem g_11_157_0 : xFh 11 157 0 2 ∧ xty 0 2 = .int := ⟨⟨"HatsDecide$Hat", List.mem_of_getElem? (i := 105) rfl⟩, rfl⟩
theorem f_11_157_1 : xFh 11 157 1 2 ∧ xkd (xty 1 2) = 0 := ⟨⟨"HatsDecide$Hat", List.mem_of_getElem? (i := 106) rfl⟩, rfl⟩
theorem g_11_157_1 : xFh 11 157 1 2 ∧ xty 1 2 = .int := ⟨⟨"HatsDecide$Hat", List.mem_of_getElem? (i := 106) rfl⟩, rfl⟩
theorem f_11_157_2 : xFh 11 157 2 2 ∧ xkd (xty 2 2) = 0 := ⟨⟨"HatsDecide$Hat", List.mem_of_getElem? (i := 107) rfl⟩, rfl⟩
theorem g_11_157_2 : xFh 11 157 2 2 ∧ xty 2 2 = .int := ⟨⟨"HatsDecide$Hat", List.mem_of_getElem? (i := 107) rfl⟩, rfl⟩
theorem f_11_157_4 : xFh 11 157 4 2 ∧ xkd (xty 4 2) = 0 := ⟨⟨"HatsDecide$Hat", List.mem_of_getElem? (i := 108) rfl⟩, rfl⟩
theorem g_11_157_4 : xFh 11 157 4 2 ∧ xty 4 2 = .int := ⟨⟨"HatsDecide$Hat", List.mem_of_getElem? (i := 108) rfl⟩, rfl⟩
theorem f_11_157_6 : xFh 11 157 6 2 ∧ xkd (xty 6 2) = 0 := ⟨⟨"HatsDecide$Hat", List.mem_of_getElem? (i := 109) rfl⟩, rfl⟩
theorem g_11_157_6 : xFh 11 157 6 2 ∧ xty 6 2 = .int := ⟨⟨"HatsDecide$Hat", List.mem_of_getElem? (i := 109) rfl⟩, rfl⟩
theorem f_11_157_7 : xFh 11 157 7 2 ∧ xkd (xty 7 2) = 0 := ⟨⟨"HatsDecide$Hat", List.mem_of_getElem? (i := 110) rfl⟩, rfl⟩
theorem g_11_157_7 : xFh 11 157 7 2 ∧ xty 7 2 = .int := ⟨⟨"HatsDecide$Hat", List.mem_of_getElem? (i := 110) rfl⟩, rfl⟩
theorem f_11_157_10 : xFh 11 157 10 2 ∧ xkd (xty 10 2) = 0 := ⟨⟨"HatsDecide$Hat", List.mem_of_getElem? (i := 111) rfl⟩, rfl⟩
theorem g_11_157_10 : xFh 11 157 10 2 ∧ xty 10 2 = .int := ⟨⟨"HatsDecide$Hat", List.mem_of_getElem? (i := 111) rfl⟩, rfl⟩
theorem f_2_19_0 : xFh 2 19 0 3 ∧ xkd (xty 0 3) = 0 := ⟨⟨"HatsDecide$Hat", List.mem_of_getElem? (i := 112) rfl⟩, rfl⟩
theorem g_2_19_0 : xFh 2 19 0 3 ∧ xty 0 3 = .int := ⟨⟨"HatsDecide$Hat", List.mem_of_getElem? (i := 112) rfl⟩, rfl⟩
theorem f_2_19_1 : xFh 2 19 1 3 ∧ xkd (xty 1 3) = 0 := ⟨⟨"HatsDecide$Hat", List.mem_of_getElem? (i := 113) rfl⟩, rfl⟩
theorem g_2_19_1 : xFh 2 19 1 3 ∧ xty 1 3 = .int := ⟨⟨"HatsDecide$Hat", List.mem_of_getElem? (i := 113) rfl⟩, rfl⟩
theorem f_2_19_2 : xFh 2 19 2 3 ∧ xkd (xty 2 3) = 0 := ⟨⟨"HatsDecide$Hat", List.mem_of_getElem? (i := 114) rfl⟩, rfl⟩
theorem g_2_19_2 : xFh 2 19 2 3 ∧ xty 2 3 = .int := ⟨⟨"HatsDecide$Hat", List.mem_of_getElem? (i := 114) rfl⟩, rfl⟩
theorem f_2_19_4 : xFh 2 19 4 3 ∧ xkd (xty 4 3) = 0 := ⟨⟨"HatsDecide$Hat", List.mem_of_getElem? (i := 115) rfl⟩, rfl⟩
theorem g_2_19_4 : xFh 2 19 4 3 ∧ xty 4 3 = .int := ⟨⟨"HatsDecide$Hat", List.mem_of_getElem? (i := 115) rfl⟩, rfl⟩
theorem f_2_19_6 : xFh 2 19 6 3 ∧ xkd (xty 6 3) = 0 := ⟨⟨"HatsDecide$Hat", List.mem_of_getElem? (i := 116) rfl⟩, rfl⟩
theorem g_2_19_6 : xFh 2 19 6 3 ∧ xty 6 3 = .int := ⟨⟨"HatsDecide$Hat", List.mem_of_getElem? (i := 116) rfl⟩, rfl⟩
theorem f_2_19_7 : xFh 2 19 7 3 ∧ xkd (xty 7 3) = 0 := ⟨⟨"HatsDecide$Hat", List.mem_of_getElem? (i := 117) rfl⟩, rfl⟩
theorem g_2_19_7 : xFh 2 19 7 3 ∧ xty 7 3 = .int := ⟨⟨"HatsDecide$Hat", List.mem_of_getElem? (i := 117) rfl⟩, rfl⟩
theorem f_2_19_10 : xFh 2 19 10 3 ∧ xkd (xty 10 3) = 0 := ⟨⟨"HatsDecide$Hat", List.mem_of_getElem? (i := 118) rfl⟩, rfl⟩
theorem g_2_19_10 : xFh 2 19 10 3 ∧ xty 10 3 = .int := ⟨⟨"HatsDecide$Hat", List.mem_of_getElem? (i := 118) rfl⟩, rfl⟩
theorem f_11_160_0 : xFh 11 160 0 3 ∧ xkd (xty 0 3) = 0 := ⟨⟨"HatsDecide$Hat", List.mem_of_getElem? (i := 119) rfl⟩, rfl⟩
theorem g_11_160_0 : xFh 11 160 0 3 ∧ xty 0 3 = .int := ⟨⟨"HatsDecide$Hat", List.mem_of_getElem? (i := 119) rfl⟩, rfl⟩
theorem f_11_160_1 : xFh 11 160 1 3 ∧ xkd (xty 1 3) = 0 := ⟨⟨"HatsDecide$Hat", List.mem_of_getElem? (i := 120) rfl⟩, rfl⟩
theorem g_11_160_1 : xFh 11 160 1 3 ∧ xty 1 3 = .int := ⟨⟨"HatsDecide$Hat", List.mem_of_getElem? (i := 120) rfl⟩, rfl⟩
theorem f_11_160_2 : xFh 11 160 2 3 ∧ xkd (xty 2 3) = 0 := ⟨⟨"HatsDecide$Hat", List.mem_of_getElem? (i := 121) rfl⟩, rfl⟩
theorem g_11_160_2 : xFh 11 160 2 3 ∧ xty 2 3 = .int := ⟨⟨"HatsDecide$Hat", List.mem_of_getElem? (i := 121) rfl⟩, rfl⟩
theorem f_11_160_4 : xFh 11 160 4 3 ∧ xkd (xty 4 3) = 0 := ⟨⟨"HatsDecide$Hat", List.mem_of_getElem? (i := 122) rfl⟩, rfl⟩
theorem g_11_160_4 : xFh 11 160 4 3 ∧ xty 4 3 = .int := ⟨⟨"HatsDecide$Hat", List.mem_of_getElem? (i := 122) rfl⟩, rfl⟩
theorem f_11_160_6 : xFh 11 160 6 3 ∧ xkd (xty 6 3) = 0 := ⟨⟨"HatsDecide$Hat", List.mem_of_getElem? (i := 123) rfl⟩, rfl⟩
theorem g_11_160_6 : xFh 11 160 6 3 ∧ xty 6 3 = .int := ⟨⟨"HatsDecide$Hat", List.mem_of_getElem? (i := 123) rfl⟩, rfl⟩
theorem f_11_160_7 : xFh 11 160 7 3 ∧ xkd (xty 7 3) = 0 := ⟨⟨"HatsDecide$Hat", List.mem_of_getElem? (i := 124) rfl⟩, rfl⟩
theorem g_11_160_7 : xFh 11 160 7 3 ∧ xty 7 3 = .int := ⟨⟨"HatsDecide$Hat", List.mem_of_getElem? (i := 124) rfl⟩, rfl⟩
theorem f_11_160_10 : xFh 11 160 10 3 ∧ xkd (xty 10 3) = 0 := ⟨⟨"HatsDecide$Hat", List.mem_of_getElem? (i := 125) rfl⟩, rfl⟩
theorem g_11_160_10 : xFh 11 160 10 3 ∧ xty 10 3 = .int := ⟨⟨"HatsDecide$Hat", List.mem_of_getElem? (i := 125) rfl⟩, rfl⟩
theorem f_2_22_0 : xFh 2 22 0 4 ∧ xkd (xty 0 4) = 0 := ⟨⟨"HatsDecide$Hat", List.mem_of_getElem? (i := 126) rfl⟩, rfl⟩
theorem g_2_22_0 : xFh 2 22 0 4 ∧ xty 0 4 = .int := ⟨⟨"HatsDecide$Hat", List.mem_of_getElem? (i := 126) rfl⟩, rfl⟩
theorem f_2_22_1 : xFh 2 22 1 4 ∧ xkd (xty 1 4) = 0 := ⟨⟨"HatsDecide$Hat", List.mem_of_getElem? (i := 127) rfl⟩, rfl⟩
theorem g_2_22_1 : xFh 2 22 1 4 ∧ xty 1 4 = .int := ⟨⟨"HatsDecide$Hat", List.mem_of_getElem? (i := 127) rfl⟩, rfl⟩
theorem f_2_22_2 : xFh 2 22 2 4 ∧ xkd (xty 2 4) = 0 := ⟨⟨"HatsDecide$Hat", List.mem_of_getElem? (i := 128) rfl⟩, rfl⟩
theorem g_2_22_2 : xFh 2 22 2 4 ∧ xty 2 4 = .int := ⟨⟨"HatsDecide$Hat", List.mem_of_getElem? (i := 128) rfl⟩, rfl⟩
theorem f_2_22_4 : xFh 2 22 4 4 ∧ xkd (xty 4 4) = 0 := ⟨⟨"HatsDecide$Hat", List.mem_of_getElem? (i := 129) rfl⟩, rfl⟩
theorem g_2_22_4 : xFh 2 22 4 4 ∧ xty 4 4 = .int := ⟨⟨"HatsDecide$Hat", List.mem_of_getElem? (i := 129) rfl⟩, rfl⟩
theorem f_2_22_6 : xFh 2 22 6 4 ∧ xkd (xty 6 4) = 0 := ⟨⟨"HatsDecide$Hat", List.mem_of_getElem? (i := 130) rfl⟩, rfl⟩
theorem g_2_22_6 : xFh 2 22 6 4 ∧ xty 6 4 = .int := ⟨⟨"HatsDecide$Hat", List.mem_of_getElem? (i := 130) rfl⟩, rfl⟩
theorem f_2_22_7 : xFh 2 22 7 4 ∧ xkd (xty 7 4) = 0 := ⟨⟨"HatsDecide$Hat", List.mem_of_getElem? (i := 131) rfl⟩, rfl⟩
theorem g_2_22_7 : xFh 2 22 7 4 ∧ xty 7 4 = .int := ⟨⟨"HatsDecide$Hat", List.mem_of_getElem? (i := 131) rfl⟩, rfl⟩
theorem f_2_22_10 : xFh 2 22 10 4 ∧ xkd (xty 10 4) = 0 := ⟨⟨"HatsDecide$Hat", List.mem_of_getElem? (i := 132) rfl⟩, rfl⟩
theorem g_2_22_10 : xFh 2 22 10 4 ∧ xty 10 4 = .int := ⟨⟨"HatsDecide$Hat", List.mem_of_getElem? (i := 132) rfl⟩, rfl⟩
theorem f_11_163_0 : xFh 11 163 0 4 ∧ xkd (xty 0 4) = 0 := ⟨⟨"HatsDecide$Hat", List.mem_of_getElem? (i := 133) rfl⟩, rfl⟩
theorem g_11_163_0 : xFh 11 163 0 4 ∧ xty 0 4 = .int := ⟨⟨"HatsDecide$Hat", List.mem_of_getElem? (i := 133) rfl⟩, rfl⟩
theorem f_11_163_1 : xFh 11 163 1 4 ∧ xkd (xty 1 4) = 0 := ⟨⟨"HatsDecide$Hat", List.mem_of_getElem? (i := 134) rfl⟩, rfl⟩
theorem g_11_163_1 : xFh 11 163 1 4 ∧ xty 1 4 = .int := ⟨⟨"HatsDecide$Hat", List.mem_of_getElem? (i := 134) rfl⟩, rfl⟩
theorem f_11_163_2 : xFh 11 163 2 4 ∧ xkd (xty 2 4) = 0 := ⟨⟨"HatsDecide$Hat", List.mem_of_getElem? (i := 135) rfl⟩, rfl⟩
theorem g_11_163_2 : xFh 11 163 2 4 ∧ xty 2 4 = .int := ⟨⟨"HatsDecide$Hat", List.mem_of_getElem? (i := 135) rfl⟩, rfl⟩
theorem f_11_163_4 : xFh 11 163 4 4 ∧ xkd (xty 4 4) = 0 := ⟨⟨"HatsDecide$Hat", List.mem_of_getElem? (i := 136) rfl⟩, rfl⟩
theorem g_11_163_4 : xFh 11 163 4 4 ∧ xty 4 4 = .int := ⟨⟨"HatsDecide$Hat", List.mem_of_getElem? (i := 136) rfl⟩, rfl⟩
theorem f_11_163_6 : xFh 11 163 6 4 ∧ xkd (xty 6 4) = 0 := ⟨⟨"HatsDecide$Hat", List.mem_of_getElem? (i := 137) rfl⟩, rfl⟩
theorem g_11_163_6 : xFh 11 163 6 4 ∧ xty 6 4 = .int := ⟨⟨"HatsDecide$Hat", List.mem_of_getElem? (i := 137) rfl⟩, rfl⟩
theorem f_11_163_7 : xFh 11 163 7 4 ∧ xkd (xty 7 4) = 0 := ⟨⟨"HatsDecide$Hat", List.mem_of_getElem? (i := 138) rfl⟩, rfl⟩
theorem g_11_163_7 : xFh 11 163 7 4 ∧ xty 7 4 = .int := ⟨⟨"HatsDecide$Hat", List.mem_of_getElem? (i := 138) rfl⟩, rfl⟩
theorem f_11_163_10 : xFh 11 163 10 4 ∧ xkd (xty 10 4) = 0 := ⟨⟨"HatsDecide$Hat", List.mem_of_getElem? (i := 139) rfl⟩, rfl⟩
theorem g_11_163_10 : xFh 11 163 10 4 ∧ xty 10 4 = .int := ⟨⟨"HatsDecide$Hat", List.mem_of_getElem? (i := 139) rfl⟩, rfl⟩
theorem f_2_25_0 : xFh 2 25 0 5 ∧ xkd (xty 0 5) = 2 := ⟨⟨"HatsDecide$Hat", List.mem_of_getElem? (i := 140) rfl⟩, rfl⟩
theorem f_2_25_1 : xFh 2 25 1 5 ∧ xkd (xty 1 5) = 2 := ⟨⟨"HatsDecide$Hat", List.mem_of_getElem? (i := 141) rfl⟩, rfl⟩
theorem f_2_25_2 : xFh 2 25 2 5 ∧ xkd (xty 2 5) = 2 := ⟨⟨"HatsDecide$Hat", List.mem_of_getElem? (i := 142) rfl⟩, rfl⟩
theorem f_2_25_4 : xFh 2 25 4 5 ∧ xkd (xty 4 5) = 2 := ⟨⟨"HatsDecide$Hat", List.mem_of_getElem? (i := 143) rfl⟩, rfl⟩
theorem f_2_25_6 : xFh 2 25 6 5 ∧ xkd (xty 6 5) = 2 := ⟨⟨"HatsDecide$Hat", List.mem_of_getElem? (i := 144) rfl⟩, rfl⟩
theorem f_2_25_7 : xFh 2 25 7 5 ∧ xkd (xty 7 5) = 2 := ⟨⟨"HatsDecide$Hat", List.mem_of_getElem? (i := 145) rfl⟩, rfl⟩
theorem f_2_25_10 : xFh 2 25 10 5 ∧ xkd (xty 10 5) = 2 := ⟨⟨"HatsDecide$Hat", List.mem_of_getElem? (i := 146) rfl⟩, rfl⟩
theorem f_10_17_10 : xFh 10 17 10 5 ∧ xkd (xty 10 5) = 2 := ⟨⟨"HatsDecide$Worn", List.mem_of_getElem? (i := 147) rfl⟩, rfl⟩
theorem f_10_17_1 : xFh 10 17 1 5 ∧ xkd (xty 1 5) = 2 := ⟨⟨"HatsDecide$Worn", List.mem_of_getElem? (i := 148) rfl⟩, rfl⟩
theorem f_4_11_4 : xFh 4 11 4 5 ∧ xkd (xty 4 5) = 2 := ⟨⟨"HatsDecide$Stiff", List.mem_of_getElem? (i := 149) rfl⟩, rfl⟩
theorem f_6_17_6 : xFh 6 17 6 5 ∧ xkd (xty 6 5) = 2 := ⟨⟨"HatsDecide$Tight", List.mem_of_getElem? (i := 150) rfl⟩, rfl⟩
theorem f_6_17_4 : xFh 6 17 4 5 ∧ xkd (xty 4 5) = 2 := ⟨⟨"HatsDecide$Tight", List.mem_of_getElem? (i := 151) rfl⟩, rfl⟩
theorem f_7_11_7 : xFh 7 11 7 5 ∧ xkd (xty 7 5) = 2 := ⟨⟨"HatsDecide$Told", List.mem_of_getElem? (i := 152) rfl⟩, rfl⟩
theorem f_0_17_0 : xFh 0 17 0 5 ∧ xkd (xty 0 5) = 2 := ⟨⟨"HatsDecide$Crown", List.mem_of_getElem? (i := 153) rfl⟩, rfl⟩
theorem f_0_17_7 : xFh 0 17 7 5 ∧ xkd (xty 7 5) = 2 := ⟨⟨"HatsDecide$Crown", List.mem_of_getElem? (i := 154) rfl⟩, rfl⟩
theorem f_1_23_1 : xFh 1 23 1 5 ∧ xkd (xty 1 5) = 2 := ⟨⟨"HatsDecide$Frayed", List.mem_of_getElem? (i := 155) rfl⟩, rfl⟩
theorem f_12_7_12 : xFh 12 7 12 0 ∧ xkd (xty 12 0) = 0 := ⟨⟨"HatsDecideModel", List.mem_of_getElem? (i := 156) rfl⟩, rfl⟩
theorem g_12_7_12 : xFh 12 7 12 0 ∧ xty 12 0 = .int := ⟨⟨"HatsDecideModel", List.mem_of_getElem? (i := 156) rfl⟩, rfl⟩
theorem f_12_13_12 : xFh 12 13 12 1 ∧ xkd (xty 12 1) = 0 := ⟨⟨"HatsDecideModel", List.mem_of_getElem? (i := 157) rfl⟩, rfl⟩
theorem g_12_13_12 : xFh 12 13 12 1 ∧ xty 12 1 = .int := ⟨⟨"HatsDecideModel", List.mem_of_getElem? (i := 157) rfl⟩, rfl⟩
theorem f_12_16_12 : xFh 12 16 12 2 ∧ xkd (xty 12 2) = 0 := ⟨⟨"HatsDecideModel", List.mem_of_getElem? (i := 158) rfl⟩, rfl⟩
theorem g_12_16_12 : xFh 12 16 12 2 ∧ xty 12 2 = .int := ⟨⟨"HatsDecideModel", List.mem_of_getElem? (i := 158) rfl⟩, rfl⟩
theorem f_12_19_12 : xFh 12 19 12 3 ∧ xkd (xty 12 3) = 2 := ⟨⟨"HatsDecideModel", List.mem_of_getElem? (i := 159) rfl⟩, rfl⟩
theorem f_12_23_12 : xFh 12 23 12 4 ∧ xkd (xty 12 4) = 2 := ⟨⟨"HatsDecideModel", List.mem_of_getElem? (i := 160) rfl⟩, rfl⟩
theorem f_12_26_12 : xFh 12 26 12 5 ∧ xkd (xty 12 5) = 2 := ⟨⟨"HatsDecideModel", List.mem_of_getElem? (i := 161) rfl⟩, rfl⟩
theorem f_12_29_12 : xFh 12 29 12 6 ∧ xkd (xty 12 6) = 2 := ⟨⟨"HatsDecideModel", List.mem_of_getElem? (i := 162) rfl⟩, rfl⟩
theorem f_12_32_12 : xFh 12 32 12 7 ∧ xkd (xty 12 7) = 2 := ⟨⟨"HatsDecideModel", List.mem_of_getElem? (i := 163) rfl⟩, rfl⟩
theorem f_12_35_12 : xFh 12 35 12 8 ∧ xkd (xty 12 8) = 2 := ⟨⟨"HatsDecideModel", List.mem_of_getElem? (i := 164) rfl⟩, rfl⟩
theorem f_12_38_12 : xFh 12 38 12 9 ∧ xkd (xty 12 9) = 2 := ⟨⟨"HatsDecideModel", List.mem_of_getElem? (i := 165) rfl⟩, rfl⟩
theorem f_12_41_12 : xFh 12 41 12 10 ∧ xkd (xty 12 10) = 2 := ⟨⟨"HatsDecideModel", List.mem_of_getElem? (i := 166) rfl⟩, rfl⟩
theorem f_12_44_12 : xFh 12 44 12 11 ∧ xkd (xty 12 11) = 2 := ⟨⟨"HatsDecideModel", List.mem_of_getElem? (i := 167) rfl⟩, rfl⟩
theorem f_12_47_12 : xFh 12 47 12 12 ∧ xkd (xty 12 12) = 2 := ⟨⟨"HatsDecideModel", List.mem_of_getElem? (i := 168) rfl⟩, rfl⟩
theorem f_12_50_12 : xFh 12 50 12 13 ∧ xkd (xty 12 13) = 2 := ⟨⟨"HatsDecideModel", List.mem_of_getElem? (i := 169) rfl⟩, rfl⟩
theorem f_12_53_12 : xFh 12 53 12 14 ∧ xkd (xty 12 14) = 0 := ⟨⟨"HatsDecideModel", List.mem_of_getElem? (i := 170) rfl⟩, rfl⟩
theorem g_12_53_12 : xFh 12 53 12 14 ∧ xty 12 14 = .int := ⟨⟨"HatsDecideModel", List.mem_of_getElem? (i := 170) rfl⟩, rfl⟩
theorem f_12_56_12 : xFh 12 56 12 15 ∧ xkd (xty 12 15) = 0 := ⟨⟨"HatsDecideModel", List.mem_of_getElem? (i := 171) rfl⟩, rfl⟩
theorem g_12_56_12 : xFh 12 56 12 15 ∧ xty 12 15 = .int := ⟨⟨"HatsDecideModel", List.mem_of_getElem? (i := 171) rfl⟩, rfl⟩
theorem f_12_59_12 : xFh 12 59 12 16 ∧ xkd (xty 12 16) = 0 := ⟨⟨"HatsDecideModel", List.mem_of_getElem? (i := 172) rfl⟩, rfl⟩
theorem g_12_59_12 : xFh 12 59 12 16 ∧ xty 12 16 = .int := ⟨⟨"HatsDecideModel", List.mem_of_getElem? (i := 172) rfl⟩, rfl⟩
theorem f_12_62_12 : xFh 12 62 12 17 ∧ xkd (xty 12 17) = 0 := ⟨⟨"HatsDecideModel", List.mem_of_getElem? (i := 173) rfl⟩, rfl⟩
theorem g_12_62_12 : xFh 12 62 12 17 ∧ xty 12 17 = .int := ⟨⟨"HatsDecideModel", List.mem_of_getElem? (i := 173) rfl⟩, rfl⟩
theorem f_12_65_12 : xFh 12 65 12 18 ∧ xkd (xty 12 18) = 0 := ⟨⟨"HatsDecideModel", List.mem_of_getElem? (i := 174) rfl⟩, rfl⟩
theorem g_12_65_12 : xFh 12 65 12 18 ∧ xty 12 18 = .int := ⟨⟨"HatsDecideModel", List.mem_of_getElem? (i := 174) rfl⟩, rfl⟩
theorem f_12_68_12 : xFh 12 68 12 19 ∧ xkd (xty 12 19) = 2 := ⟨⟨"HatsDecideModel", List.mem_of_getElem? (i := 175) rfl⟩, rfl⟩
theorem f_12_71_12 : xFh 12 71 12 20 ∧ xkd (xty 12 20) = 2 := ⟨⟨"HatsDecideModel", List.mem_of_getElem? (i := 176) rfl⟩, rfl⟩
theorem f_12_74_12 : xFh 12 74 12 21 ∧ xkd (xty 12 21) = 2 := ⟨⟨"HatsDecideModel", List.mem_of_getElem? (i := 177) rfl⟩, rfl⟩
theorem f_12_77_12 : xFh 12 77 12 22 ∧ xkd (xty 12 22) = 2 := ⟨⟨"HatsDecideModel", List.mem_of_getElem? (i := 178) rfl⟩, rfl⟩
theorem f_12_80_12 : xFh 12 80 12 23 ∧ xkd (xty 12 23) = 2 := ⟨⟨"HatsDecideModel", List.mem_of_getElem? (i := 179) rfl⟩, rfl⟩
theorem f_12_83_12 : xFh 12 83 12 24 ∧ xkd (xty 12 24) = 2 := ⟨⟨"HatsDecideModel", List.mem_of_getElem? (i := 180) rfl⟩, rfl⟩
theorem f_12_86_12 : xFh 12 86 12 25 ∧ xkd (xty 12 25) = 2 := ⟨⟨"HatsDecideModel", List.mem_of_getElem? (i := 181) rfl⟩, rfl⟩
theorem f_12_89_12 : xFh 12 89 12 26 ∧ xkd (xty 12 26) = 2 := ⟨⟨"HatsDecideModel", List.mem_of_getElem? (i := 182) rfl⟩, rfl⟩
theorem f_12_92_12 : xFh 12 92 12 27 ∧ xkd (xty 12 27) = 2 := ⟨⟨"HatsDecideModel", List.mem_of_getElem? (i := 183) rfl⟩, rfl⟩
theorem f_12_95_12 : xFh 12 95 12 28 ∧ xkd (xty 12 28) = 0 := ⟨⟨"HatsDecideModel", List.mem_of_getElem? (i := 184) rfl⟩, rfl⟩
theorem g_12_95_12 : xFh 12 95 12 28 ∧ xty 12 28 = .int := ⟨⟨"HatsDecideModel", List.mem_of_getElem? (i := 184) rfl⟩, rfl⟩
theorem f_12_98_12 : xFh 12 98 12 29 ∧ xkd (xty 12 29) = 0 := ⟨⟨"HatsDecideModel", List.mem_of_getElem? (i := 185) rfl⟩, rfl⟩
theorem g_12_98_12 : xFh 12 98 12 29 ∧ xty 12 29 = .int := ⟨⟨"HatsDecideModel", List.mem_of_getElem? (i := 185) rfl⟩, rfl⟩
theorem f_12_101_12 : xFh 12 101 12 30 ∧ xkd (xty 12 30) = 0 := ⟨⟨"HatsDecideModel", List.mem_of_getElem? (i := 186) rfl⟩, rfl⟩
theorem g_12_101_12 : xFh 12 101 12 30 ∧ xty 12 30 = .int := ⟨⟨"HatsDecideModel", List.mem_of_getElem? (i := 186) rfl⟩, rfl⟩
theorem f_12_104_12 : xFh 12 104 12 31 ∧ xkd (xty 12 31) = 2 := ⟨⟨"HatsDecideModel", List.mem_of_getElem? (i := 187) rfl⟩, rfl⟩
theorem f_12_107_12 : xFh 12 107 12 32 ∧ xkd (xty 12 32) = 2 := ⟨⟨"HatsDecideModel", List.mem_of_getElem? (i := 188) rfl⟩, rfl⟩
theorem f_12_111_12 : xFh 12 111 12 33 ∧ xkd (xty 12 33) = 0 := ⟨⟨"HatsDecideModel", List.mem_of_getElem? (i := 189) rfl⟩, rfl⟩
theorem g_12_111_12 : xFh 12 111 12 33 ∧ xty 12 33 = .int := ⟨⟨"HatsDecideModel", List.mem_of_getElem? (i := 189) rfl⟩, rfl⟩
theorem f_12_114_12 : xFh 12 114 12 34 ∧ xkd (xty 12 34) = 2 := ⟨⟨"HatsDecideModel", List.mem_of_getElem? (i := 190) rfl⟩, rfl⟩
theorem f_12_117_12 : xFh 12 117 12 35 ∧ xkd (xty 12 35) = 0 := ⟨⟨"HatsDecideModel", List.mem_of_getElem? (i := 191) rfl⟩, rfl⟩
theorem g_12_117_12 : xFh 12 117 12 35 ∧ xty 12 35 = .int := ⟨⟨"HatsDecideModel", List.mem_of_getElem? (i := 191) rfl⟩, rfl⟩
theorem f_12_120_12 : xFh 12 120 12 36 ∧ xkd (xty 12 36) = 2 := ⟨⟨"HatsDecideModel", List.mem_of_getElem? (i := 192) rfl⟩, rfl⟩
theorem f_12_123_12 : xFh 12 123 12 37 ∧ xkd (xty 12 37) = 2 := ⟨⟨"HatsDecideModel", List.mem_of_getElem? (i := 193) rfl⟩, rfl⟩
theorem f_12_126_12 : xFh 12 126 12 38 ∧ xkd (xty 12 38) = 2 := ⟨⟨"HatsDecideModel", List.mem_of_getElem? (i := 194) rfl⟩, rfl⟩
theorem f_12_129_12 : xFh 12 129 12 39 ∧ xkd (xty 12 39) = 2 := ⟨⟨"HatsDecideModel", List.mem_of_getElem? (i := 195) rfl⟩, rfl⟩
theorem f_12_132_12 : xFh 12 132 12 40 ∧ xkd (xty 12 40) = 0 := ⟨⟨"HatsDecideModel", List.mem_of_getElem? (i := 196) rfl⟩, rfl⟩
theorem g_12_132_12 : xFh 12 132 12 40 ∧ xty 12 40 = .int := ⟨⟨"HatsDecideModel", List.mem_of_getElem? (i := 196) rfl⟩, rfl⟩
theorem f_12_135_12 : xFh 12 135 12 41 ∧ xkd (xty 12 41) = 2 := ⟨⟨"HatsDecideModel", List.mem_of_getElem? (i := 197) rfl⟩, rfl⟩
theorem f_12_138_12 : xFh 12 138 12 42 ∧ xkd (xty 12 42) = 2 := ⟨⟨"HatsDecideModel", List.mem_of_getElem? (i := 198) rfl⟩, rfl⟩
theorem f_12_141_12 : xFh 12 141 12 43 ∧ xkd (xty 12 43) = 0 := ⟨⟨"HatsDecideModel", List.mem_of_getElem? (i := 199) rfl⟩, rfl⟩
theorem g_12_141_12 : xFh 12 141 12 43 ∧ xty 12 43 = .int := ⟨⟨"HatsDecideModel", List.mem_of_getElem? (i := 199) rfl⟩, rfl⟩
theorem f_12_144_12 : xFh 12 144 12 44 ∧ xkd (xty 12 44) = 2 := ⟨⟨"HatsDecideModel", List.mem_of_getElem? (i := 200) rfl⟩, rfl⟩
theorem f_12_147_12 : xFh 12 147 12 45 ∧ xkd (xty 12 45) = 2 := ⟨⟨"HatsDecideModel", List.mem_of_getElem? (i := 201) rfl⟩, rfl⟩
theorem f_12_150_12 : xFh 12 150 12 46 ∧ xkd (xty 12 46) = 2 := ⟨⟨"HatsDecideModel", List.mem_of_getElem? (i := 202) rfl⟩, rfl⟩
theorem f_12_153_12 : xFh 12 153 12 47 ∧ xkd (xty 12 47) = 0 := ⟨⟨"HatsDecideModel", List.mem_of_getElem? (i := 203) rfl⟩, rfl⟩
theorem g_12_153_12 : xFh 12 153 12 47 ∧ xty 12 47 = .int := ⟨⟨"HatsDecideModel", List.mem_of_getElem? (i := 203) rfl⟩, rfl⟩
theorem f_12_156_12 : xFh 12 156 12 48 ∧ xkd (xty 12 48) = 2 := ⟨⟨"HatsDecideModel", List.mem_of_getElem? (i := 204) rfl⟩, rfl⟩
theorem f_12_159_12 : xFh 12 159 12 49 ∧ xkd (xty 12 49) = 2 := ⟨⟨"HatsDecideModel", List.mem_of_getElem? (i := 205) rfl⟩, rfl⟩
theorem f_12_162_12 : xFh 12 162 12 50 ∧ xkd (xty 12 50) = 0 := ⟨⟨"HatsDecideModel", List.mem_of_getElem? (i := 206) rfl⟩, rfl⟩
theorem g_12_162_12 : xFh 12 162 12 50 ∧ xty 12 50 = .boolean := ⟨⟨"HatsDecideModel", List.mem_of_getElem? (i := 206) rfl⟩, rfl⟩
theorem f_12_166_12 : xFh 12 166 12 51 ∧ xkd (xty 12 51) = 0 := ⟨⟨"HatsDecideModel", List.mem_of_getElem? (i := 207) rfl⟩, rfl⟩
theorem g_12_166_12 : xFh 12 166 12 51 ∧ xty 12 51 = .int := ⟨⟨"HatsDecideModel", List.mem_of_getElem? (i := 207) rfl⟩, rfl⟩
theorem f_12_169_12 : xFh 12 169 12 52 ∧ xkd (xty 12 52) = 0 := ⟨⟨"HatsDecideModel", List.mem_of_getElem? (i := 208) rfl⟩, rfl⟩
theorem g_12_169_12 : xFh 12 169 12 52 ∧ xty 12 52 = .int := ⟨⟨"HatsDecideModel", List.mem_of_getElem? (i := 208) rfl⟩, rfl⟩
theorem f_12_172_12 : xFh 12 172 12 53 ∧ xkd (xty 12 53) = 0 := ⟨⟨"HatsDecideModel", List.mem_of_getElem? (i := 209) rfl⟩, rfl⟩
theorem g_12_172_12 : xFh 12 172 12 53 ∧ xty 12 53 = .int := ⟨⟨"HatsDecideModel", List.mem_of_getElem? (i := 209) rfl⟩, rfl⟩
theorem f_12_175_12 : xFh 12 175 12 54 ∧ xkd (xty 12 54) = 0 := ⟨⟨"HatsDecideModel", List.mem_of_getElem? (i := 210) rfl⟩, rfl⟩
theorem g_12_175_12 : xFh 12 175 12 54 ∧ xty 12 54 = .int := ⟨⟨"HatsDecideModel", List.mem_of_getElem? (i := 210) rfl⟩, rfl⟩
theorem f_12_178_12 : xFh 12 178 12 55 ∧ xkd (xty 12 55) = 0 := ⟨⟨"HatsDecideModel", List.mem_of_getElem? (i := 211) rfl⟩, rfl⟩
theorem g_12_178_12 : xFh 12 178 12 55 ∧ xty 12 55 = .int := ⟨⟨"HatsDecideModel", List.mem_of_getElem? (i := 211) rfl⟩, rfl⟩
theorem f_12_181_12 : xFh 12 181 12 56 ∧ xkd (xty 12 56) = 0 := ⟨⟨"HatsDecideModel", List.mem_of_getElem? (i := 212) rfl⟩, rfl⟩
theorem g_12_181_12 : xFh 12 181 12 56 ∧ xty 12 56 = .int := ⟨⟨"HatsDecideModel", List.mem_of_getElem? (i := 212) rfl⟩, rfl⟩
theorem f_12_184_12 : xFh 12 184 12 57 ∧ xkd (xty 12 57) = 2 := ⟨⟨"HatsDecideModel", List.mem_of_getElem? (i := 213) rfl⟩, rfl⟩
theorem f_12_187_12 : xFh 12 187 12 58 ∧ xkd (xty 12 58) = 2 := ⟨⟨"HatsDecideModel", List.mem_of_getElem? (i := 214) rfl⟩, rfl⟩
theorem f_12_190_12 : xFh 12 190 12 59 ∧ xkd (xty 12 59) = 2 := ⟨⟨"HatsDecideModel", List.mem_of_getElem? (i := 215) rfl⟩, rfl⟩
theorem f_12_193_12 : xFh 12 193 12 60 ∧ xkd (xty 12 60) = 2 := ⟨⟨"HatsDecideModel", List.mem_of_getElem? (i := 216) rfl⟩, rfl⟩
theorem f_12_196_12 : xFh 12 196 12 61 ∧ xkd (xty 12 61) = 2 := ⟨⟨"HatsDecideModel", List.mem_of_getElem? (i := 217) rfl⟩, rfl⟩
theorem f_12_199_12 : xFh 12 199 12 62 ∧ xkd (xty 12 62) = 2 := ⟨⟨"HatsDecideModel", List.mem_of_getElem? (i := 218) rfl⟩, rfl⟩
theorem f_12_202_12 : xFh 12 202 12 63 ∧ xkd (xty 12 63) = 2 := ⟨⟨"HatsDecideModel", List.mem_of_getElem? (i := 219) rfl⟩, rfl⟩
theorem f_12_205_12 : xFh 12 205 12 64 ∧ xkd (xty 12 64) = 2 := ⟨⟨"HatsDecideModel", List.mem_of_getElem? (i := 220) rfl⟩, rfl⟩
theorem f_12_208_12 : xFh 12 208 12 65 ∧ xkd (xty 12 65) = 2 := ⟨⟨"HatsDecideModel", List.mem_of_getElem? (i := 221) rfl⟩, rfl⟩
theorem f_12_211_12 : xFh 12 211 12 66 ∧ xkd (xty 12 66) = 2 := ⟨⟨"HatsDecideModel", List.mem_of_getElem? (i := 222) rfl⟩, rfl⟩
theorem f_12_214_12 : xFh 12 214 12 67 ∧ xkd (xty 12 67) = 2 := ⟨⟨"HatsDecideModel", List.mem_of_getElem? (i := 223) rfl⟩, rfl⟩
theorem f_12_217_12 : xFh 12 217 12 68 ∧ xkd (xty 12 68) = 2 := ⟨⟨"HatsDecideModel", List.mem_of_getElem? (i := 224) rfl⟩, rfl⟩
theorem f_12_220_12 : xFh 12 220 12 69 ∧ xkd (xty 12 69) = 2 := ⟨⟨"HatsDecideModel", List.mem_of_getElem? (i := 225) rfl⟩, rfl⟩
theorem f_12_223_12 : xFh 12 223 12 70 ∧ xkd (xty 12 70) = 2 := ⟨⟨"HatsDecideModel", List.mem_of_getElem? (i := 226) rfl⟩, rfl⟩
theorem f_12_226_12 : xFh 12 226 12 71 ∧ xkd (xty 12 71) = 2 := ⟨⟨"HatsDecideModel", List.mem_of_getElem? (i := 227) rfl⟩, rfl⟩
theorem f_12_229_12 : xFh 12 229 12 72 ∧ xkd (xty 12 72) = 0 := ⟨⟨"HatsDecideModel", List.mem_of_getElem? (i := 228) rfl⟩, rfl⟩
theorem g_12_229_12 : xFh 12 229 12 72 ∧ xty 12 72 = .int := ⟨⟨"HatsDecideModel", List.mem_of_getElem? (i := 228) rfl⟩, rfl⟩
theorem f_12_232_12 : xFh 12 232 12 73 ∧ xkd (xty 12 73) = 2 := ⟨⟨"HatsDecideModel", List.mem_of_getElem? (i := 229) rfl⟩, rfl⟩
theorem f_12_235_12 : xFh 12 235 12 74 ∧ xkd (xty 12 74) = 2 := ⟨⟨"HatsDecideModel", List.mem_of_getElem? (i := 230) rfl⟩, rfl⟩
theorem f_12_238_12 : xFh 12 238 12 75 ∧ xkd (xty 12 75) = 2 := ⟨⟨"HatsDecideModel", List.mem_of_getElem? (i := 231) rfl⟩, rfl⟩
theorem f_12_241_12 : xFh 12 241 12 76 ∧ xkd (xty 12 76) = 2 := ⟨⟨"HatsDecideModel", List.mem_of_getElem? (i := 232) rfl⟩, rfl⟩
theorem f_12_245_12 : xFh 12 245 12 77 ∧ xkd (xty 12 77) = 2 := ⟨⟨"HatsDecideModel", List.mem_of_getElem? (i := 233) rfl⟩, rfl⟩
theorem c_0_1 : xCi 0 1 6 6 := ⟨1, List.mem_of_getElem? (i := 0) rfl, by decide, Nat.le_of_ble_eq_true rfl⟩
theorem c_0_7 : xCu 0 7 7 4 := ⟨2, List.mem_of_getElem? (i := 1) rfl, by decide, Nat.le_of_ble_eq_true rfl⟩
theorem c_0_21_9 : xCv 0 21 9 50 1 := ⟨3, List.mem_of_getElem? (i := 2) rfl, by decide, Nat.le_of_ble_eq_true rfl⟩
theorem c_0_27 : xCu 0 27 10 1 := ⟨2, List.mem_of_getElem? (i := 3) rfl, by decide, Nat.le_of_ble_eq_true rfl⟩
theorem c_0_31_0 : xCv 0 31 0 9 1 := ⟨5, List.mem_of_getElem? (i := 4) rfl, by decide, Nat.le_of_ble_eq_true rfl⟩
theorem c_0_31_7 : xCv 0 31 7 30 1 := ⟨4, List.mem_of_getElem? (i := 5) rfl, by decide, Nat.le_of_ble_eq_true rfl⟩
theorem c_1_1 : xCi 1 1 51 6 := ⟨1, List.mem_of_getElem? (i := 6) rfl, by decide, Nat.le_of_ble_eq_true rfl⟩
theorem c_1_7 : xCu 1 7 52 4 := ⟨2, List.mem_of_getElem? (i := 7) rfl, by decide, Nat.le_of_ble_eq_true rfl⟩
theorem c_1_27_9 : xCv 1 27 9 50 1 := ⟨3, List.mem_of_getElem? (i := 8) rfl, by decide, Nat.le_of_ble_eq_true rfl⟩
theorem c_1_36 : xCu 1 36 10 1 := ⟨8, List.mem_of_getElem? (i := 9) rfl, by decide, Nat.le_of_ble_eq_true rfl⟩
theorem c_2_35_9 : xCv 2 35 9 50 1 := ⟨3, List.mem_of_getElem? (i := 10) rfl, by decide, Nat.le_of_ble_eq_true rfl⟩
theorem c_2_41_0 : xCv 2 41 0 8 1 := ⟨5, List.mem_of_getElem? (i := 11) rfl, by decide, Nat.le_of_ble_eq_true rfl⟩
theorem c_2_41_1 : xCv 2 41 1 53 1 := ⟨4, List.mem_of_getElem? (i := 12) rfl, by decide, Nat.le_of_ble_eq_true rfl⟩
theorem c_2_41_2 : xCv 2 41 2 8 1 := ⟨3, List.mem_of_getElem? (i := 13) rfl, by decide, Nat.le_of_ble_eq_true rfl⟩
theorem c_2_41_4 : xCv 2 41 4 19 1 := ⟨4, List.mem_of_getElem? (i := 14) rfl, by decide, Nat.le_of_ble_eq_true rfl⟩
theorem c_2_41_6 : xCv 2 41 6 8 1 := ⟨5, List.mem_of_getElem? (i := 15) rfl, by decide, Nat.le_of_ble_eq_true rfl⟩
theorem c_2_41_7 : xCv 2 41 7 31 1 := ⟨4, List.mem_of_getElem? (i := 16) rfl, by decide, Nat.le_of_ble_eq_true rfl⟩
theorem c_2_41_10 : xCv 2 41 10 53 1 := ⟨4, List.mem_of_getElem? (i := 17) rfl, by decide, Nat.le_of_ble_eq_true rfl⟩
theorem c_2_45_0 : xCv 2 45 0 9 1 := ⟨5, List.mem_of_getElem? (i := 18) rfl, by decide, Nat.le_of_ble_eq_true rfl⟩
theorem c_2_45_1 : xCv 2 45 1 9 1 := ⟨5, List.mem_of_getElem? (i := 19) rfl, by decide, Nat.le_of_ble_eq_true rfl⟩
theorem c_2_45_2 : xCv 2 45 2 9 1 := ⟨3, List.mem_of_getElem? (i := 20) rfl, by decide, Nat.le_of_ble_eq_true rfl⟩
theorem c_2_45_4 : xCv 2 45 4 20 1 := ⟨4, List.mem_of_getElem? (i := 21) rfl, by decide, Nat.le_of_ble_eq_true rfl⟩
theorem c_2_45_6 : xCv 2 45 6 27 1 := ⟨4, List.mem_of_getElem? (i := 22) rfl, by decide, Nat.le_of_ble_eq_true rfl⟩
theorem c_2_45_7 : xCv 2 45 7 30 1 := ⟨4, List.mem_of_getElem? (i := 23) rfl, by decide, Nat.le_of_ble_eq_true rfl⟩
theorem c_2_45_10 : xCv 2 45 10 9 1 := ⟨5, List.mem_of_getElem? (i := 24) rfl, by decide, Nat.le_of_ble_eq_true rfl⟩
theorem c_3_70 : xCs 3 70 16 2 := ⟨0, List.mem_of_getElem? (i := 25) rfl, by decide, Nat.le_of_ble_eq_true rfl⟩
theorem c_4_1 : xCi 4 1 25 6 := ⟨1, List.mem_of_getElem? (i := 26) rfl, by decide, Nat.le_of_ble_eq_true rfl⟩
theorem c_4_7 : xCu 4 7 26 4 := ⟨2, List.mem_of_getElem? (i := 27) rfl, by decide, Nat.le_of_ble_eq_true rfl⟩
theorem c_4_17_9 : xCv 4 17 9 50 1 := ⟨3, List.mem_of_getElem? (i := 28) rfl, by decide, Nat.le_of_ble_eq_true rfl⟩
theorem c_4_23 : xCu 4 23 8 1 := ⟨8, List.mem_of_getElem? (i := 29) rfl, by decide, Nat.le_of_ble_eq_true rfl⟩
theorem c_4_27 : xCu 4 27 27 1 := ⟨2, List.mem_of_getElem? (i := 30) rfl, by decide, Nat.le_of_ble_eq_true rfl⟩
theorem c_5_22 : xCs 5 22 241 2 := ⟨0, List.mem_of_getElem? (i := 31) rfl, by decide, Nat.le_of_ble_eq_true rfl⟩
theorem c_6_1 : xCi 6 1 6 6 := ⟨1, List.mem_of_getElem? (i := 32) rfl, by decide, Nat.le_of_ble_eq_true rfl⟩
theorem c_6_7 : xCu 6 7 7 4 := ⟨2, List.mem_of_getElem? (i := 33) rfl, by decide, Nat.le_of_ble_eq_true rfl⟩
theorem c_6_23_9 : xCv 6 23 9 50 1 := ⟨3, List.mem_of_getElem? (i := 34) rfl, by decide, Nat.le_of_ble_eq_true rfl⟩
theorem c_6_29 : xCu 6 29 9 1 := ⟨2, List.mem_of_getElem? (i := 35) rfl, by decide, Nat.le_of_ble_eq_true rfl⟩
theorem c_7_1 : xCi 7 1 0 6 := ⟨1, List.mem_of_getElem? (i := 36) rfl, by decide, Nat.le_of_ble_eq_true rfl⟩
theorem c_7_7 : xCu 7 7 1 4 := ⟨2, List.mem_of_getElem? (i := 37) rfl, by decide, Nat.le_of_ble_eq_true rfl⟩
theorem c_7_17_9 : xCv 7 17 9 50 1 := ⟨3, List.mem_of_getElem? (i := 38) rfl, by decide, Nat.le_of_ble_eq_true rfl⟩
theorem c_7_23 : xCu 7 23 9 1 := ⟨8, List.mem_of_getElem? (i := 39) rfl, by decide, Nat.le_of_ble_eq_true rfl⟩
theorem c_7_27 : xCu 7 27 8 1 := ⟨8, List.mem_of_getElem? (i := 40) rfl, by decide, Nat.le_of_ble_eq_true rfl⟩
theorem c_8_54_8 : xCv 8 54 8 36 2 := ⟨3, List.mem_of_getElem? (i := 41) rfl, by decide, Nat.le_of_ble_eq_true rfl⟩
theorem c_8_58 : xCs 8 58 38 2 := ⟨0, List.mem_of_getElem? (i := 42) rfl, by decide, Nat.le_of_ble_eq_true rfl⟩
theorem c_8_63 : xCs9 8 63 235 0 := ⟨List.mem_of_getElem? (i := 43) rfl, Nat.le_of_ble_eq_true rfl⟩
theorem c_8_69 : xCs 8 69 233 2 := ⟨0, List.mem_of_getElem? (i := 44) rfl, by decide, Nat.le_of_ble_eq_true rfl⟩
theorem c_8_80_8 : xCv 8 80 8 46 1 := ⟨3, List.mem_of_getElem? (i := 45) rfl, by decide, Nat.le_of_ble_eq_true rfl⟩
theorem c_8_84_8 : xCv 8 84 8 40 1 := ⟨3, List.mem_of_getElem? (i := 46) rfl, by decide, Nat.le_of_ble_eq_true rfl⟩
theorem c_8_90_8 : xCv 8 90 8 47 1 := ⟨3, List.mem_of_getElem? (i := 47) rfl, by decide, Nat.le_of_ble_eq_true rfl⟩
theorem c_8_96 : xCs9 8 96 236 1 := ⟨List.mem_of_getElem? (i := 48) rfl, Nat.le_of_ble_eq_true rfl⟩
theorem c_8_100_8 : xCv 8 100 8 43 0 := ⟨3, List.mem_of_getElem? (i := 49) rfl, by decide, Nat.le_of_ble_eq_true rfl⟩
theorem c_8_103_8 : xCv 8 103 8 41 1 := ⟨3, List.mem_of_getElem? (i := 50) rfl, by decide, Nat.le_of_ble_eq_true rfl⟩
theorem c_8_106_8 : xCv 8 106 8 42 1 := ⟨3, List.mem_of_getElem? (i := 51) rfl, by decide, Nat.le_of_ble_eq_true rfl⟩
theorem c_8_109_8 : xCv 8 109 8 45 1 := ⟨3, List.mem_of_getElem? (i := 52) rfl, by decide, Nat.le_of_ble_eq_true rfl⟩
theorem c_8_113_8 : xCv 8 113 8 44 1 := ⟨3, List.mem_of_getElem? (i := 53) rfl, by decide, Nat.le_of_ble_eq_true rfl⟩
theorem c_8_118 : xCs 8 118 37 3 := ⟨0, List.mem_of_getElem? (i := 54) rfl, by decide, Nat.le_of_ble_eq_true rfl⟩
theorem c_8_124 : xCs 8 124 101 3 := ⟨7, List.mem_of_getElem? (i := 55) rfl, by decide, Nat.le_of_ble_eq_true rfl⟩
theorem c_10_1 : xCi 10 1 6 6 := ⟨1, List.mem_of_getElem? (i := 56) rfl, by decide, Nat.le_of_ble_eq_true rfl⟩
theorem c_10_7 : xCu 10 7 7 4 := ⟨2, List.mem_of_getElem? (i := 57) rfl, by decide, Nat.le_of_ble_eq_true rfl⟩
theorem c_10_23_9 : xCv 10 23 9 50 1 := ⟨3, List.mem_of_getElem? (i := 58) rfl, by decide, Nat.le_of_ble_eq_true rfl⟩
theorem c_10_29 : xCu 10 29 8 1 := ⟨2, List.mem_of_getElem? (i := 59) rfl, by decide, Nat.le_of_ble_eq_true rfl⟩
theorem c_11_13 : xCi 11 13 11 0 := ⟨6, List.mem_of_getElem? (i := 60) rfl, by decide, Nat.le_of_ble_eq_true rfl⟩
theorem c_11_39 : xCi 11 39 32 0 := ⟨6, List.mem_of_getElem? (i := 61) rfl, by decide, Nat.le_of_ble_eq_true rfl⟩
theorem c_11_49 : xCi 11 49 48 0 := ⟨6, List.mem_of_getElem? (i := 62) rfl, by decide, Nat.le_of_ble_eq_true rfl⟩
theorem c_11_62 : xCs9 11 62 235 0 := ⟨List.mem_of_getElem? (i := 63) rfl, Nat.le_of_ble_eq_true rfl⟩
theorem c_11_84 : xCi 11 84 21 0 := ⟨6, List.mem_of_getElem? (i := 64) rfl, by decide, Nat.le_of_ble_eq_true rfl⟩
theorem c_11_85 : xCs 11 85 102 1 := ⟨0, List.mem_of_getElem? (i := 65) rfl, by decide, Nat.le_of_ble_eq_true rfl⟩
theorem c_11_101 : xCs 11 101 101 3 := ⟨0, List.mem_of_getElem? (i := 66) rfl, by decide, Nat.le_of_ble_eq_true rfl⟩
theorem c_11_105 : xCs 11 105 103 1 := ⟨0, List.mem_of_getElem? (i := 67) rfl, by decide, Nat.le_of_ble_eq_true rfl⟩
theorem c_11_115_11 : xCv 11 115 11 57 5 := ⟨3, List.mem_of_getElem? (i := 68) rfl, by decide, Nat.le_of_ble_eq_true rfl⟩
theorem c_11_130 : xCi 11 130 25 6 := ⟨1, List.mem_of_getElem? (i := 69) rfl, by decide, Nat.le_of_ble_eq_true rfl⟩
theorem c_11_135 : xCi 11 135 51 6 := ⟨1, List.mem_of_getElem? (i := 70) rfl, by decide, Nat.le_of_ble_eq_true rfl⟩
theorem c_11_138 : xCi 11 138 0 6 := ⟨1, List.mem_of_getElem? (i := 71) rfl, by decide, Nat.le_of_ble_eq_true rfl⟩
theorem c_11_141 : xCi 11 141 17 6 := ⟨1, List.mem_of_getElem? (i := 72) rfl, by decide, Nat.le_of_ble_eq_true rfl⟩
theorem c_11_144 : xCi 11 144 3 6 := ⟨1, List.mem_of_getElem? (i := 73) rfl, by decide, Nat.le_of_ble_eq_true rfl⟩
theorem c_11_147 : xCi 11 147 28 6 := ⟨1, List.mem_of_getElem? (i := 74) rfl, by decide, Nat.le_of_ble_eq_true rfl⟩
theorem c_11_150 : xCi 11 150 6 6 := ⟨1, List.mem_of_getElem? (i := 75) rfl, by decide, Nat.le_of_ble_eq_true rfl⟩
theorem c_11_151_3 : xCv 11 151 3 13 1 := ⟨3, List.mem_of_getElem? (i := 76) rfl, by decide, Nat.le_of_ble_eq_true rfl⟩
theorem c_11_166_3 : xCv 11 166 3 14 1 := ⟨3, List.mem_of_getElem? (i := 77) rfl, by decide, Nat.le_of_ble_eq_true rfl⟩
theorem c_11_170 : xCs 11 170 107 1 := ⟨0, List.mem_of_getElem? (i := 78) rfl, by decide, Nat.le_of_ble_eq_true rfl⟩
theorem c_11_173_3 : xCv 11 173 3 12 1 := ⟨3, List.mem_of_getElem? (i := 79) rfl, by decide, Nat.le_of_ble_eq_true rfl⟩
theorem c_11_176_11 : xCv 11 176 11 110 3 := ⟨3, List.mem_of_getElem? (i := 80) rfl, by decide, Nat.le_of_ble_eq_true rfl⟩
theorem c_11_180_11 : xCv 11 180 11 106 1 := ⟨3, List.mem_of_getElem? (i := 81) rfl, by decide, Nat.le_of_ble_eq_true rfl⟩
theorem c_11_183_8 : xCv 11 183 8 39 2 := ⟨3, List.mem_of_getElem? (i := 82) rfl, by decide, Nat.le_of_ble_eq_true rfl⟩
theorem c_11_193_11 : xCv 11 193 11 109 0 := ⟨3, List.mem_of_getElem? (i := 83) rfl, by decide, Nat.le_of_ble_eq_true rfl⟩
theorem c_11_197_8 : xCv 11 197 8 33 0 := ⟨3, List.mem_of_getElem? (i := 84) rfl, by decide, Nat.le_of_ble_eq_true rfl⟩
theorem c_11_203_8 : xCv 11 203 8 34 1 := ⟨3, List.mem_of_getElem? (i := 85) rfl, by decide, Nat.le_of_ble_eq_true rfl⟩
theorem c_11_206_11 : xCv 11 206 11 111 3 := ⟨3, List.mem_of_getElem? (i := 86) rfl, by decide, Nat.le_of_ble_eq_true rfl⟩
theorem c_11_216 : xCs 11 216 104 1 := ⟨0, List.mem_of_getElem? (i := 87) rfl, by decide, Nat.le_of_ble_eq_true rfl⟩
theorem c_11_225_11 : xCv 11 225 11 112 3 := ⟨3, List.mem_of_getElem? (i := 88) rfl, by decide, Nat.le_of_ble_eq_true rfl⟩
theorem c_11_228_11 : xCv 11 228 11 113 0 := ⟨3, List.mem_of_getElem? (i := 89) rfl, by decide, Nat.le_of_ble_eq_true rfl⟩
theorem c_11_231_11 : xCv 11 231 11 116 1 := ⟨3, List.mem_of_getElem? (i := 90) rfl, by decide, Nat.le_of_ble_eq_true rfl⟩
theorem c_11_235_11 : xCv 11 235 11 119 1 := ⟨3, List.mem_of_getElem? (i := 91) rfl, by decide, Nat.le_of_ble_eq_true rfl⟩
theorem c_11_238_11 : xCv 11 238 11 115 1 := ⟨3, List.mem_of_getElem? (i := 92) rfl, by decide, Nat.le_of_ble_eq_true rfl⟩
theorem c_11_241_11 : xCv 11 241 11 121 2 := ⟨3, List.mem_of_getElem? (i := 93) rfl, by decide, Nat.le_of_ble_eq_true rfl⟩
theorem c_11_245_11 : xCv 11 245 11 122 2 := ⟨3, List.mem_of_getElem? (i := 94) rfl, by decide, Nat.le_of_ble_eq_true rfl⟩
theorem c_11_248_11 : xCv 11 248 11 114 2 := ⟨3, List.mem_of_getElem? (i := 95) rfl, by decide, Nat.le_of_ble_eq_true rfl⟩
theorem c_11_260_11 : xCv 11 260 11 125 1 := ⟨3, List.mem_of_getElem? (i := 96) rfl, by decide, Nat.le_of_ble_eq_true rfl⟩
theorem c_11_263 : xCs 11 263 242 2 := ⟨0, List.mem_of_getElem? (i := 97) rfl, by decide, Nat.le_of_ble_eq_true rfl⟩
theorem c_11_269_11 : xCv 11 269 11 123 1 := ⟨3, List.mem_of_getElem? (i := 98) rfl, by decide, Nat.le_of_ble_eq_true rfl⟩
theorem c_11_272_11 : xCv 11 272 11 126 1 := ⟨3, List.mem_of_getElem? (i := 99) rfl, by decide, Nat.le_of_ble_eq_true rfl⟩
theorem c_11_277_11 : xCv 11 277 11 127 2 := ⟨3, List.mem_of_getElem? (i := 100) rfl, by decide, Nat.le_of_ble_eq_true rfl⟩
theorem c_11_290 : xCs 11 290 105 1 := ⟨0, List.mem_of_getElem? (i := 101) rfl, by decide, Nat.le_of_ble_eq_true rfl⟩
theorem c_11_296_5 : xCv 11 296 5 23 2 := ⟨3, List.mem_of_getElem? (i := 102) rfl, by decide, Nat.le_of_ble_eq_true rfl⟩
theorem c_11_303_3 : xCv 11 303 3 15 1 := ⟨3, List.mem_of_getElem? (i := 103) rfl, by decide, Nat.le_of_ble_eq_true rfl⟩
theorem c_11_307_9 : xCv 11 307 9 49 0 := ⟨3, List.mem_of_getElem? (i := 104) rfl, by decide, Nat.le_of_ble_eq_true rfl⟩
theorem c_11_310_0 : xCv 11 310 0 8 1 := ⟨5, List.mem_of_getElem? (i := 105) rfl, by decide, Nat.le_of_ble_eq_true rfl⟩
theorem c_11_310_1 : xCv 11 310 1 53 1 := ⟨4, List.mem_of_getElem? (i := 106) rfl, by decide, Nat.le_of_ble_eq_true rfl⟩
theorem c_11_310_2 : xCv 11 310 2 8 1 := ⟨3, List.mem_of_getElem? (i := 107) rfl, by decide, Nat.le_of_ble_eq_true rfl⟩
theorem c_11_310_4 : xCv 11 310 4 19 1 := ⟨4, List.mem_of_getElem? (i := 108) rfl, by decide, Nat.le_of_ble_eq_true rfl⟩
theorem c_11_310_6 : xCv 11 310 6 8 1 := ⟨5, List.mem_of_getElem? (i := 109) rfl, by decide, Nat.le_of_ble_eq_true rfl⟩
theorem c_11_310_7 : xCv 11 310 7 31 1 := ⟨4, List.mem_of_getElem? (i := 110) rfl, by decide, Nat.le_of_ble_eq_true rfl⟩
theorem c_11_310_10 : xCv 11 310 10 53 1 := ⟨4, List.mem_of_getElem? (i := 111) rfl, by decide, Nat.le_of_ble_eq_true rfl⟩
theorem c_11_313_0 : xCv 11 313 0 9 1 := ⟨5, List.mem_of_getElem? (i := 112) rfl, by decide, Nat.le_of_ble_eq_true rfl⟩
theorem c_11_313_1 : xCv 11 313 1 9 1 := ⟨5, List.mem_of_getElem? (i := 113) rfl, by decide, Nat.le_of_ble_eq_true rfl⟩
theorem c_11_313_2 : xCv 11 313 2 9 1 := ⟨3, List.mem_of_getElem? (i := 114) rfl, by decide, Nat.le_of_ble_eq_true rfl⟩
theorem c_11_313_4 : xCv 11 313 4 20 1 := ⟨4, List.mem_of_getElem? (i := 115) rfl, by decide, Nat.le_of_ble_eq_true rfl⟩
theorem c_11_313_6 : xCv 11 313 6 27 1 := ⟨4, List.mem_of_getElem? (i := 116) rfl, by decide, Nat.le_of_ble_eq_true rfl⟩
theorem c_11_313_7 : xCv 11 313 7 30 1 := ⟨4, List.mem_of_getElem? (i := 117) rfl, by decide, Nat.le_of_ble_eq_true rfl⟩
theorem c_11_313_10 : xCv 11 313 10 9 1 := ⟨5, List.mem_of_getElem? (i := 118) rfl, by decide, Nat.le_of_ble_eq_true rfl⟩
theorem c_11_316_0 : xCv 11 316 0 2 1 := ⟨4, List.mem_of_getElem? (i := 119) rfl, by decide, Nat.le_of_ble_eq_true rfl⟩
theorem c_11_316_1 : xCv 11 316 1 5 1 := ⟨4, List.mem_of_getElem? (i := 120) rfl, by decide, Nat.le_of_ble_eq_true rfl⟩
theorem c_11_316_2 : xCv 11 316 2 10 1 := ⟨3, List.mem_of_getElem? (i := 121) rfl, by decide, Nat.le_of_ble_eq_true rfl⟩
theorem c_11_316_4 : xCv 11 316 4 10 1 := ⟨5, List.mem_of_getElem? (i := 122) rfl, by decide, Nat.le_of_ble_eq_true rfl⟩
theorem c_11_316_6 : xCv 11 316 6 10 1 := ⟨5, List.mem_of_getElem? (i := 123) rfl, by decide, Nat.le_of_ble_eq_true rfl⟩
theorem c_11_316_7 : xCv 11 316 7 2 1 := ⟨4, List.mem_of_getElem? (i := 124) rfl, by decide, Nat.le_of_ble_eq_true rfl⟩
theorem c_11_316_10 : xCv 11 316 10 10 1 := ⟨5, List.mem_of_getElem? (i := 125) rfl, by decide, Nat.le_of_ble_eq_true rfl⟩
theorem c_11_324 : xCs 11 324 108 2 := ⟨0, List.mem_of_getElem? (i := 126) rfl, by decide, Nat.le_of_ble_eq_true rfl⟩
theorem c_11_328_5 : xCv 11 328 5 22 2 := ⟨3, List.mem_of_getElem? (i := 127) rfl, by decide, Nat.le_of_ble_eq_true rfl⟩
theorem c_11_332_5 : xCv 11 332 5 24 1 := ⟨3, List.mem_of_getElem? (i := 128) rfl, by decide, Nat.le_of_ble_eq_true rfl⟩
theorem c_11_339_8 : xCv 11 339 8 35 1 := ⟨3, List.mem_of_getElem? (i := 129) rfl, by decide, Nat.le_of_ble_eq_true rfl⟩
theorem c_11_343_0 : xCv 11 343 0 1 4 := ⟨4, List.mem_of_getElem? (i := 130) rfl, by decide, Nat.le_of_ble_eq_true rfl⟩
theorem c_11_343_1 : xCv 11 343 1 4 4 := ⟨4, List.mem_of_getElem? (i := 131) rfl, by decide, Nat.le_of_ble_eq_true rfl⟩
theorem c_11_343_2 : xCv 11 343 2 7 4 := ⟨3, List.mem_of_getElem? (i := 132) rfl, by decide, Nat.le_of_ble_eq_true rfl⟩
theorem c_11_343_4 : xCv 11 343 4 18 4 := ⟨4, List.mem_of_getElem? (i := 133) rfl, by decide, Nat.le_of_ble_eq_true rfl⟩
theorem c_11_343_6 : xCv 11 343 6 26 4 := ⟨4, List.mem_of_getElem? (i := 134) rfl, by decide, Nat.le_of_ble_eq_true rfl⟩
theorem c_11_343_7 : xCv 11 343 7 29 4 := ⟨4, List.mem_of_getElem? (i := 135) rfl, by decide, Nat.le_of_ble_eq_true rfl⟩
theorem c_11_343_10 : xCv 11 343 10 52 4 := ⟨4, List.mem_of_getElem? (i := 136) rfl, by decide, Nat.le_of_ble_eq_true rfl⟩
theorem c_11_347 : xCs 11 347 234 1 := ⟨0, List.mem_of_getElem? (i := 137) rfl, by decide, Nat.le_of_ble_eq_true rfl⟩
theorem c_11_352_11 : xCv 11 352 11 117 3 := ⟨3, List.mem_of_getElem? (i := 138) rfl, by decide, Nat.le_of_ble_eq_true rfl⟩
theorem c_11_355_11 : xCv 11 355 11 118 3 := ⟨3, List.mem_of_getElem? (i := 139) rfl, by decide, Nat.le_of_ble_eq_true rfl⟩
theorem c_11_361_11 : xCv 11 361 11 120 2 := ⟨3, List.mem_of_getElem? (i := 140) rfl, by decide, Nat.le_of_ble_eq_true rfl⟩
theorem c_11_364_11 : xCv 11 364 11 124 2 := ⟨3, List.mem_of_getElem? (i := 141) rfl, by decide, Nat.le_of_ble_eq_true rfl⟩
theorem c_12_248_12 : xCv 12 248 12 129 3 := ⟨3, List.mem_of_getElem? (i := 142) rfl, by decide, Nat.le_of_ble_eq_true rfl⟩
theorem c_12_252_12 : xCv 12 252 12 134 1 := ⟨3, List.mem_of_getElem? (i := 143) rfl, by decide, Nat.le_of_ble_eq_true rfl⟩
theorem c_12_256_12 : xCv 12 256 12 133 1 := ⟨3, List.mem_of_getElem? (i := 144) rfl, by decide, Nat.le_of_ble_eq_true rfl⟩
theorem c_12_259_12 : xCv 12 259 12 132 1 := ⟨3, List.mem_of_getElem? (i := 145) rfl, by decide, Nat.le_of_ble_eq_true rfl⟩
theorem c_12_262_12 : xCv 12 262 12 138 1 := ⟨3, List.mem_of_getElem? (i := 146) rfl, by decide, Nat.le_of_ble_eq_true rfl⟩
theorem c_12_266_12 : xCv 12 266 12 135 1 := ⟨3, List.mem_of_getElem? (i := 147) rfl, by decide, Nat.le_of_ble_eq_true rfl⟩
theorem c_12_269_12 : xCv 12 269 12 144 0 := ⟨3, List.mem_of_getElem? (i := 148) rfl, by decide, Nat.le_of_ble_eq_true rfl⟩
theorem c_12_273_12 : xCv 12 273 12 145 1 := ⟨3, List.mem_of_getElem? (i := 149) rfl, by decide, Nat.le_of_ble_eq_true rfl⟩
theorem c_12_276_12 : xCv 12 276 12 147 0 := ⟨3, List.mem_of_getElem? (i := 150) rfl, by decide, Nat.le_of_ble_eq_true rfl⟩
theorem c_12_280_12 : xCv 12 280 12 149 1 := ⟨3, List.mem_of_getElem? (i := 151) rfl, by decide, Nat.le_of_ble_eq_true rfl⟩
theorem c_12_284_12 : xCv 12 284 12 152 1 := ⟨3, List.mem_of_getElem? (i := 152) rfl, by decide, Nat.le_of_ble_eq_true rfl⟩
theorem c_12_287_12 : xCv 12 287 12 148 0 := ⟨3, List.mem_of_getElem? (i := 153) rfl, by decide, Nat.le_of_ble_eq_true rfl⟩
theorem c_12_290_12 : xCv 12 290 12 150 0 := ⟨3, List.mem_of_getElem? (i := 154) rfl, by decide, Nat.le_of_ble_eq_true rfl⟩
theorem c_12_293_12 : xCv 12 293 12 153 0 := ⟨3, List.mem_of_getElem? (i := 155) rfl, by decide, Nat.le_of_ble_eq_true rfl⟩
theorem c_12_296_12 : xCv 12 296 12 151 1 := ⟨3, List.mem_of_getElem? (i := 156) rfl, by decide, Nat.le_of_ble_eq_true rfl⟩
theorem c_12_299_12 : xCv 12 299 12 146 2 := ⟨3, List.mem_of_getElem? (i := 157) rfl, by decide, Nat.le_of_ble_eq_true rfl⟩
theorem c_12_303_12 : xCv 12 303 12 155 1 := ⟨3, List.mem_of_getElem? (i := 158) rfl, by decide, Nat.le_of_ble_eq_true rfl⟩
theorem c_12_306_12 : xCv 12 306 12 154 1 := ⟨3, List.mem_of_getElem? (i := 159) rfl, by decide, Nat.le_of_ble_eq_true rfl⟩
theorem c_12_309_12 : xCv 12 309 12 156 1 := ⟨3, List.mem_of_getElem? (i := 160) rfl, by decide, Nat.le_of_ble_eq_true rfl⟩
theorem c_12_312_12 : xCv 12 312 12 157 1 := ⟨3, List.mem_of_getElem? (i := 161) rfl, by decide, Nat.le_of_ble_eq_true rfl⟩
theorem c_12_315_12 : xCv 12 315 12 159 0 := ⟨3, List.mem_of_getElem? (i := 162) rfl, by decide, Nat.le_of_ble_eq_true rfl⟩
theorem c_12_318_12 : xCv 12 318 12 160 0 := ⟨3, List.mem_of_getElem? (i := 163) rfl, by decide, Nat.le_of_ble_eq_true rfl⟩
theorem c_12_321_12 : xCv 12 321 12 163 3 := ⟨3, List.mem_of_getElem? (i := 164) rfl, by decide, Nat.le_of_ble_eq_true rfl⟩
theorem c_12_325_12 : xCv 12 325 12 164 3 := ⟨3, List.mem_of_getElem? (i := 165) rfl, by decide, Nat.le_of_ble_eq_true rfl⟩
theorem c_12_328_12 : xCv 12 328 12 165 2 := ⟨3, List.mem_of_getElem? (i := 166) rfl, by decide, Nat.le_of_ble_eq_true rfl⟩
theorem c_12_332_12 : xCv 12 332 12 131 2 := ⟨3, List.mem_of_getElem? (i := 167) rfl, by decide, Nat.le_of_ble_eq_true rfl⟩
theorem c_12_335_12 : xCv 12 335 12 166 2 := ⟨3, List.mem_of_getElem? (i := 168) rfl, by decide, Nat.le_of_ble_eq_true rfl⟩
theorem c_12_338_12 : xCv 12 338 12 161 0 := ⟨3, List.mem_of_getElem? (i := 169) rfl, by decide, Nat.le_of_ble_eq_true rfl⟩
theorem c_12_341_12 : xCv 12 341 12 167 2 := ⟨3, List.mem_of_getElem? (i := 170) rfl, by decide, Nat.le_of_ble_eq_true rfl⟩
theorem c_12_344_12 : xCv 12 344 12 162 1 := ⟨3, List.mem_of_getElem? (i := 171) rfl, by decide, Nat.le_of_ble_eq_true rfl⟩
theorem c_12_347_12 : xCv 12 347 12 171 1 := ⟨3, List.mem_of_getElem? (i := 172) rfl, by decide, Nat.le_of_ble_eq_true rfl⟩
theorem c_12_351_12 : xCv 12 351 12 172 0 := ⟨3, List.mem_of_getElem? (i := 173) rfl, by decide, Nat.le_of_ble_eq_true rfl⟩
theorem c_12_354_12 : xCv 12 354 12 174 1 := ⟨3, List.mem_of_getElem? (i := 174) rfl, by decide, Nat.le_of_ble_eq_true rfl⟩
theorem c_12_357_12 : xCv 12 357 12 176 2 := ⟨3, List.mem_of_getElem? (i := 175) rfl, by decide, Nat.le_of_ble_eq_true rfl⟩
theorem c_12_362_12 : xCv 12 362 12 181 0 := ⟨3, List.mem_of_getElem? (i := 176) rfl, by decide, Nat.le_of_ble_eq_true rfl⟩
theorem c_12_365_12 : xCv 12 365 12 182 0 := ⟨3, List.mem_of_getElem? (i := 177) rfl, by decide, Nat.le_of_ble_eq_true rfl⟩
theorem c_12_368_12 : xCv 12 368 12 130 2 := ⟨3, List.mem_of_getElem? (i := 178) rfl, by decide, Nat.le_of_ble_eq_true rfl⟩
theorem c_12_371_12 : xCv 12 371 12 185 0 := ⟨3, List.mem_of_getElem? (i := 179) rfl, by decide, Nat.le_of_ble_eq_true rfl⟩
theorem c_12_374_12 : xCv 12 374 12 186 1 := ⟨3, List.mem_of_getElem? (i := 180) rfl, by decide, Nat.le_of_ble_eq_true rfl⟩
theorem c_12_377_12 : xCv 12 377 12 187 3 := ⟨3, List.mem_of_getElem? (i := 181) rfl, by decide, Nat.le_of_ble_eq_true rfl⟩
theorem c_12_380_12 : xCv 12 380 12 188 0 := ⟨3, List.mem_of_getElem? (i := 182) rfl, by decide, Nat.le_of_ble_eq_true rfl⟩
theorem c_12_383_12 : xCv 12 383 12 190 1 := ⟨3, List.mem_of_getElem? (i := 183) rfl, by decide, Nat.le_of_ble_eq_true rfl⟩
theorem c_12_386_12 : xCv 12 386 12 193 1 := ⟨3, List.mem_of_getElem? (i := 184) rfl, by decide, Nat.le_of_ble_eq_true rfl⟩
theorem c_12_389_12 : xCv 12 389 12 192 0 := ⟨3, List.mem_of_getElem? (i := 185) rfl, by decide, Nat.le_of_ble_eq_true rfl⟩
theorem c_12_392_12 : xCv 12 392 12 194 1 := ⟨3, List.mem_of_getElem? (i := 186) rfl, by decide, Nat.le_of_ble_eq_true rfl⟩
theorem c_12_395_12 : xCv 12 395 12 196 1 := ⟨3, List.mem_of_getElem? (i := 187) rfl, by decide, Nat.le_of_ble_eq_true rfl⟩
theorem c_12_398_12 : xCv 12 398 12 203 1 := ⟨3, List.mem_of_getElem? (i := 188) rfl, by decide, Nat.le_of_ble_eq_true rfl⟩
theorem c_12_401_12 : xCv 12 401 12 206 2 := ⟨3, List.mem_of_getElem? (i := 189) rfl, by decide, Nat.le_of_ble_eq_true rfl⟩
theorem c_12_406_12 : xCv 12 406 12 207 3 := ⟨3, List.mem_of_getElem? (i := 190) rfl, by decide, Nat.le_of_ble_eq_true rfl⟩
theorem c_12_410_12 : xCv 12 410 12 227 1 := ⟨3, List.mem_of_getElem? (i := 191) rfl, by decide, Nat.le_of_ble_eq_true rfl⟩
theorem c_12_413_12 : xCv 12 413 12 215 1 := ⟨3, List.mem_of_getElem? (i := 192) rfl, by decide, Nat.le_of_ble_eq_true rfl⟩
theorem c_12_416_12 : xCv 12 416 12 216 2 := ⟨3, List.mem_of_getElem? (i := 193) rfl, by decide, Nat.le_of_ble_eq_true rfl⟩
theorem c_12_419_12 : xCv 12 419 12 217 2 := ⟨3, List.mem_of_getElem? (i := 194) rfl, by decide, Nat.le_of_ble_eq_true rfl⟩
theorem c_12_422_12 : xCv 12 422 12 218 2 := ⟨3, List.mem_of_getElem? (i := 195) rfl, by decide, Nat.le_of_ble_eq_true rfl⟩
theorem c_12_425_12 : xCv 12 425 12 219 2 := ⟨3, List.mem_of_getElem? (i := 196) rfl, by decide, Nat.le_of_ble_eq_true rfl⟩
theorem c_12_428_12 : xCv 12 428 12 220 2 := ⟨3, List.mem_of_getElem? (i := 197) rfl, by decide, Nat.le_of_ble_eq_true rfl⟩
theorem c_12_431_12 : xCv 12 431 12 221 2 := ⟨3, List.mem_of_getElem? (i := 198) rfl, by decide, Nat.le_of_ble_eq_true rfl⟩
theorem c_12_434_12 : xCv 12 434 12 222 2 := ⟨3, List.mem_of_getElem? (i := 199) rfl, by decide, Nat.le_of_ble_eq_true rfl⟩
theorem c_12_437_12 : xCv 12 437 12 229 2 := ⟨3, List.mem_of_getElem? (i := 200) rfl, by decide, Nat.le_of_ble_eq_true rfl⟩
theorem c_13_9 : xCi 13 9 54 0 := ⟨1, List.mem_of_getElem? (i := 201) rfl, by decide, Nat.le_of_ble_eq_true rfl⟩
theorem c_13_12 : xCi 13 12 128 0 := ⟨1, List.mem_of_getElem? (i := 202) rfl, by decide, Nat.le_of_ble_eq_true rfl⟩
theorem c_13_13_11 : xCv 13 13 11 55 1 := ⟨3, List.mem_of_getElem? (i := 203) rfl, by decide, Nat.le_of_ble_eq_true rfl⟩
theorem c_13_17_12 : xCv 13 17 12 136 1 := ⟨3, List.mem_of_getElem? (i := 204) rfl, by decide, Nat.le_of_ble_eq_true rfl⟩
theorem c_13_18_11 : xCv 13 18 11 56 5 := ⟨3, List.mem_of_getElem? (i := 205) rfl, by decide, Nat.le_of_ble_eq_true rfl⟩
theorem c_13_22_12 : xCv 13 22 12 137 5 := ⟨3, List.mem_of_getElem? (i := 206) rfl, by decide, Nat.le_of_ble_eq_true rfl⟩
theorem c_13_23_11 : xCv 13 23 11 58 2 := ⟨3, List.mem_of_getElem? (i := 207) rfl, by decide, Nat.le_of_ble_eq_true rfl⟩
theorem c_13_27_12 : xCv 13 27 12 168 2 := ⟨3, List.mem_of_getElem? (i := 208) rfl, by decide, Nat.le_of_ble_eq_true rfl⟩
theorem c_13_28_11 : xCv 13 28 11 59 2 := ⟨3, List.mem_of_getElem? (i := 209) rfl, by decide, Nat.le_of_ble_eq_true rfl⟩
theorem c_13_31_12 : xCv 13 31 12 169 2 := ⟨3, List.mem_of_getElem? (i := 210) rfl, by decide, Nat.le_of_ble_eq_true rfl⟩
theorem c_13_32_11 : xCv 13 32 11 60 3 := ⟨3, List.mem_of_getElem? (i := 211) rfl, by decide, Nat.le_of_ble_eq_true rfl⟩
theorem c_13_36_12 : xCv 13 36 12 139 3 := ⟨3, List.mem_of_getElem? (i := 212) rfl, by decide, Nat.le_of_ble_eq_true rfl⟩
theorem c_13_37_11 : xCv 13 37 11 61 2 := ⟨3, List.mem_of_getElem? (i := 213) rfl, by decide, Nat.le_of_ble_eq_true rfl⟩
theorem c_13_40_12 : xCv 13 40 12 140 2 := ⟨3, List.mem_of_getElem? (i := 214) rfl, by decide, Nat.le_of_ble_eq_true rfl⟩
theorem c_13_41_11 : xCv 13 41 11 62 2 := ⟨3, List.mem_of_getElem? (i := 215) rfl, by decide, Nat.le_of_ble_eq_true rfl⟩
theorem c_13_44_12 : xCv 13 44 12 141 2 := ⟨3, List.mem_of_getElem? (i := 216) rfl, by decide, Nat.le_of_ble_eq_true rfl⟩
theorem c_13_45_11 : xCv 13 45 11 63 2 := ⟨3, List.mem_of_getElem? (i := 217) rfl, by decide, Nat.le_of_ble_eq_true rfl⟩
theorem c_13_48_12 : xCv 13 48 12 142 2 := ⟨3, List.mem_of_getElem? (i := 218) rfl, by decide, Nat.le_of_ble_eq_true rfl⟩
theorem c_13_49_11 : xCv 13 49 11 64 1 := ⟨3, List.mem_of_getElem? (i := 219) rfl, by decide, Nat.le_of_ble_eq_true rfl⟩
theorem c_13_52_12 : xCv 13 52 12 143 1 := ⟨3, List.mem_of_getElem? (i := 220) rfl, by decide, Nat.le_of_ble_eq_true rfl⟩
theorem c_13_53_11 : xCv 13 53 11 65 0 := ⟨3, List.mem_of_getElem? (i := 221) rfl, by decide, Nat.le_of_ble_eq_true rfl⟩
theorem c_13_57_12 : xCv 13 57 12 158 0 := ⟨3, List.mem_of_getElem? (i := 222) rfl, by decide, Nat.le_of_ble_eq_true rfl⟩
theorem c_13_58_11 : xCv 13 58 11 66 1 := ⟨3, List.mem_of_getElem? (i := 223) rfl, by decide, Nat.le_of_ble_eq_true rfl⟩
theorem c_13_61_12 : xCv 13 61 12 170 1 := ⟨3, List.mem_of_getElem? (i := 224) rfl, by decide, Nat.le_of_ble_eq_true rfl⟩
theorem c_13_62_11 : xCv 13 62 11 67 0 := ⟨3, List.mem_of_getElem? (i := 225) rfl, by decide, Nat.le_of_ble_eq_true rfl⟩
theorem c_13_65_12 : xCv 13 65 12 173 0 := ⟨3, List.mem_of_getElem? (i := 226) rfl, by decide, Nat.le_of_ble_eq_true rfl⟩
theorem c_13_66_11 : xCv 13 66 11 68 1 := ⟨3, List.mem_of_getElem? (i := 227) rfl, by decide, Nat.le_of_ble_eq_true rfl⟩
theorem c_13_69_12 : xCv 13 69 12 175 1 := ⟨3, List.mem_of_getElem? (i := 228) rfl, by decide, Nat.le_of_ble_eq_true rfl⟩
theorem c_13_70_11 : xCv 13 70 11 69 2 := ⟨3, List.mem_of_getElem? (i := 229) rfl, by decide, Nat.le_of_ble_eq_true rfl⟩
theorem c_13_73_12 : xCv 13 73 12 177 2 := ⟨3, List.mem_of_getElem? (i := 230) rfl, by decide, Nat.le_of_ble_eq_true rfl⟩
theorem c_13_74_11 : xCv 13 74 11 70 1 := ⟨3, List.mem_of_getElem? (i := 231) rfl, by decide, Nat.le_of_ble_eq_true rfl⟩
theorem c_13_77_12 : xCv 13 77 12 178 1 := ⟨3, List.mem_of_getElem? (i := 232) rfl, by decide, Nat.le_of_ble_eq_true rfl⟩
theorem c_13_78_11 : xCv 13 78 11 71 0 := ⟨3, List.mem_of_getElem? (i := 233) rfl, by decide, Nat.le_of_ble_eq_true rfl⟩
theorem c_13_81_12 : xCv 13 81 12 179 0 := ⟨3, List.mem_of_getElem? (i := 234) rfl, by decide, Nat.le_of_ble_eq_true rfl⟩
theorem c_13_82_11 : xCv 13 82 11 72 1 := ⟨3, List.mem_of_getElem? (i := 235) rfl, by decide, Nat.le_of_ble_eq_true rfl⟩
theorem c_13_85_12 : xCv 13 85 12 180 1 := ⟨3, List.mem_of_getElem? (i := 236) rfl, by decide, Nat.le_of_ble_eq_true rfl⟩
theorem c_13_86_11 : xCv 13 86 11 73 2 := ⟨3, List.mem_of_getElem? (i := 237) rfl, by decide, Nat.le_of_ble_eq_true rfl⟩
theorem c_13_89_12 : xCv 13 89 12 183 2 := ⟨3, List.mem_of_getElem? (i := 238) rfl, by decide, Nat.le_of_ble_eq_true rfl⟩
theorem c_13_90_11 : xCv 13 90 11 74 1 := ⟨3, List.mem_of_getElem? (i := 239) rfl, by decide, Nat.le_of_ble_eq_true rfl⟩
theorem c_13_93_12 : xCv 13 93 12 184 1 := ⟨3, List.mem_of_getElem? (i := 240) rfl, by decide, Nat.le_of_ble_eq_true rfl⟩
theorem c_13_94_11 : xCv 13 94 11 75 1 := ⟨3, List.mem_of_getElem? (i := 241) rfl, by decide, Nat.le_of_ble_eq_true rfl⟩
theorem c_13_97_12 : xCv 13 97 12 189 1 := ⟨3, List.mem_of_getElem? (i := 242) rfl, by decide, Nat.le_of_ble_eq_true rfl⟩
theorem c_13_98_11 : xCv 13 98 11 76 0 := ⟨3, List.mem_of_getElem? (i := 243) rfl, by decide, Nat.le_of_ble_eq_true rfl⟩
theorem c_13_101_12 : xCv 13 101 12 191 0 := ⟨3, List.mem_of_getElem? (i := 244) rfl, by decide, Nat.le_of_ble_eq_true rfl⟩
theorem c_13_102_11 : xCv 13 102 11 77 0 := ⟨3, List.mem_of_getElem? (i := 245) rfl, by decide, Nat.le_of_ble_eq_true rfl⟩
theorem c_13_105_12 : xCv 13 105 12 195 0 := ⟨3, List.mem_of_getElem? (i := 246) rfl, by decide, Nat.le_of_ble_eq_true rfl⟩
theorem c_13_106_11 : xCv 13 106 11 78 1 := ⟨3, List.mem_of_getElem? (i := 247) rfl, by decide, Nat.le_of_ble_eq_true rfl⟩
theorem c_13_109_12 : xCv 13 109 12 197 1 := ⟨3, List.mem_of_getElem? (i := 248) rfl, by decide, Nat.le_of_ble_eq_true rfl⟩
theorem c_13_110_11 : xCv 13 110 11 79 0 := ⟨3, List.mem_of_getElem? (i := 249) rfl, by decide, Nat.le_of_ble_eq_true rfl⟩
theorem c_13_113_12 : xCv 13 113 12 198 0 := ⟨3, List.mem_of_getElem? (i := 250) rfl, by decide, Nat.le_of_ble_eq_true rfl⟩
theorem c_13_114_11 : xCv 13 114 11 80 0 := ⟨3, List.mem_of_getElem? (i := 251) rfl, by decide, Nat.le_of_ble_eq_true rfl⟩
theorem c_13_117_12 : xCv 13 117 12 199 0 := ⟨3, List.mem_of_getElem? (i := 252) rfl, by decide, Nat.le_of_ble_eq_true rfl⟩
theorem c_13_118_11 : xCv 13 118 11 81 3 := ⟨3, List.mem_of_getElem? (i := 253) rfl, by decide, Nat.le_of_ble_eq_true rfl⟩
theorem c_13_121_12 : xCv 13 121 12 200 3 := ⟨3, List.mem_of_getElem? (i := 254) rfl, by decide, Nat.le_of_ble_eq_true rfl⟩
theorem c_13_122_11 : xCv 13 122 11 82 1 := ⟨3, List.mem_of_getElem? (i := 255) rfl, by decide, Nat.le_of_ble_eq_true rfl⟩
theorem c_13_125_12 : xCv 13 125 12 201 1 := ⟨3, List.mem_of_getElem? (i := 256) rfl, by decide, Nat.le_of_ble_eq_true rfl⟩
theorem c_13_126_11 : xCv 13 126 11 83 2 := ⟨3, List.mem_of_getElem? (i := 257) rfl, by decide, Nat.le_of_ble_eq_true rfl⟩
theorem c_13_129_12 : xCv 13 129 12 202 2 := ⟨3, List.mem_of_getElem? (i := 258) rfl, by decide, Nat.le_of_ble_eq_true rfl⟩
theorem c_13_130_11 : xCv 13 130 11 84 1 := ⟨3, List.mem_of_getElem? (i := 259) rfl, by decide, Nat.le_of_ble_eq_true rfl⟩
theorem c_13_133_12 : xCv 13 133 12 204 1 := ⟨3, List.mem_of_getElem? (i := 260) rfl, by decide, Nat.le_of_ble_eq_true rfl⟩
theorem c_13_134_11 : xCv 13 134 11 85 0 := ⟨3, List.mem_of_getElem? (i := 261) rfl, by decide, Nat.le_of_ble_eq_true rfl⟩
theorem c_13_137_12 : xCv 13 137 12 205 0 := ⟨3, List.mem_of_getElem? (i := 262) rfl, by decide, Nat.le_of_ble_eq_true rfl⟩
theorem c_13_138_11 : xCv 13 138 11 86 2 := ⟨3, List.mem_of_getElem? (i := 263) rfl, by decide, Nat.le_of_ble_eq_true rfl⟩
theorem c_13_142_12 : xCv 13 142 12 208 2 := ⟨3, List.mem_of_getElem? (i := 264) rfl, by decide, Nat.le_of_ble_eq_true rfl⟩
theorem c_13_143_11 : xCv 13 143 11 87 2 := ⟨3, List.mem_of_getElem? (i := 265) rfl, by decide, Nat.le_of_ble_eq_true rfl⟩
theorem c_13_146_12 : xCv 13 146 12 209 2 := ⟨3, List.mem_of_getElem? (i := 266) rfl, by decide, Nat.le_of_ble_eq_true rfl⟩
theorem c_13_147_11 : xCv 13 147 11 88 2 := ⟨3, List.mem_of_getElem? (i := 267) rfl, by decide, Nat.le_of_ble_eq_true rfl⟩
theorem c_13_150_12 : xCv 13 150 12 210 2 := ⟨3, List.mem_of_getElem? (i := 268) rfl, by decide, Nat.le_of_ble_eq_true rfl⟩
theorem c_13_151_11 : xCv 13 151 11 89 0 := ⟨3, List.mem_of_getElem? (i := 269) rfl, by decide, Nat.le_of_ble_eq_true rfl⟩
theorem c_13_154_12 : xCv 13 154 12 211 0 := ⟨3, List.mem_of_getElem? (i := 270) rfl, by decide, Nat.le_of_ble_eq_true rfl⟩
theorem c_13_155_11 : xCv 13 155 11 90 2 := ⟨3, List.mem_of_getElem? (i := 271) rfl, by decide, Nat.le_of_ble_eq_true rfl⟩
theorem c_13_158_12 : xCv 13 158 12 212 2 := ⟨3, List.mem_of_getElem? (i := 272) rfl, by decide, Nat.le_of_ble_eq_true rfl⟩
theorem c_13_159_11 : xCv 13 159 11 91 0 := ⟨3, List.mem_of_getElem? (i := 273) rfl, by decide, Nat.le_of_ble_eq_true rfl⟩
theorem c_13_162_12 : xCv 13 162 12 213 0 := ⟨3, List.mem_of_getElem? (i := 274) rfl, by decide, Nat.le_of_ble_eq_true rfl⟩
theorem c_13_163_11 : xCv 13 163 11 92 0 := ⟨3, List.mem_of_getElem? (i := 275) rfl, by decide, Nat.le_of_ble_eq_true rfl⟩
theorem c_13_166_12 : xCv 13 166 12 214 0 := ⟨3, List.mem_of_getElem? (i := 276) rfl, by decide, Nat.le_of_ble_eq_true rfl⟩
theorem c_13_167_11 : xCv 13 167 11 93 3 := ⟨3, List.mem_of_getElem? (i := 277) rfl, by decide, Nat.le_of_ble_eq_true rfl⟩
theorem c_13_170_12 : xCv 13 170 12 223 3 := ⟨3, List.mem_of_getElem? (i := 278) rfl, by decide, Nat.le_of_ble_eq_true rfl⟩
theorem c_13_171_11 : xCv 13 171 11 94 1 := ⟨3, List.mem_of_getElem? (i := 279) rfl, by decide, Nat.le_of_ble_eq_true rfl⟩
theorem c_13_174_12 : xCv 13 174 12 224 1 := ⟨3, List.mem_of_getElem? (i := 280) rfl, by decide, Nat.le_of_ble_eq_true rfl⟩
theorem c_13_175_11 : xCv 13 175 11 95 2 := ⟨3, List.mem_of_getElem? (i := 281) rfl, by decide, Nat.le_of_ble_eq_true rfl⟩
theorem c_13_178_12 : xCv 13 178 12 225 2 := ⟨3, List.mem_of_getElem? (i := 282) rfl, by decide, Nat.le_of_ble_eq_true rfl⟩
theorem c_13_179_11 : xCv 13 179 11 96 1 := ⟨3, List.mem_of_getElem? (i := 283) rfl, by decide, Nat.le_of_ble_eq_true rfl⟩
theorem c_13_182_12 : xCv 13 182 12 226 1 := ⟨3, List.mem_of_getElem? (i := 284) rfl, by decide, Nat.le_of_ble_eq_true rfl⟩
theorem c_13_183_11 : xCv 13 183 11 97 3 := ⟨3, List.mem_of_getElem? (i := 285) rfl, by decide, Nat.le_of_ble_eq_true rfl⟩
theorem c_13_186_12 : xCv 13 186 12 228 3 := ⟨3, List.mem_of_getElem? (i := 286) rfl, by decide, Nat.le_of_ble_eq_true rfl⟩
theorem c_13_189_11 : xCv 13 189 11 98 3 := ⟨3, List.mem_of_getElem? (i := 287) rfl, by decide, Nat.le_of_ble_eq_true rfl⟩
theorem c_13_193_12 : xCv 13 193 12 230 3 := ⟨3, List.mem_of_getElem? (i := 288) rfl, by decide, Nat.le_of_ble_eq_true rfl⟩
theorem c_13_194_11 : xCv 13 194 11 99 2 := ⟨3, List.mem_of_getElem? (i := 289) rfl, by decide, Nat.le_of_ble_eq_true rfl⟩
theorem c_13_197_12 : xCv 13 197 12 231 2 := ⟨3, List.mem_of_getElem? (i := 290) rfl, by decide, Nat.le_of_ble_eq_true rfl⟩
theorem c_13_198_11 : xCv 13 198 11 100 5 := ⟨3, List.mem_of_getElem? (i := 291) rfl, by decide, Nat.le_of_ble_eq_true rfl⟩
theorem c_13_201_12 : xCv 13 201 12 232 5 := ⟨3, List.mem_of_getElem? (i := 292) rfl, by decide, Nat.le_of_ble_eq_true rfl⟩
theorem c_16_335 : xCs9 16 335 237 0 := ⟨List.mem_of_getElem? (i := 293) rfl, Nat.le_of_ble_eq_true rfl⟩
theorem c_16_492 : xCs9 16 492 238 0 := ⟨List.mem_of_getElem? (i := 294) rfl, Nat.le_of_ble_eq_true rfl⟩
theorem c_16_495 : xCs 16 495 240 2 := ⟨0, List.mem_of_getElem? (i := 295) rfl, by decide, Nat.le_of_ble_eq_true rfl⟩
theorem c_16_1059 : xCs 16 1059 243 3 := ⟨0, List.mem_of_getElem? (i := 296) rfl, by decide, Nat.le_of_ble_eq_true rfl⟩
theorem c_17_9 : xCs 17 9 239 2 := ⟨0, List.mem_of_getElem? (i := 297) rfl, by decide, Nat.le_of_ble_eq_true rfl⟩
theorem rt_0 : xrt 0 = (Option.none : Option Jvm.ClassFile.FieldType) := rfl
theorem rt_1 : xrt 1 = (Option.some Jvm.ClassFile.FieldType.int) := rfl
theorem rt_2 : xrt 2 = (Option.some Jvm.ClassFile.FieldType.int) := rfl
theorem rt_3 : xrt 3 = (Option.none : Option Jvm.ClassFile.FieldType) := rfl
theorem rt_4 : xrt 4 = (Option.some Jvm.ClassFile.FieldType.int) := rfl
theorem rt_5 : xrt 5 = (Option.some Jvm.ClassFile.FieldType.int) := rfl
theorem rt_6 : xrt 6 = (Option.none : Option Jvm.ClassFile.FieldType) := rfl
theorem rt_7 : xrt 7 = (Option.some Jvm.ClassFile.FieldType.int) := rfl
theorem rt_8 : xrt 8 = (Option.some Jvm.ClassFile.FieldType.int) := rfl
theorem rt_9 : xrt 9 = (Option.some Jvm.ClassFile.FieldType.int) := rfl
theorem rt_10 : xrt 10 = (Option.some Jvm.ClassFile.FieldType.int) := rfl
theorem rt_11 : xrt 11 = (Option.none : Option Jvm.ClassFile.FieldType) := rfl
theorem rt_12 : xrt 12 = (Option.some Jvm.ClassFile.FieldType.boolean) := rfl
theorem rt_13 : xrt 13 = (Option.some Jvm.ClassFile.FieldType.boolean) := rfl
theorem rt_14 : xrt 14 = (Option.some Jvm.ClassFile.FieldType.int) := rfl
theorem rt_15 : xrt 15 = (Option.none : Option Jvm.ClassFile.FieldType) := rfl
theorem rt_16 : xrt 16 = (Option.none : Option Jvm.ClassFile.FieldType) := rfl
theorem rt_17 : xrt 17 = (Option.none : Option Jvm.ClassFile.FieldType) := rfl
theorem rt_18 : xrt 18 = (Option.some Jvm.ClassFile.FieldType.int) := rfl
theorem rt_19 : xrt 19 = (Option.some Jvm.ClassFile.FieldType.int) := rfl
theorem rt_20 : xrt 20 = (Option.some Jvm.ClassFile.FieldType.int) := rfl
theorem rt_21 : xrt 21 = (Option.none : Option Jvm.ClassFile.FieldType) := rfl
theorem rt_22 : xrt 22 = (Option.none : Option Jvm.ClassFile.FieldType) := rfl
theorem rt_23 : xrt 23 = (Option.some Jvm.ClassFile.FieldType.boolean) := rfl
theorem rt_24 : xrt 24 = (Option.some Jvm.ClassFile.FieldType.long) := rfl
theorem rt_25 : xrt 25 = (Option.none : Option Jvm.ClassFile.FieldType) := rfl
theorem rt_26 : xrt 26 = (Option.some Jvm.ClassFile.FieldType.int) := rfl
theorem rt_27 : xrt 27 = (Option.some Jvm.ClassFile.FieldType.int) := rfl
theorem rt_28 : xrt 28 = (Option.none : Option Jvm.ClassFile.FieldType) := rfl
theorem rt_29 : xrt 29 = (Option.some Jvm.ClassFile.FieldType.int) := rfl
theorem rt_30 : xrt 30 = (Option.some Jvm.ClassFile.FieldType.int) := rfl
theorem rt_31 : xrt 31 = (Option.some Jvm.ClassFile.FieldType.int) := rfl
theorem rt_32 : xrt 32 = (Option.none : Option Jvm.ClassFile.FieldType) := rfl
theorem rt_33 : xrt 33 = (Option.some Jvm.ClassFile.FieldType.int) := rfl
theorem rt_34 : xrt 34 = (Option.some Jvm.ClassFile.FieldType.int) := rfl
theorem rt_35 : xrt 35 = (Option.some Jvm.ClassFile.FieldType.int) := rfl
theorem rt_36 : xrt 36 = (Option.some Jvm.ClassFile.FieldType.boolean) := rfl
theorem rt_37 : xrt 37 = (Option.some Jvm.ClassFile.FieldType.int) := rfl
theorem rt_38 : xrt 38 = (Option.some Jvm.ClassFile.FieldType.boolean) := rfl
theorem rt_39 : xrt 39 = (Option.some Jvm.ClassFile.FieldType.int) := rfl
theorem rt_40 : xrt 40 = (Option.none : Option Jvm.ClassFile.FieldType) := rfl
theorem rt_41 : xrt 41 = (Option.none : Option Jvm.ClassFile.FieldType) := rfl
theorem rt_42 : xrt 42 = (Option.none : Option Jvm.ClassFile.FieldType) := rfl
theorem rt_43 : xrt 43 = (Option.some Jvm.ClassFile.FieldType.int) := rfl
theorem rt_44 : xrt 44 = (Option.none : Option Jvm.ClassFile.FieldType) := rfl
theorem rt_45 : xrt 45 = (Option.some Jvm.ClassFile.FieldType.boolean) := rfl
theorem rt_46 : xrt 46 = (Option.none : Option Jvm.ClassFile.FieldType) := rfl
theorem rt_47 : xrt 47 = (Option.some Jvm.ClassFile.FieldType.int) := rfl
theorem rt_48 : xrt 48 = (Option.none : Option Jvm.ClassFile.FieldType) := rfl
theorem rt_49 : xrt 49 = (Option.none : Option Jvm.ClassFile.FieldType) := rfl
theorem rt_50 : xrt 50 = (Option.none : Option Jvm.ClassFile.FieldType) := rfl
theorem rt_51 : xrt 51 = (Option.none : Option Jvm.ClassFile.FieldType) := rfl
theorem rt_52 : xrt 52 = (Option.some Jvm.ClassFile.FieldType.int) := rfl
theorem rt_53 : xrt 53 = (Option.some Jvm.ClassFile.FieldType.int) := rfl
theorem rt_54 : xrt 54 = (Option.none : Option Jvm.ClassFile.FieldType) := rfl
theorem rt_55 : xrt 55 = (Option.some Jvm.ClassFile.FieldType.int) := rfl
theorem rt_56 : xrt 56 = (Option.some Jvm.ClassFile.FieldType.int) := rfl
theorem rt_57 : xrt 57 = (Option.some (Jvm.ClassFile.FieldType.object "HatsDecide$Hat")) := rfl
theorem rt_58 : xrt 58 = (Option.some Jvm.ClassFile.FieldType.int) := rfl
theorem rt_59 : xrt 59 = (Option.some Jvm.ClassFile.FieldType.int) := rfl
theorem rt_60 : xrt 60 = (Option.some Jvm.ClassFile.FieldType.int) := rfl
theorem rt_61 : xrt 61 = (Option.some Jvm.ClassFile.FieldType.int) := rfl
theorem rt_62 : xrt 62 = (Option.some Jvm.ClassFile.FieldType.int) := rfl
theorem rt_63 : xrt 63 = (Option.some Jvm.ClassFile.FieldType.int) := rfl
theorem rt_64 : xrt 64 = (Option.some Jvm.ClassFile.FieldType.int) := rfl
theorem rt_65 : xrt 65 = (Option.some Jvm.ClassFile.FieldType.int) := rfl
theorem rt_66 : xrt 66 = (Option.some Jvm.ClassFile.FieldType.int) := rfl
theorem rt_67 : xrt 67 = (Option.some Jvm.ClassFile.FieldType.int) := rfl
theorem rt_68 : xrt 68 = (Option.some Jvm.ClassFile.FieldType.int) := rfl
theorem rt_69 : xrt 69 = (Option.some Jvm.ClassFile.FieldType.int) := rfl
theorem rt_70 : xrt 70 = (Option.some Jvm.ClassFile.FieldType.int) := rfl
theorem rt_71 : xrt 71 = (Option.some Jvm.ClassFile.FieldType.int) := rfl
theorem rt_72 : xrt 72 = (Option.some Jvm.ClassFile.FieldType.int) := rfl
theorem rt_73 : xrt 73 = (Option.some Jvm.ClassFile.FieldType.int) := rfl
theorem rt_74 : xrt 74 = (Option.some Jvm.ClassFile.FieldType.int) := rfl
theorem rt_75 : xrt 75 = (Option.some Jvm.ClassFile.FieldType.int) := rfl
theorem rt_76 : xrt 76 = (Option.some Jvm.ClassFile.FieldType.int) := rfl
theorem rt_77 : xrt 77 = (Option.some Jvm.ClassFile.FieldType.int) := rfl
theorem rt_78 : xrt 78 = (Option.some Jvm.ClassFile.FieldType.int) := rfl
theorem rt_79 : xrt 79 = (Option.some Jvm.ClassFile.FieldType.int) := rfl
theorem rt_80 : xrt 80 = (Option.some Jvm.ClassFile.FieldType.int) := rfl
theorem rt_81 : xrt 81 = (Option.some Jvm.ClassFile.FieldType.int) := rfl
theorem rt_82 : xrt 82 = (Option.some Jvm.ClassFile.FieldType.int) := rfl
theorem rt_83 : xrt 83 = (Option.some Jvm.ClassFile.FieldType.int) := rfl
theorem rt_84 : xrt 84 = (Option.some Jvm.ClassFile.FieldType.int) := rfl
theorem rt_85 : xrt 85 = (Option.some Jvm.ClassFile.FieldType.int) := rfl
theorem rt_86 : xrt 86 = (Option.some Jvm.ClassFile.FieldType.long) := rfl
theorem rt_87 : xrt 87 = (Option.some Jvm.ClassFile.FieldType.long) := rfl
theorem rt_88 : xrt 88 = (Option.some Jvm.ClassFile.FieldType.int) := rfl
theorem rt_89 : xrt 89 = (Option.some Jvm.ClassFile.FieldType.int) := rfl
theorem rt_90 : xrt 90 = (Option.some Jvm.ClassFile.FieldType.int) := rfl
theorem rt_91 : xrt 91 = (Option.some Jvm.ClassFile.FieldType.int) := rfl
theorem rt_92 : xrt 92 = (Option.some Jvm.ClassFile.FieldType.int) := rfl
theorem rt_93 : xrt 93 = (Option.some Jvm.ClassFile.FieldType.int) := rfl
theorem rt_94 : xrt 94 = (Option.some Jvm.ClassFile.FieldType.int) := rfl
theorem rt_95 : xrt 95 = (Option.some Jvm.ClassFile.FieldType.int) := rfl
theorem rt_96 : xrt 96 = (Option.some Jvm.ClassFile.FieldType.int) := rfl
theorem rt_97 : xrt 97 = (Option.some Jvm.ClassFile.FieldType.int) := rfl
theorem rt_98 : xrt 98 = (Option.some Jvm.ClassFile.FieldType.int) := rfl
theorem rt_99 : xrt 99 = (Option.some Jvm.ClassFile.FieldType.long) := rfl
theorem rt_100 : xrt 100 = (Option.some Jvm.ClassFile.FieldType.int) := rfl
theorem rt_101 : xrt 101 = (Option.some Jvm.ClassFile.FieldType.boolean) := rfl
theorem rt_102 : xrt 102 = (Option.some Jvm.ClassFile.FieldType.boolean) := rfl
theorem rt_103 : xrt 103 = (Option.some Jvm.ClassFile.FieldType.boolean) := rfl
theorem rt_104 : xrt 104 = (Option.some Jvm.ClassFile.FieldType.boolean) := rfl
theorem rt_105 : xrt 105 = (Option.some Jvm.ClassFile.FieldType.boolean) := rfl
theorem rt_106 : xrt 106 = (Option.some Jvm.ClassFile.FieldType.boolean) := rfl
theorem rt_107 : xrt 107 = (Option.some Jvm.ClassFile.FieldType.int) := rfl
theorem rt_108 : xrt 108 = (Option.some Jvm.ClassFile.FieldType.boolean) := rfl
theorem rt_109 : xrt 109 = (Option.some (Jvm.ClassFile.FieldType.object "HatsDecide$Town")) := rfl
theorem rt_110 : xrt 110 = (Option.some Jvm.ClassFile.FieldType.int) := rfl
theorem rt_111 : xrt 111 = (Option.some Jvm.ClassFile.FieldType.int) := rfl
theorem rt_112 : xrt 112 = (Option.some Jvm.ClassFile.FieldType.boolean) := rfl
theorem rt_113 : xrt 113 = (Option.none : Option Jvm.ClassFile.FieldType) := rfl
theorem rt_114 : xrt 114 = (Option.some Jvm.ClassFile.FieldType.int) := rfl
theorem rt_115 : xrt 115 = (Option.some Jvm.ClassFile.FieldType.int) := rfl
theorem rt_116 : xrt 116 = (Option.none : Option Jvm.ClassFile.FieldType) := rfl
theorem rt_117 : xrt 117 = (Option.some Jvm.ClassFile.FieldType.int) := rfl
theorem rt_118 : xrt 118 = (Option.some Jvm.ClassFile.FieldType.int) := rfl
theorem rt_119 : xrt 119 = (Option.some Jvm.ClassFile.FieldType.int) := rfl
theorem rt_120 : xrt 120 = (Option.some Jvm.ClassFile.FieldType.int) := rfl
theorem rt_121 : xrt 121 = (Option.some Jvm.ClassFile.FieldType.boolean) := rfl
theorem rt_122 : xrt 122 = (Option.some Jvm.ClassFile.FieldType.boolean) := rfl
theorem rt_123 : xrt 123 = (Option.some Jvm.ClassFile.FieldType.boolean) := rfl
theorem rt_124 : xrt 124 = (Option.some Jvm.ClassFile.FieldType.boolean) := rfl
theorem rt_125 : xrt 125 = (Option.some Jvm.ClassFile.FieldType.int) := rfl
theorem rt_126 : xrt 126 = (Option.none : Option Jvm.ClassFile.FieldType) := rfl
theorem rt_127 : xrt 127 = (Option.some Jvm.ClassFile.FieldType.long) := rfl
theorem rt_128 : xrt 128 = (Option.none : Option Jvm.ClassFile.FieldType) := rfl
theorem rt_129 : xrt 129 = (Option.some Jvm.ClassFile.FieldType.boolean) := rfl
theorem rt_130 : xrt 130 = (Option.some Jvm.ClassFile.FieldType.boolean) := rfl
theorem rt_131 : xrt 131 = (Option.some Jvm.ClassFile.FieldType.int) := rfl
theorem rt_132 : xrt 132 = (Option.some Jvm.ClassFile.FieldType.boolean) := rfl
theorem rt_133 : xrt 133 = (Option.some Jvm.ClassFile.FieldType.boolean) := rfl
theorem rt_134 : xrt 134 = (Option.some Jvm.ClassFile.FieldType.boolean) := rfl
theorem rt_135 : xrt 135 = (Option.some Jvm.ClassFile.FieldType.int) := rfl
theorem rt_136 : xrt 136 = (Option.some Jvm.ClassFile.FieldType.int) := rfl
theorem rt_137 : xrt 137 = (Option.some Jvm.ClassFile.FieldType.int) := rfl
theorem rt_138 : xrt 138 = (Option.some Jvm.ClassFile.FieldType.int) := rfl
theorem rt_139 : xrt 139 = (Option.some Jvm.ClassFile.FieldType.int) := rfl
theorem rt_140 : xrt 140 = (Option.some Jvm.ClassFile.FieldType.int) := rfl
theorem rt_141 : xrt 141 = (Option.some Jvm.ClassFile.FieldType.int) := rfl
theorem rt_142 : xrt 142 = (Option.some Jvm.ClassFile.FieldType.int) := rfl
theorem rt_143 : xrt 143 = (Option.some Jvm.ClassFile.FieldType.int) := rfl
theorem rt_144 : xrt 144 = (Option.some Jvm.ClassFile.FieldType.int) := rfl
theorem rt_145 : xrt 145 = (Option.some Jvm.ClassFile.FieldType.boolean) := rfl
theorem rt_146 : xrt 146 = (Option.some Jvm.ClassFile.FieldType.boolean) := rfl
theorem rt_147 : xrt 147 = (Option.some Jvm.ClassFile.FieldType.boolean) := rfl
theorem rt_148 : xrt 148 = (Option.some Jvm.ClassFile.FieldType.boolean) := rfl
theorem rt_149 : xrt 149 = (Option.none : Option Jvm.ClassFile.FieldType) := rfl
theorem rt_150 : xrt 150 = (Option.none : Option Jvm.ClassFile.FieldType) := rfl
theorem rt_151 : xrt 151 = (Option.none : Option Jvm.ClassFile.FieldType) := rfl
theorem rt_152 : xrt 152 = (Option.some Jvm.ClassFile.FieldType.int) := rfl
theorem rt_153 : xrt 153 = (Option.some Jvm.ClassFile.FieldType.boolean) := rfl
theorem rt_154 : xrt 154 = (Option.some Jvm.ClassFile.FieldType.boolean) := rfl
theorem rt_155 : xrt 155 = (Option.some Jvm.ClassFile.FieldType.boolean) := rfl
theorem rt_156 : xrt 156 = (Option.some Jvm.ClassFile.FieldType.boolean) := rfl
theorem rt_157 : xrt 157 = (Option.some Jvm.ClassFile.FieldType.boolean) := rfl
theorem rt_158 : xrt 158 = (Option.some Jvm.ClassFile.FieldType.int) := rfl
theorem rt_159 : xrt 159 = (Option.some Jvm.ClassFile.FieldType.int) := rfl
theorem rt_160 : xrt 160 = (Option.some Jvm.ClassFile.FieldType.int) := rfl
theorem rt_161 : xrt 161 = (Option.some Jvm.ClassFile.FieldType.int) := rfl
theorem rt_162 : xrt 162 = (Option.some Jvm.ClassFile.FieldType.int) := rfl
theorem rt_163 : xrt 163 = (Option.some Jvm.ClassFile.FieldType.int) := rfl
theorem rt_164 : xrt 164 = (Option.some Jvm.ClassFile.FieldType.boolean) := rfl
theorem rt_165 : xrt 165 = (Option.some Jvm.ClassFile.FieldType.int) := rfl
theorem rt_166 : xrt 166 = (Option.some Jvm.ClassFile.FieldType.int) := rfl
theorem rt_167 : xrt 167 = (Option.some Jvm.ClassFile.FieldType.int) := rfl
theorem rt_168 : xrt 168 = (Option.some Jvm.ClassFile.FieldType.int) := rfl
theorem rt_169 : xrt 169 = (Option.some Jvm.ClassFile.FieldType.int) := rfl
theorem rt_170 : xrt 170 = (Option.some Jvm.ClassFile.FieldType.int) := rfl
theorem rt_171 : xrt 171 = (Option.some Jvm.ClassFile.FieldType.int) := rfl
theorem rt_172 : xrt 172 = (Option.none : Option Jvm.ClassFile.FieldType) := rfl
theorem rt_173 : xrt 173 = (Option.some Jvm.ClassFile.FieldType.int) := rfl
theorem rt_174 : xrt 174 = (Option.some Jvm.ClassFile.FieldType.int) := rfl
theorem rt_175 : xrt 175 = (Option.some Jvm.ClassFile.FieldType.int) := rfl
theorem rt_176 : xrt 176 = (Option.none : Option Jvm.ClassFile.FieldType) := rfl
theorem rt_177 : xrt 177 = (Option.some Jvm.ClassFile.FieldType.int) := rfl
theorem rt_178 : xrt 178 = (Option.some Jvm.ClassFile.FieldType.int) := rfl
theorem rt_179 : xrt 179 = (Option.some Jvm.ClassFile.FieldType.int) := rfl
theorem rt_180 : xrt 180 = (Option.some Jvm.ClassFile.FieldType.int) := rfl
theorem rt_181 : xrt 181 = (Option.none : Option Jvm.ClassFile.FieldType) := rfl
theorem rt_182 : xrt 182 = (Option.none : Option Jvm.ClassFile.FieldType) := rfl
theorem rt_183 : xrt 183 = (Option.some Jvm.ClassFile.FieldType.int) := rfl
theorem rt_184 : xrt 184 = (Option.some Jvm.ClassFile.FieldType.int) := rfl
theorem rt_185 : xrt 185 = (Option.none : Option Jvm.ClassFile.FieldType) := rfl
theorem rt_186 : xrt 186 = (Option.some Jvm.ClassFile.FieldType.int) := rfl
theorem rt_187 : xrt 187 = (Option.some Jvm.ClassFile.FieldType.int) := rfl
theorem rt_188 : xrt 188 = (Option.none : Option Jvm.ClassFile.FieldType) := rfl
theorem rt_189 : xrt 189 = (Option.some Jvm.ClassFile.FieldType.int) := rfl
theorem rt_190 : xrt 190 = (Option.some Jvm.ClassFile.FieldType.int) := rfl
theorem rt_191 : xrt 191 = (Option.some Jvm.ClassFile.FieldType.int) := rfl
theorem rt_192 : xrt 192 = (Option.some Jvm.ClassFile.FieldType.boolean) := rfl
theorem rt_193 : xrt 193 = (Option.some Jvm.ClassFile.FieldType.int) := rfl
theorem rt_194 : xrt 194 = (Option.some Jvm.ClassFile.FieldType.boolean) := rfl
theorem rt_195 : xrt 195 = (Option.some Jvm.ClassFile.FieldType.int) := rfl
theorem rt_196 : xrt 196 = (Option.some Jvm.ClassFile.FieldType.int) := rfl
theorem rt_197 : xrt 197 = (Option.some Jvm.ClassFile.FieldType.int) := rfl
theorem rt_198 : xrt 198 = (Option.some Jvm.ClassFile.FieldType.int) := rfl
theorem rt_199 : xrt 199 = (Option.some Jvm.ClassFile.FieldType.int) := rfl
theorem rt_200 : xrt 200 = (Option.some Jvm.ClassFile.FieldType.int) := rfl
theorem rt_201 : xrt 201 = (Option.some Jvm.ClassFile.FieldType.int) := rfl
theorem rt_202 : xrt 202 = (Option.some Jvm.ClassFile.FieldType.int) := rfl
theorem rt_203 : xrt 203 = (Option.some Jvm.ClassFile.FieldType.int) := rfl
theorem rt_204 : xrt 204 = (Option.some Jvm.ClassFile.FieldType.int) := rfl
theorem rt_205 : xrt 205 = (Option.some Jvm.ClassFile.FieldType.int) := rfl
theorem rt_206 : xrt 206 = (Option.some Jvm.ClassFile.FieldType.int) := rfl
theorem rt_207 : xrt 207 = (Option.some Jvm.ClassFile.FieldType.long) := rfl
theorem rt_208 : xrt 208 = (Option.some Jvm.ClassFile.FieldType.long) := rfl
theorem rt_209 : xrt 209 = (Option.some Jvm.ClassFile.FieldType.long) := rfl
theorem rt_210 : xrt 210 = (Option.some Jvm.ClassFile.FieldType.int) := rfl
theorem rt_211 : xrt 211 = (Option.some Jvm.ClassFile.FieldType.int) := rfl
theorem rt_212 : xrt 212 = (Option.some Jvm.ClassFile.FieldType.int) := rfl
theorem rt_213 : xrt 213 = (Option.some Jvm.ClassFile.FieldType.int) := rfl
theorem rt_214 : xrt 214 = (Option.some Jvm.ClassFile.FieldType.int) := rfl
theorem rt_215 : xrt 215 = (Option.none : Option Jvm.ClassFile.FieldType) := rfl
theorem rt_216 : xrt 216 = (Option.some Jvm.ClassFile.FieldType.int) := rfl
theorem rt_217 : xrt 217 = (Option.some Jvm.ClassFile.FieldType.int) := rfl
theorem rt_218 : xrt 218 = (Option.some Jvm.ClassFile.FieldType.int) := rfl
theorem rt_219 : xrt 219 = (Option.some Jvm.ClassFile.FieldType.int) := rfl
theorem rt_220 : xrt 220 = (Option.some Jvm.ClassFile.FieldType.int) := rfl
theorem rt_221 : xrt 221 = (Option.some Jvm.ClassFile.FieldType.int) := rfl
theorem rt_222 : xrt 222 = (Option.some Jvm.ClassFile.FieldType.int) := rfl
theorem rt_223 : xrt 223 = (Option.some Jvm.ClassFile.FieldType.int) := rfl
theorem rt_224 : xrt 224 = (Option.some Jvm.ClassFile.FieldType.int) := rfl
theorem rt_225 : xrt 225 = (Option.some Jvm.ClassFile.FieldType.int) := rfl
theorem rt_226 : xrt 226 = (Option.some Jvm.ClassFile.FieldType.int) := rfl
theorem rt_227 : xrt 227 = (Option.some Jvm.ClassFile.FieldType.boolean) := rfl
theorem rt_228 : xrt 228 = (Option.some Jvm.ClassFile.FieldType.int) := rfl
theorem rt_229 : xrt 229 = (Option.some Jvm.ClassFile.FieldType.long) := rfl
theorem rt_230 : xrt 230 = (Option.some Jvm.ClassFile.FieldType.int) := rfl
theorem rt_231 : xrt 231 = (Option.some Jvm.ClassFile.FieldType.long) := rfl
theorem rt_232 : xrt 232 = (Option.some Jvm.ClassFile.FieldType.int) := rfl
theorem rt_233 : xrt 233 = (Option.some Jvm.ClassFile.FieldType.int) := rfl
theorem rt_234 : xrt 234 = (Option.some Jvm.ClassFile.FieldType.int) := rfl
theorem rt_235 : xrt 235 = (Option.some Jvm.ClassFile.FieldType.int) := rfl
theorem rt_236 : xrt 236 = (Option.some Jvm.ClassFile.FieldType.char) := rfl
theorem rt_237 : xrt 237 = (Option.some Jvm.ClassFile.FieldType.byte) := rfl
theorem rt_238 : xrt 238 = (Option.some Jvm.ClassFile.FieldType.boolean) := rfl
theorem rt_239 : xrt 239 = (Option.none : Option Jvm.ClassFile.FieldType) := rfl
theorem rt_240 : xrt 240 = (Option.some Jvm.ClassFile.FieldType.char) := rfl
theorem rt_241 : xrt 241 = (Option.none : Option Jvm.ClassFile.FieldType) := rfl
theorem rt_242 : xrt 242 = (Option.none : Option Jvm.ClassFile.FieldType) := rfl
theorem rt_243 : xrt 243 = (Option.some Jvm.ClassFile.FieldType.int) := rfl
theorem rt_244 : xrt 244 = some .boolean := rfl
theorem n_6_0_0 : xfin 6 2 0 0 = true := by decide +kernel
theorem n_6_1_0 : xfin 6 2 1 0 = true := by decide +kernel
theorem n_6_2_0 : xfin 6 2 2 0 = true := by decide +kernel
theorem n_6_4_0 : xfin 6 2 4 0 = true := by decide +kernel
theorem n_6_6_0 : xfin 6 2 6 0 = true := by decide +kernel
theorem n_6_7_0 : xfin 6 2 7 0 = true := by decide +kernel
theorem n_6_10_0 : xfin 6 2 10 0 = true := by decide +kernel
theorem n_6_0_1 : xfin 6 2 0 1 = true := by decide +kernel
theorem n_6_1_1 : xfin 6 2 1 1 = true := by decide +kernel
theorem n_6_2_1 : xfin 6 2 2 1 = true := by decide +kernel
theorem n_6_4_1 : xfin 6 2 4 1 = true := by decide +kernel
theorem n_6_6_1 : xfin 6 2 6 1 = true := by decide +kernel
theorem n_6_7_1 : xfin 6 2 7 1 = true := by decide +kernel
theorem n_6_10_1 : xfin 6 2 10 1 = true := by decide +kernel
theorem n_6_0_2 : xfin 6 2 0 2 = true := by decide +kernel
theorem n_6_1_2 : xfin 6 2 1 2 = true := by decide +kernel
theorem n_6_2_2 : xfin 6 2 2 2 = true := by decide +kernel
theorem n_6_4_2 : xfin 6 2 4 2 = true := by decide +kernel
theorem n_6_6_2 : xfin 6 2 6 2 = true := by decide +kernel
theorem n_6_7_2 : xfin 6 2 7 2 = true := by decide +kernel
theorem n_6_10_2 : xfin 6 2 10 2 = true := by decide +kernel
theorem n_6_0_3 : xfin 6 2 0 3 = true := by decide +kernel
theorem n_6_1_3 : xfin 6 2 1 3 = true := by decide +kernel
theorem n_6_2_3 : xfin 6 2 2 3 = true := by decide +kernel
theorem n_6_4_3 : xfin 6 2 4 3 = true := by decide +kernel
theorem n_6_6_3 : xfin 6 2 6 3 = true := by decide +kernel
theorem n_6_7_3 : xfin 6 2 7 3 = true := by decide +kernel
theorem n_6_10_3 : xfin 6 2 10 3 = true := by decide +kernel
theorem n_6_0_4 : xfin 6 2 0 4 = true := by decide +kernel
theorem n_6_1_4 : xfin 6 2 1 4 = true := by decide +kernel
theorem n_6_2_4 : xfin 6 2 2 4 = true := by decide +kernel
theorem n_6_4_4 : xfin 6 2 4 4 = true := by decide +kernel
theorem n_6_6_4 : xfin 6 2 6 4 = true := by decide +kernel
theorem n_6_7_4 : xfin 6 2 7 4 = true := by decide +kernel
theorem n_6_10_4 : xfin 6 2 10 4 = true := by decide +kernel
theorem n_6_0_5 : xfin 6 2 0 5 = true := by decide +kernel
theorem n_6_1_5 : xfin 6 2 1 5 = true := by decide +kernel
theorem n_6_2_5 : xfin 6 2 2 5 = true := by decide +kernel
theorem n_6_4_5 : xfin 6 2 4 5 = true := by decide +kernel
theorem n_6_6_5 : xfin 6 2 6 5 = true := by decide +kernel
theorem n_6_7_5 : xfin 6 2 7 5 = true := by decide +kernel
theorem n_6_10_5 : xfin 6 2 10 5 = true := by decide +kernel
theorem n_11_3_0 : xfin 11 3 3 0 = true := by decide +kernel
theorem n_11_3_1 : xfin 11 3 3 1 = true := by decide +kernel
theorem n_11_3_2 : xfin 11 3 3 2 = true := by decide +kernel
theorem n_11_3_3 : xfin 11 3 3 3 = true := by decide +kernel
theorem n_11_3_4 : xfin 11 3 3 4 = true := by decide +kernel
theorem n_11_3_5 : xfin 11 3 3 5 = true := by decide +kernel
theorem n_11_3_6 : xfin 11 3 3 6 = true := by decide +kernel
theorem n_11_3_7 : xfin 11 3 3 7 = true := by decide +kernel
theorem n_11_3_8 : xfin 11 3 3 8 = true := by decide +kernel
theorem n_11_3_9 : xfin 11 3 3 9 = true := by decide +kernel
theorem n_11_3_10 : xfin 11 3 3 10 = true := by decide +kernel
theorem n_11_3_11 : xfin 11 3 3 11 = true := by decide +kernel
theorem n_11_3_12 : xfin 11 3 3 12 = true := by decide +kernel
theorem n_11_3_13 : xfin 11 3 3 13 = true := by decide +kernel
theorem n_11_3_14 : xfin 11 3 3 14 = true := by decide +kernel
theorem n_11_3_15 : xfin 11 3 3 15 = true := by decide +kernel
theorem n_11_3_16 : xfin 11 3 3 16 = true := by decide +kernel
theorem n_11_3_17 : xfin 11 3 3 17 = true := by decide +kernel
theorem n_15_3_0 : xfin 15 3 3 0 = true := by decide +kernel
theorem n_15_3_4 : xfin 15 3 3 4 = true := by decide +kernel
theorem n_15_3_9 : xfin 15 3 3 9 = true := by decide +kernel
theorem n_15_3_11 : xfin 15 3 3 11 = true := by decide +kernel
theorem n_15_3_14 : xfin 15 3 3 14 = true := by decide +kernel
theorem n_15_3_17 : xfin 15 3 3 17 = true := by decide +kernel
theorem n_21_5_0 : xfin 21 5 5 0 = true := by decide +kernel
theorem n_21_5_1 : xfin 21 5 5 1 = true := by decide +kernel
theorem n_21_5_2 : xfin 21 5 5 2 = true := by decide +kernel
theorem n_22_5_0 : xfin 22 5 5 0 = true := by decide +kernel
theorem n_22_5_1 : xfin 22 5 5 1 = true := by decide +kernel
theorem n_32_8_0 : xfin 32 8 8 0 = true := by decide +kernel
theorem n_32_8_1 : xfin 32 8 8 1 = true := by decide +kernel
theorem n_32_8_2 : xfin 32 8 8 2 = true := by decide +kernel
theorem n_32_8_3 : xfin 32 8 8 3 = true := by decide +kernel
theorem n_32_8_4 : xfin 32 8 8 4 = true := by decide +kernel
theorem n_32_8_5 : xfin 32 8 8 5 = true := by decide +kernel
theorem n_32_8_6 : xfin 32 8 8 6 = true := by decide +kernel
theorem n_32_8_7 : xfin 32 8 8 7 = true := by decide +kernel
theorem n_32_8_8 : xfin 32 8 8 8 = true := by decide +kernel
theorem n_32_8_9 : xfin 32 8 8 9 = true := by decide +kernel
theorem n_32_8_10 : xfin 32 8 8 10 = true := by decide +kernel
theorem n_32_8_11 : xfin 32 8 8 11 = true := by decide +kernel
theorem n_39_8_8 : xfin 39 8 8 8 = true := by decide +kernel
theorem n_39_8_9 : xfin 39 8 8 9 = true := by decide +kernel
theorem n_39_8_10 : xfin 39 8 8 10 = true := by decide +kernel
theorem n_39_8_11 : xfin 39 8 8 11 = true := by decide +kernel
theorem n_39_8_0 : xfin 39 8 8 0 = true := by decide +kernel
theorem n_39_8_6 : xfin 39 8 8 6 = true := by decide +kernel
theorem n_44_8_6 : xfin 44 8 8 6 = true := by decide +kernel
theorem n_46_8_10 : xfin 46 8 8 10 = true := by decide +kernel
theorem n_46_8_11 : xfin 46 8 8 11 = true := by decide +kernel
theorem n_47_8_10 : xfin 47 8 8 10 = true := by decide +kernel
theorem n_47_8_11 : xfin 47 8 8 11 = true := by decide +kernel
theorem n_48_9_0 : xfin 48 9 9 0 = true := by decide +kernel
theorem n_48_9_1 : xfin 48 9 9 1 = true := by decide +kernel
theorem n_49_9_1 : xfin 49 9 9 1 = true := by decide +kernel
theorem n_50_9_1 : xfin 50 9 9 1 = true := by decide +kernel
theorem n_54_11_0 : xfin 54 11 11 0 = true := by decide +kernel
theorem n_54_11_1 : xfin 54 11 11 1 = true := by decide +kernel
theorem n_54_11_2 : xfin 54 11 11 2 = true := by decide +kernel
theorem n_54_11_3 : xfin 54 11 11 3 = true := by decide +kernel
theorem n_54_11_4 : xfin 54 11 11 4 = true := by decide +kernel
theorem n_54_11_5 : xfin 54 11 11 5 = true := by decide +kernel
theorem n_54_11_6 : xfin 54 11 11 6 = true := by decide +kernel
theorem n_54_11_7 : xfin 54 11 11 7 = true := by decide +kernel
theorem n_54_11_8 : xfin 54 11 11 8 = true := by decide +kernel
theorem n_54_11_9 : xfin 54 11 11 9 = true := by decide +kernel
theorem n_54_11_10 : xfin 54 11 11 10 = true := by decide +kernel
theorem n_54_11_11 : xfin 54 11 11 11 = true := by decide +kernel
theorem n_54_11_12 : xfin 54 11 11 12 = true := by decide +kernel
theorem n_54_11_13 : xfin 54 11 11 13 = true := by decide +kernel
theorem n_54_11_14 : xfin 54 11 11 14 = true := by decide +kernel
theorem n_55_3_0 : xfin 55 11 3 0 = true := by decide +kernel
theorem n_56_3_4 : xfin 56 11 3 4 = true := by decide +kernel
theorem n_64_11_4 : xfin 64 11 11 4 = true := by decide +kernel
theorem n_65_11_4 : xfin 65 11 11 4 = true := by decide +kernel
theorem n_65_3_17 : xfin 65 11 3 17 = true := by decide +kernel
theorem n_65_11_7 : xfin 65 11 11 7 = true := by decide +kernel
theorem n_67_3_9 : xfin 67 11 3 9 = true := by decide +kernel
theorem n_83_3_11 : xfin 83 11 3 11 = true := by decide +kernel
theorem n_88_3_14 : xfin 88 11 3 14 = true := by decide +kernel
theorem n_91_11_2 : xfin 91 11 11 2 = true := by decide +kernel
theorem n_128_12_0 : xfin 128 12 12 0 = true := by decide +kernel
theorem n_128_12_1 : xfin 128 12 12 1 = true := by decide +kernel
theorem n_128_12_2 : xfin 128 12 12 2 = true := by decide +kernel
theorem n_128_12_3 : xfin 128 12 12 3 = true := by decide +kernel
theorem n_128_12_4 : xfin 128 12 12 4 = true := by decide +kernel
theorem n_128_12_5 : xfin 128 12 12 5 = true := by decide +kernel
theorem n_128_12_6 : xfin 128 12 12 6 = true := by decide +kernel
theorem n_128_12_7 : xfin 128 12 12 7 = true := by decide +kernel
theorem n_128_12_8 : xfin 128 12 12 8 = true := by decide +kernel
theorem n_128_12_9 : xfin 128 12 12 9 = true := by decide +kernel
theorem n_128_12_10 : xfin 128 12 12 10 = true := by decide +kernel
theorem n_128_12_11 : xfin 128 12 12 11 = true := by decide +kernel
theorem n_128_12_12 : xfin 128 12 12 12 = true := by decide +kernel
theorem n_128_12_13 : xfin 128 12 12 13 = true := by decide +kernel
theorem n_128_12_14 : xfin 128 12 12 14 = true := by decide +kernel
theorem n_128_12_15 : xfin 128 12 12 15 = true := by decide +kernel
theorem n_128_12_16 : xfin 128 12 12 16 = true := by decide +kernel
theorem n_128_12_17 : xfin 128 12 12 17 = true := by decide +kernel
theorem n_128_12_18 : xfin 128 12 12 18 = true := by decide +kernel
theorem n_128_12_19 : xfin 128 12 12 19 = true := by decide +kernel
theorem n_128_12_20 : xfin 128 12 12 20 = true := by decide +kernel
theorem n_128_12_21 : xfin 128 12 12 21 = true := by decide +kernel
theorem n_128_12_22 : xfin 128 12 12 22 = true := by decide +kernel
theorem n_128_12_23 : xfin 128 12 12 23 = true := by decide +kernel
theorem n_128_12_24 : xfin 128 12 12 24 = true := by decide +kernel
theorem n_128_12_25 : xfin 128 12 12 25 = true := by decide +kernel
theorem n_128_12_26 : xfin 128 12 12 26 = true := by decide +kernel
theorem n_128_12_27 : xfin 128 12 12 27 = true := by decide +kernel
theorem n_128_12_28 : xfin 128 12 12 28 = true := by decide +kernel
theorem n_128_12_29 : xfin 128 12 12 29 = true := by decide +kernel
theorem n_128_12_30 : xfin 128 12 12 30 = true := by decide +kernel
theorem n_128_12_31 : xfin 128 12 12 31 = true := by decide +kernel
theorem n_128_12_32 : xfin 128 12 12 32 = true := by decide +kernel
theorem n_128_12_33 : xfin 128 12 12 33 = true := by decide +kernel
theorem n_128_12_34 : xfin 128 12 12 34 = true := by decide +kernel
theorem n_128_12_35 : xfin 128 12 12 35 = true := by decide +kernel
theorem n_128_12_36 : xfin 128 12 12 36 = true := by decide +kernel
theorem n_128_12_37 : xfin 128 12 12 37 = true := by decide +kernel
theorem n_128_12_38 : xfin 128 12 12 38 = true := by decide +kernel
theorem n_128_12_39 : xfin 128 12 12 39 = true := by decide +kernel
theorem n_128_12_40 : xfin 128 12 12 40 = true := by decide +kernel
theorem n_128_12_41 : xfin 128 12 12 41 = true := by decide +kernel
theorem n_128_12_42 : xfin 128 12 12 42 = true := by decide +kernel
theorem n_128_12_43 : xfin 128 12 12 43 = true := by decide +kernel
theorem n_128_12_44 : xfin 128 12 12 44 = true := by decide +kernel
theorem n_128_12_45 : xfin 128 12 12 45 = true := by decide +kernel
theorem n_128_12_46 : xfin 128 12 12 46 = true := by decide +kernel
theorem n_128_12_47 : xfin 128 12 12 47 = true := by decide +kernel
theorem n_128_12_48 : xfin 128 12 12 48 = true := by decide +kernel
theorem n_128_12_49 : xfin 128 12 12 49 = true := by decide +kernel
theorem n_128_12_50 : xfin 128 12 12 50 = true := by decide +kernel
theorem n_128_12_51 : xfin 128 12 12 51 = true := by decide +kernel
theorem n_128_12_52 : xfin 128 12 12 52 = true := by decide +kernel
theorem n_128_12_53 : xfin 128 12 12 53 = true := by decide +kernel
theorem n_128_12_54 : xfin 128 12 12 54 = true := by decide +kernel
theorem n_128_12_55 : xfin 128 12 12 55 = true := by decide +kernel
theorem n_128_12_56 : xfin 128 12 12 56 = true := by decide +kernel
theorem n_128_12_57 : xfin 128 12 12 57 = true := by decide +kernel
theorem n_128_12_58 : xfin 128 12 12 58 = true := by decide +kernel
theorem n_128_12_59 : xfin 128 12 12 59 = true := by decide +kernel
theorem n_128_12_60 : xfin 128 12 12 60 = true := by decide +kernel
theorem n_128_12_61 : xfin 128 12 12 61 = true := by decide +kernel
theorem n_128_12_62 : xfin 128 12 12 62 = true := by decide +kernel
theorem n_128_12_63 : xfin 128 12 12 63 = true := by decide +kernel
theorem n_128_12_64 : xfin 128 12 12 64 = true := by decide +kernel
theorem n_128_12_65 : xfin 128 12 12 65 = true := by decide +kernel
theorem n_128_12_66 : xfin 128 12 12 66 = true := by decide +kernel
theorem n_128_12_67 : xfin 128 12 12 67 = true := by decide +kernel
theorem n_128_12_68 : xfin 128 12 12 68 = true := by decide +kernel
theorem n_128_12_69 : xfin 128 12 12 69 = true := by decide +kernel
theorem n_128_12_70 : xfin 128 12 12 70 = true := by decide +kernel
theorem n_128_12_71 : xfin 128 12 12 71 = true := by decide +kernel
theorem n_128_12_72 : xfin 128 12 12 72 = true := by decide +kernel
theorem n_128_12_73 : xfin 128 12 12 73 = true := by decide +kernel
theorem n_128_12_74 : xfin 128 12 12 74 = true := by decide +kernel
theorem n_128_12_75 : xfin 128 12 12 75 = true := by decide +kernel
theorem n_128_12_76 : xfin 128 12 12 76 = true := by decide +kernel
theorem n_128_12_77 : xfin 128 12 12 77 = true := by decide +kernel
theorem n_136_12_0 : xfin 136 12 12 0 = true := by decide +kernel
theorem n_137_12_1 : xfin 137 12 12 1 = true := by decide +kernel
theorem n_143_12_16 : xfin 143 12 12 16 = true := by decide +kernel
theorem n_145_12_17 : xfin 145 12 12 17 = true := by decide +kernel
theorem n_148_12_18 : xfin 148 12 12 18 = true := by decide +kernel
theorem n_148_12_17 : xfin 148 12 12 17 = true := by decide +kernel
theorem n_149_12_28 : xfin 149 12 12 28 = true := by decide +kernel
theorem n_150_12_29 : xfin 150 12 12 29 = true := by decide +kernel
theorem n_150_12_30 : xfin 150 12 12 30 = true := by decide +kernel
theorem n_151_12_29 : xfin 151 12 12 29 = true := by decide +kernel
theorem n_153_12_17 : xfin 153 12 12 17 = true := by decide +kernel
theorem n_154_12_29 : xfin 154 12 12 29 = true := by decide +kernel
theorem n_154_12_30 : xfin 154 12 12 30 = true := by decide +kernel
theorem n_154_12_17 : xfin 154 12 12 17 = true := by decide +kernel
theorem n_157_12_17 : xfin 157 12 12 17 = true := by decide +kernel
theorem n_157_12_28 : xfin 157 12 12 28 = true := by decide +kernel
theorem n_158_12_16 : xfin 158 12 12 16 = true := by decide +kernel
theorem n_158_12_15 : xfin 158 12 12 15 = true := by decide +kernel
theorem n_158_12_14 : xfin 158 12 12 14 = true := by decide +kernel
theorem n_172_12_2 : xfin 172 12 12 2 = true := by decide +kernel
theorem n_181_12_33 : xfin 181 12 12 33 = true := by decide +kernel
theorem n_181_12_35 : xfin 181 12 12 35 = true := by decide +kernel
theorem n_182_12_33 : xfin 182 12 12 33 = true := by decide +kernel
theorem n_182_12_2 : xfin 182 12 12 2 = true := by decide +kernel
theorem n_188_12_40 : xfin 188 12 12 40 = true := by decide +kernel
theorem n_202_12_43 : xfin 202 12 12 43 = true := by decide +kernel
theorem n_210_12_47 : xfin 210 12 12 47 = true := by decide +kernel
theorem n_213_12_50 : xfin 213 12 12 50 = true := by decide +kernel
theorem n_213_12_51 : xfin 213 12 12 51 = true := by decide +kernel
theorem n_213_12_52 : xfin 213 12 12 52 = true := by decide +kernel
theorem n_213_12_53 : xfin 213 12 12 53 = true := by decide +kernel
theorem n_213_12_54 : xfin 213 12 12 54 = true := by decide +kernel
theorem n_213_12_55 : xfin 213 12 12 55 = true := by decide +kernel
theorem n_213_12_56 : xfin 213 12 12 56 = true := by decide +kernel
theorem n_214_12_15 : xfin 214 12 12 15 = true := by decide +kernel
theorem n_214_12_0 : xfin 214 12 12 0 = true := by decide +kernel
theorem n_214_12_1 : xfin 214 12 12 1 = true := by decide +kernel
theorem n_214_12_2 : xfin 214 12 12 2 = true := by decide +kernel
theorem n_214_12_43 : xfin 214 12 12 43 = true := by decide +kernel
theorem n_214_12_47 : xfin 214 12 12 47 = true := by decide +kernel
theorem n_215_12_72 : xfin 215 12 12 72 = true := by decide +kernel
theorem n_223_12_72 : xfin 223 12 12 72 = true := by decide +kernel
theorem upc_uu {α : Type} (f : Nat → α) (a : Nat) (g g2 : α) : upc (upc f a g) a g2 = upc f a g2 := by
  funext c
  unfold upc
  by_cases hc : c = a
  · rw [if_pos hc, if_pos hc]
  · rw [if_neg hc, if_neg hc, if_neg hc]
theorem upc_self {α : Type} (f : Nat → α) (a : Nat) : upc f a (f a) = f := by
  funext c
  unfold upc
  by_cases hc : c = a
  · rw [if_pos hc, hc]
  · rw [if_neg hc]
theorem upc_sw {α : Type} (f : Nat → α) {a b : Nat} (hab : a ≠ b) (g g2 : α) : upc (upc f a g) b g2 = upc (upc f b g2) a g := by
  funext c
  unfold upc
  by_cases h1 : c = a
  · subst h1
    rw [if_neg hab, if_pos rfl, if_pos rfl]
  · rw [if_neg h1]
    rw [if_neg h1]
