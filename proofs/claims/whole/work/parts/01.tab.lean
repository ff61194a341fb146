/-! the tables: the privates, the words that are kept, the classes, the methods, the fields, the calls -/
theorem xt1 {i : Nat} {w : Cond} (h : tables_1_1[i]? = some w) : w ∈ tables_1 := List.mem_append_left _ (List.mem_of_getElem? h)
theorem xt2 {i : Nat} {w : Cond} (h : tables_1_2[i]? = some w) : w ∈ tables_1 := List.mem_append_right _ (List.mem_append_left _ (List.mem_of_getElem? h))
theorem xt3 {i : Nat} {w : Cond} (h : tables_1_3[i]? = some w) : w ∈ tables_1 := List.mem_append_right _ (List.mem_append_right _ (List.mem_append_left _ (List.mem_of_getElem? h)))
theorem xt4 {i : Nat} {w : Cond} (h : tables_1_4[i]? = some w) : w ∈ tables_1 := List.mem_append_right _ (List.mem_append_right _ (List.mem_append_right _ (List.mem_append_left _ (List.mem_of_getElem? h))))
theorem xt5 {i : Nat} {w : Cond} (h : tables_1_5[i]? = some w) : w ∈ tables_1 := List.mem_append_right _ (List.mem_append_right _ (List.mem_append_right _ (List.mem_append_right _ (List.mem_append_left _ (List.mem_of_getElem? h)))))
theorem xt6 {i : Nat} {w : Cond} (h : tables_1_6[i]? = some w) : w ∈ tables_1 := List.mem_append_right _ (List.mem_append_right _ (List.mem_append_right _ (List.mem_append_right _ (List.mem_append_right _ (List.mem_append_left _ (List.mem_of_getElem? h))))))
theorem xt7 {i : Nat} {w : Cond} (h : tables_1_7[i]? = some w) : w ∈ tables_1 := List.mem_append_right _ (List.mem_append_right _ (List.mem_append_right _ (List.mem_append_right _ (List.mem_append_right _ (List.mem_append_right _ (List.mem_of_getElem? h))))))
def lw_okq (q : MethodName × Nat) : Prop := (q.1.cls ≠ "java/lang/invoke/MethodHandle" ∧ q.1.cls ≠ "java/lang/invoke/VarHandle") ∧ Cond.instantiable q.1.cls q.2 ∈ tables_1 ∧ Cond.privateMethod q.1 ∈ tables_1 ∧ Cond.instanceMethod q.1 ∈ tables_1
theorem xnh0 : ("HatsDecide" : String) ≠ "java/lang/invoke/MethodHandle" ∧ ("HatsDecide" : String) ≠ "java/lang/invoke/VarHandle" := ⟨by decide +kernel, by decide +kernel⟩
theorem xnh1 : ("HatsDecide$Crown" : String) ≠ "java/lang/invoke/MethodHandle" ∧ ("HatsDecide$Crown" : String) ≠ "java/lang/invoke/VarHandle" := ⟨by decide +kernel, by decide +kernel⟩
theorem xnh2 : ("HatsDecide$Frayed" : String) ≠ "java/lang/invoke/MethodHandle" ∧ ("HatsDecide$Frayed" : String) ≠ "java/lang/invoke/VarHandle" := ⟨by decide +kernel, by decide +kernel⟩
theorem xnh3 : ("HatsDecide$Hat" : String) ≠ "java/lang/invoke/MethodHandle" ∧ ("HatsDecide$Hat" : String) ≠ "java/lang/invoke/VarHandle" := ⟨by decide +kernel, by decide +kernel⟩
theorem xnh4 : ("HatsDecide$Scene" : String) ≠ "java/lang/invoke/MethodHandle" ∧ ("HatsDecide$Scene" : String) ≠ "java/lang/invoke/VarHandle" := ⟨by decide +kernel, by decide +kernel⟩
theorem xnh5 : ("HatsDecide$Stiff" : String) ≠ "java/lang/invoke/MethodHandle" ∧ ("HatsDecide$Stiff" : String) ≠ "java/lang/invoke/VarHandle" := ⟨by decide +kernel, by decide +kernel⟩
theorem xnh6 : ("HatsDecide$Tape" : String) ≠ "java/lang/invoke/MethodHandle" ∧ ("HatsDecide$Tape" : String) ≠ "java/lang/invoke/VarHandle" := ⟨by decide +kernel, by decide +kernel⟩
theorem xnh7 : ("HatsDecide$Tight" : String) ≠ "java/lang/invoke/MethodHandle" ∧ ("HatsDecide$Tight" : String) ≠ "java/lang/invoke/VarHandle" := ⟨by decide +kernel, by decide +kernel⟩
theorem xnh8 : ("HatsDecide$Told" : String) ≠ "java/lang/invoke/MethodHandle" ∧ ("HatsDecide$Told" : String) ≠ "java/lang/invoke/VarHandle" := ⟨by decide +kernel, by decide +kernel⟩
theorem xnh9 : ("HatsDecide$Town" : String) ≠ "java/lang/invoke/MethodHandle" ∧ ("HatsDecide$Town" : String) ≠ "java/lang/invoke/VarHandle" := ⟨by decide +kernel, by decide +kernel⟩
theorem xnh10 : ("HatsDecide$Trace" : String) ≠ "java/lang/invoke/MethodHandle" ∧ ("HatsDecide$Trace" : String) ≠ "java/lang/invoke/VarHandle" := ⟨by decide +kernel, by decide +kernel⟩
theorem xnh11 : ("HatsDecide$Worn" : String) ≠ "java/lang/invoke/MethodHandle" ∧ ("HatsDecide$Worn" : String) ≠ "java/lang/invoke/VarHandle" := ⟨by decide +kernel, by decide +kernel⟩
theorem xnh12 : ("HatsDecideModel" : String) ≠ "java/lang/invoke/MethodHandle" ∧ ("HatsDecideModel" : String) ≠ "java/lang/invoke/VarHandle" := ⟨by decide +kernel, by decide +kernel⟩
theorem xnh13 : ("java/lang/Integer" : String) ≠ "java/lang/invoke/MethodHandle" ∧ ("java/lang/Integer" : String) ≠ "java/lang/invoke/VarHandle" := ⟨by decide +kernel, by decide +kernel⟩
theorem xnh14 : ("java/lang/String" : String) ≠ "java/lang/invoke/MethodHandle" ∧ ("java/lang/String" : String) ≠ "java/lang/invoke/VarHandle" := ⟨by decide +kernel, by decide +kernel⟩
theorem xnh15 : ("java/lang/StringLatin1" : String) ≠ "java/lang/invoke/MethodHandle" ∧ ("java/lang/StringLatin1" : String) ≠ "java/lang/invoke/VarHandle" := ⟨by decide +kernel, by decide +kernel⟩
theorem xnh16 : ("java/util/Arrays" : String) ≠ "java/lang/invoke/MethodHandle" ∧ ("java/util/Arrays" : String) ≠ "java/lang/invoke/VarHandle" := ⟨by decide +kernel, by decide +kernel⟩
theorem xnh17 : ("jdk/internal/util/Preconditions" : String) ≠ "java/lang/invoke/MethodHandle" ∧ ("jdk/internal/util/Preconditions" : String) ≠ "java/lang/invoke/VarHandle" := ⟨by decide +kernel, by decide +kernel⟩
theorem lw_p0 : lw_okq (⟨"HatsDecide", "newHat", "(IIIII)LHatsDecide$Hat;"⟩, 15) := ⟨xnh0, xt1 (i := 23) rfl, xt2 (i := 29) rfl, xt2 (i := 30) rfl⟩
theorem lw_p1 : lw_okq (⟨"HatsDecide", "deedOn", "(III)I"⟩, 15) := ⟨xnh0, xt1 (i := 23) rfl, xt2 (i := 179) rfl, xt2 (i := 180) rfl⟩
theorem lw_p2 : lw_okq (⟨"HatsDecide", "holding", "()LHatsDecide$Town;"⟩, 15) := ⟨xnh0, xt1 (i := 23) rfl, xt2 (i := 183) rfl, xt2 (i := 184) rfl⟩
theorem lw_p3 : lw_okq (⟨"HatsDecide$Town", "holds", "(I[I)Z"⟩, 12) := ⟨xnh9, xt1 (i := 114) rfl, xt2 (i := 198) rfl, xt2 (i := 199) rfl⟩
theorem lw_p4 : lw_okq (⟨"HatsDecide", "isHeadOrEmpty", "(I)Z"⟩, 15) := ⟨xnh0, xt1 (i := 23) rfl, xt3 (i := 17) rfl, xt3 (i := 18) rfl⟩
theorem lw_p5 : lw_okq (⟨"HatsDecide$Town", "expect", "(C)V"⟩, 12) := ⟨xnh9, xt1 (i := 114) rfl, xt3 (i := 44) rfl, xt3 (i := 45) rfl⟩
theorem lw_p6 : lw_okq (⟨"HatsDecide$Town", "isNext", "(C)Z"⟩, 12) := ⟨xnh9, xt1 (i := 114) rfl, xt3 (i := 48) rfl, xt3 (i := 49) rfl⟩
theorem lw_p7 : lw_okq (⟨"HatsDecide$Town", "parseClause", "(I)V"⟩, 12) := ⟨xnh9, xt1 (i := 114) rfl, xt3 (i := 52) rfl, xt3 (i := 53) rfl⟩
theorem lw_p8 : lw_okq (⟨"HatsDecide$Town", "oneOf", "(Ljava/lang/String;)I"⟩, 12) := ⟨xnh9, xt1 (i := 114) rfl, xt3 (i := 57) rfl, xt3 (i := 58) rfl⟩
theorem lw_p9 : lw_okq (⟨"HatsDecide$Town", "parseNumber", "()I"⟩, 12) := ⟨xnh9, xt1 (i := 114) rfl, xt3 (i := 100) rfl, xt3 (i := 101) rfl⟩
theorem lw_p10 : lw_okq (⟨"HatsDecide$Town", "parseEither", "(I)V"⟩, 12) := ⟨xnh9, xt1 (i := 114) rfl, xt3 (i := 106) rfl, xt3 (i := 107) rfl⟩
theorem lw_p11 : lw_okq (⟨"HatsDecide$Town", "parsePart", "(I)V"⟩, 12) := ⟨xnh9, xt1 (i := 114) rfl, xt3 (i := 110) rfl, xt3 (i := 111) rfl⟩
theorem lw_p12 : lw_okq (⟨"HatsDecide$Town", "addCode", "(I)V"⟩, 12) := ⟨xnh9, xt1 (i := 114) rfl, xt3 (i := 114) rfl, xt3 (i := 115) rfl⟩
theorem lw_p13 : lw_okq (⟨"HatsDecide", "total", "(III)I"⟩, 15) := ⟨xnh0, xt1 (i := 23) rfl, xt3 (i := 134) rfl, xt3 (i := 135) rfl⟩
theorem lw_p14 : lw_okq (⟨"HatsDecide", "isEnough", "(III)Z"⟩, 15) := ⟨xnh0, xt1 (i := 23) rfl, xt3 (i := 162) rfl, xt3 (i := 163) rfl⟩
theorem lw_p15 : lw_okq (⟨"HatsDecide", "noteDeeds", "()V"⟩, 15) := ⟨xnh0, xt1 (i := 23) rfl, xt3 (i := 182) rfl, xt3 (i := 183) rfl⟩
theorem lw_p16 : lw_okq (⟨"HatsDecide", "weighWays", "(I)V"⟩, 15) := ⟨xnh0, xt1 (i := 23) rfl, xt3 (i := 186) rfl, xt3 (i := 187) rfl⟩
theorem lw_p17 : lw_okq (⟨"HatsDecide", "mostFrom", "(III)I"⟩, 15) := ⟨xnh0, xt1 (i := 23) rfl, xt3 (i := 196) rfl, xt3 (i := 197) rfl⟩
theorem lw_p18 : lw_okq (⟨"HatsDecide", "mostWith", "(III)I"⟩, 15) := ⟨xnh0, xt1 (i := 23) rfl, xt3 (i := 200) rfl, xt3 (i := 201) rfl⟩
theorem lw_p19 : lw_okq (⟨"HatsDecide", "noted", "(II)I"⟩, 15) := ⟨xnh0, xt1 (i := 23) rfl, xt3 (i := 204) rfl, xt3 (i := 205) rfl⟩
theorem lw_p20 : lw_okq (⟨"HatsDecide", "wornByBestWay", "(I)I"⟩, 15) := ⟨xnh0, xt1 (i := 23) rfl, xt3 (i := 209) rfl, xt3 (i := 210) rfl⟩
theorem lw_p21 : lw_okq (⟨"HatsDecide", "firstOfBest", "(II)I"⟩, 15) := ⟨xnh0, xt1 (i := 23) rfl, xt3 (i := 213) rfl, xt3 (i := 214) rfl⟩
theorem lw_p22 : lw_okq (⟨"HatsDecide", "hatsOf", "(I)I"⟩, 15) := ⟨xnh0, xt1 (i := 23) rfl, xt3 (i := 221) rfl, xt3 (i := 222) rfl⟩
theorem lw_p23 : lw_okq (⟨"HatsDecide", "isOwnedBelow", "(II)Z"⟩, 15) := ⟨xnh0, xt1 (i := 23) rfl, xt3 (i := 229) rfl, xt3 (i := 230) rfl⟩
theorem lw_p24 : lw_okq (⟨"HatsDecide", "joinGroups", "(II)Z"⟩, 15) := ⟨xnh0, xt1 (i := 23) rfl, xt3 (i := 233) rfl, xt3 (i := 234) rfl⟩
theorem lw_p25 : lw_okq (⟨"HatsDecide", "wearers", "(I)I"⟩, 15) := ⟨xnh0, xt1 (i := 23) rfl, xt4 (i := 25) rfl, xt4 (i := 26) rfl⟩
theorem lw_p26 : lw_okq (⟨"HatsDecide", "isAsSeen", "(II)Z"⟩, 15) := ⟨xnh0, xt1 (i := 23) rfl, xt4 (i := 29) rfl, xt4 (i := 30) rfl⟩
theorem lw_p27 : lw_okq (⟨"HatsDecide", "isSeen", "(I)Z"⟩, 15) := ⟨xnh0, xt1 (i := 23) rfl, xt4 (i := 40) rfl, xt4 (i := 41) rfl⟩
theorem lw_p28 : lw_okq (⟨"HatsDecide", "addHatToWays", "(I)V"⟩, 15) := ⟨xnh0, xt1 (i := 23) rfl, xt4 (i := 44) rfl, xt4 (i := 45) rfl⟩
theorem lw_p29 : lw_okq (⟨"HatsDecide", "perHeads", "(II)J"⟩, 15) := ⟨xnh0, xt1 (i := 23) rfl, xt4 (i := 53) rfl, xt4 (i := 54) rfl⟩
theorem lw_p30 : lw_okq (⟨"HatsDecideModel", "in", "(III)Z"⟩, 78) := ⟨xnh12, xt4 (i := 226) rfl, xt5 (i := 232) rfl, xt5 (i := 233) rfl⟩
theorem lw_p31 : lw_okq (⟨"HatsDecideModel", "isTrade", "(I)Z"⟩, 78) := ⟨xnh12, xt4 (i := 226) rfl, xt6 (i := 0) rfl, xt6 (i := 1) rfl⟩
theorem lw_p32 : lw_okq (⟨"HatsDecideModel", "isHat", "(I)Z"⟩, 78) := ⟨xnh12, xt4 (i := 226) rfl, xt6 (i := 8) rfl, xt6 (i := 9) rfl⟩
theorem lw_p33 : lw_okq (⟨"HatsDecideModel", "isHead", "(I)Z"⟩, 78) := ⟨xnh12, xt4 (i := 226) rfl, xt6 (i := 16) rfl, xt6 (i := 17) rfl⟩
theorem lw_p34 : lw_okq (⟨"HatsDecideModel", "headOf", "(I)I"⟩, 78) := ⟨xnh12, xt4 (i := 226) rfl, xt6 (i := 20) rfl, xt6 (i := 21) rfl⟩
theorem lw_p35 : lw_okq (⟨"HatsDecideModel", "orNone", "(I)I"⟩, 78) := ⟨xnh12, xt4 (i := 226) rfl, xt6 (i := 28) rfl, xt6 (i := 29) rfl⟩
theorem lw_p36 : lw_okq (⟨"HatsDecideModel", "goesText", "(I)Z"⟩, 78) := ⟨xnh12, xt4 (i := 226) rfl, xt6 (i := 44) rfl, xt6 (i := 45) rfl⟩
theorem lw_p37 : lw_okq (⟨"HatsDecideModel", "takesClause", "(I)Z"⟩, 78) := ⟨xnh12, xt4 (i := 226) rfl, xt6 (i := 48) rfl, xt6 (i := 49) rfl⟩
theorem lw_p38 : lw_okq (⟨"HatsDecideModel", "takesHead", "(I)Z"⟩, 78) := ⟨xnh12, xt4 (i := 226) rfl, xt6 (i := 52) rfl, xt6 (i := 53) rfl⟩
theorem lw_p39 : lw_okq (⟨"HatsDecideModel", "next", "()I"⟩, 78) := ⟨xnh12, xt4 (i := 226) rfl, xt6 (i := 56) rfl, xt6 (i := 57) rfl⟩
theorem lw_p40 : lw_okq (⟨"HatsDecideModel", "takesWord", "(II)Z"⟩, 78) := ⟨xnh12, xt4 (i := 226) rfl, xt6 (i := 60) rfl, xt6 (i := 61) rfl⟩
theorem lw_p41 : lw_okq (⟨"HatsDecideModel", "takes", "(I)Z"⟩, 78) := ⟨xnh12, xt4 (i := 226) rfl, xt6 (i := 64) rfl, xt6 (i := 65) rfl⟩
theorem lw_p42 : lw_okq (⟨"HatsDecideModel", "takesNumber", "()Z"⟩, 78) := ⟨xnh12, xt4 (i := 226) rfl, xt6 (i := 68) rfl, xt6 (i := 69) rfl⟩
theorem lw_p43 : lw_okq (⟨"HatsDecideModel", "isDigit", "()Z"⟩, 78) := ⟨xnh12, xt4 (i := 226) rfl, xt6 (i := 72) rfl, xt6 (i := 73) rfl⟩
theorem lw_p44 : lw_okq (⟨"HatsDecideModel", "takesE", "(I)Z"⟩, 78) := ⟨xnh12, xt4 (i := 226) rfl, xt6 (i := 76) rfl, xt6 (i := 77) rfl⟩
theorem lw_p45 : lw_okq (⟨"HatsDecideModel", "takesTest", "()Z"⟩, 78) := ⟨xnh12, xt4 (i := 226) rfl, xt6 (i := 80) rfl, xt6 (i := 81) rfl⟩
theorem lw_p46 : lw_okq (⟨"HatsDecideModel", "place", "(I)I"⟩, 78) := ⟨xnh12, xt4 (i := 226) rfl, xt6 (i := 84) rfl, xt6 (i := 85) rfl⟩
theorem lw_p47 : lw_okq (⟨"HatsDecideModel", "emits", "(I)V"⟩, 78) := ⟨xnh12, xt4 (i := 226) rfl, xt6 (i := 88) rfl, xt6 (i := 89) rfl⟩
theorem lw_p48 : lw_okq (⟨"HatsDecideModel", "whole", "()V"⟩, 78) := ⟨xnh12, xt4 (i := 226) rfl, xt6 (i := 92) rfl, xt6 (i := 93) rfl⟩
theorem lw_p49 : lw_okq (⟨"HatsDecideModel", "settle", "(I)V"⟩, 78) := ⟨xnh12, xt4 (i := 226) rfl, xt6 (i := 96) rfl, xt6 (i := 97) rfl⟩
theorem lw_p50 : lw_okq (⟨"HatsDecideModel", "deed", "(II)I"⟩, 78) := ⟨xnh12, xt4 (i := 226) rfl, xt6 (i := 104) rfl, xt6 (i := 105) rfl⟩
theorem lw_p51 : lw_okq (⟨"HatsDecideModel", "fits", "(II)I"⟩, 78) := ⟨xnh12, xt4 (i := 226) rfl, xt6 (i := 108) rfl, xt6 (i := 109) rfl⟩
theorem lw_p52 : lw_okq (⟨"HatsDecideModel", "begin", "()I"⟩, 78) := ⟨xnh12, xt4 (i := 226) rfl, xt6 (i := 112) rfl, xt6 (i := 113) rfl⟩
theorem lw_p53 : lw_okq (⟨"HatsDecideModel", "behind", "()I"⟩, 78) := ⟨xnh12, xt4 (i := 226) rfl, xt6 (i := 116) rfl, xt6 (i := 117) rfl⟩
theorem lw_p54 : lw_okq (⟨"HatsDecideModel", "holds", "(III)Z"⟩, 78) := ⟨xnh12, xt4 (i := 226) rfl, xt6 (i := 120) rfl, xt6 (i := 121) rfl⟩
theorem lw_p55 : lw_okq (⟨"HatsDecideModel", "factOf", "(III)I"⟩, 78) := ⟨xnh12, xt4 (i := 226) rfl, xt6 (i := 124) rfl, xt6 (i := 125) rfl⟩
theorem lw_p56 : lw_okq (⟨"HatsDecideModel", "most", "(II)I"⟩, 78) := ⟨xnh12, xt4 (i := 226) rfl, xt6 (i := 128) rfl, xt6 (i := 129) rfl⟩
theorem lw_p57 : lw_okq (⟨"HatsDecideModel", "apart", "(II)I"⟩, 78) := ⟨xnh12, xt4 (i := 226) rfl, xt6 (i := 132) rfl, xt6 (i := 133) rfl⟩
theorem lw_p58 : lw_okq (⟨"HatsDecideModel", "moth", "()I"⟩, 78) := ⟨xnh12, xt4 (i := 226) rfl, xt6 (i := 136) rfl, xt6 (i := 137) rfl⟩
theorem lw_p59 : lw_okq (⟨"HatsDecideModel", "work", "(I)I"⟩, 78) := ⟨xnh12, xt4 (i := 226) rfl, xt6 (i := 148) rfl, xt6 (i := 149) rfl⟩
theorem lw_p60 : lw_okq (⟨"HatsDecideModel", "todayOf", "(I)I"⟩, 78) := ⟨xnh12, xt4 (i := 226) rfl, xt6 (i := 156) rfl, xt6 (i := 157) rfl⟩
theorem lw_p61 : lw_okq (⟨"HatsDecideModel", "goDay", "()V"⟩, 78) := ⟨xnh12, xt4 (i := 226) rfl, xt6 (i := 161) rfl, xt6 (i := 162) rfl⟩
theorem lw_p62 : lw_okq (⟨"HatsDecideModel", "goGust", "(I)I"⟩, 78) := ⟨xnh12, xt4 (i := 226) rfl, xt6 (i := 169) rfl, xt6 (i := 170) rfl⟩
theorem lw_p63 : lw_okq (⟨"HatsDecideModel", "swaps", "(II)V"⟩, 78) := ⟨xnh12, xt4 (i := 226) rfl, xt6 (i := 177) rfl, xt6 (i := 178) rfl⟩
theorem lw_p64 : lw_okq (⟨"HatsDecideModel", "save", "()V"⟩, 78) := ⟨xnh12, xt4 (i := 226) rfl, xt6 (i := 197) rfl, xt6 (i := 198) rfl⟩
theorem lw_p65 : lw_okq (⟨"HatsDecideModel", "putBack", "()V"⟩, 78) := ⟨xnh12, xt4 (i := 226) rfl, xt6 (i := 202) rfl, xt6 (i := 203) rfl⟩
theorem lw_p66 : lw_okq (⟨"HatsDecideModel", "layBest", "()V"⟩, 78) := ⟨xnh12, xt4 (i := 226) rfl, xt6 (i := 214) rfl, xt6 (i := 215) rfl⟩
theorem lw_p67 : lw_okq (⟨"HatsDecideModel", "layDeeds", "()V"⟩, 78) := ⟨xnh12, xt4 (i := 226) rfl, xt6 (i := 218) rfl, xt6 (i := 219) rfl⟩
theorem lw_p68 : lw_okq (⟨"HatsDecideModel", "ones", "(I)I"⟩, 78) := ⟨xnh12, xt4 (i := 226) rfl, xt6 (i := 222) rfl, xt6 (i := 223) rfl⟩
theorem lw_p69 : lw_okq (⟨"HatsDecideModel", "onwardBy", "(III)I"⟩, 78) := ⟨xnh12, xt4 (i := 226) rfl, xt6 (i := 226) rfl, xt6 (i := 227) rfl⟩
theorem lw_p70 : lw_okq (⟨"HatsDecideModel", "has", "(II)Z"⟩, 78) := ⟨xnh12, xt4 (i := 226) rfl, xt6 (i := 230) rfl, xt6 (i := 231) rfl⟩
theorem lw_p71 : lw_okq (⟨"HatsDecideModel", "mostOf", "(I)I"⟩, 78) := ⟨xnh12, xt4 (i := 226) rfl, xt6 (i := 238) rfl, xt6 (i := 239) rfl⟩
theorem lw_p72 : lw_okq (⟨"HatsDecideModel", "isClash", "()Z"⟩, 78) := ⟨xnh12, xt4 (i := 226) rfl, xt7 (i := 6) rfl, xt7 (i := 7) rfl⟩
theorem lw_p73 : lw_okq (⟨"HatsDecideModel", "dueFor", "(I)I"⟩, 78) := ⟨xnh12, xt4 (i := 226) rfl, xt7 (i := 10) rfl, xt7 (i := 11) rfl⟩
theorem lw_p74 : lw_okq (⟨"HatsDecideModel", "isRing", "(I)Z"⟩, 78) := ⟨xnh12, xt4 (i := 226) rfl, xt7 (i := 14) rfl, xt7 (i := 15) rfl⟩
theorem lw_p75 : lw_okq (⟨"HatsDecideModel", "gustedBy", "(I)I"⟩, 78) := ⟨xnh12, xt4 (i := 226) rfl, xt7 (i := 22) rfl, xt7 (i := 23) rfl⟩
theorem lw_p76 : lw_okq (⟨"HatsDecideModel", "woreOn", "(I)I"⟩, 78) := ⟨xnh12, xt4 (i := 226) rfl, xt7 (i := 50) rfl, xt7 (i := 51) rfl⟩
theorem lw_p77 : lw_okq (⟨"HatsDecideModel", "lowest", "(III)J"⟩, 78) := ⟨xnh12, xt4 (i := 226) rfl, xt7 (i := 63) rfl, xt7 (i := 64) rfl⟩
theorem lw_p78 : lw_okq (⟨"HatsDecideModel", "divisor", "(II)I"⟩, 78) := ⟨xnh12, xt4 (i := 226) rfl, xt7 (i := 67) rfl, xt7 (i := 68) rfl⟩
theorem lw_p79 : lw_okq (⟨"HatsDecideModel", "isTape", "(I)Z"⟩, 78) := ⟨xnh12, xt4 (i := 226) rfl, xt7 (i := 87) rfl, xt7 (i := 88) rfl⟩
theorem lw_p80 : lw_okq (⟨"HatsDecideModel", "sitsAct", "(II)I"⟩, 78) := ⟨xnh12, xt4 (i := 226) rfl, xt7 (i := 103) rfl, xt7 (i := 104) rfl⟩
theorem lw_p81 : lw_okq (⟨"HatsDecideModel", "body", "(I)V"⟩, 78) := ⟨xnh12, xt4 (i := 226) rfl, xt7 (i := 107) rfl, xt7 (i := 108) rfl⟩
theorem lw_p82 : lw_okq (⟨"HatsDecideModel", "hatSits", "(II)I"⟩, 78) := ⟨xnh12, xt4 (i := 226) rfl, xt7 (i := 111) rfl, xt7 (i := 112) rfl⟩
theorem lw_p83 : lw_okq (⟨"HatsDecideModel", "doesAct", "(II)I"⟩, 78) := ⟨xnh12, xt4 (i := 226) rfl, xt7 (i := 115) rfl, xt7 (i := 116) rfl⟩
theorem lw_p84 : lw_okq (⟨"HatsDecideModel", "tightDoes", "(II)I"⟩, 78) := ⟨xnh12, xt4 (i := 226) rfl, xt7 (i := 119) rfl, xt7 (i := 120) rfl⟩
theorem lw_p85 : lw_okq (⟨"HatsDecideModel", "hatDoes", "(II)I"⟩, 78) := ⟨xnh12, xt4 (i := 226) rfl, xt7 (i := 123) rfl, xt7 (i := 124) rfl⟩
theorem lw_p86 : lw_okq (⟨"HatsDecideModel", "tellsAct", "(II)I"⟩, 78) := ⟨xnh12, xt4 (i := 226) rfl, xt7 (i := 127) rfl, xt7 (i := 128) rfl⟩
theorem lw_p87 : lw_okq (⟨"HatsDecideModel", "hatTells", "(II)I"⟩, 78) := ⟨xnh12, xt4 (i := 226) rfl, xt7 (i := 131) rfl, xt7 (i := 132) rfl⟩
theorem lw_p88 : lw_okq (⟨"HatsDecideModel", "narrow", "(IJ)J"⟩, 78) := ⟨xnh12, xt4 (i := 226) rfl, xt7 (i := 155) rfl, xt7 (i := 156) rfl⟩
def lw_privs : List (MethodName × Nat) := [(⟨"HatsDecide", "newHat", "(IIIII)LHatsDecide$Hat;"⟩, 15), (⟨"HatsDecide", "deedOn", "(III)I"⟩, 15), (⟨"HatsDecide", "holding", "()LHatsDecide$Town;"⟩, 15), (⟨"HatsDecide$Town", "holds", "(I[I)Z"⟩, 12), (⟨"HatsDecide", "isHeadOrEmpty", "(I)Z"⟩, 15), (⟨"HatsDecide$Town", "expect", "(C)V"⟩, 12), (⟨"HatsDecide$Town", "isNext", "(C)Z"⟩, 12), (⟨"HatsDecide$Town", "parseClause", "(I)V"⟩, 12), (⟨"HatsDecide$Town", "oneOf", "(Ljava/lang/String;)I"⟩, 12), (⟨"HatsDecide$Town", "parseNumber", "()I"⟩, 12), (⟨"HatsDecide$Town", "parseEither", "(I)V"⟩, 12), (⟨"HatsDecide$Town", "parsePart", "(I)V"⟩, 12), (⟨"HatsDecide$Town", "addCode", "(I)V"⟩, 12), (⟨"HatsDecide", "total", "(III)I"⟩, 15), (⟨"HatsDecide", "isEnough", "(III)Z"⟩, 15), (⟨"HatsDecide", "noteDeeds", "()V"⟩, 15), (⟨"HatsDecide", "weighWays", "(I)V"⟩, 15), (⟨"HatsDecide", "mostFrom", "(III)I"⟩, 15), (⟨"HatsDecide", "mostWith", "(III)I"⟩, 15), (⟨"HatsDecide", "noted", "(II)I"⟩, 15), (⟨"HatsDecide", "wornByBestWay", "(I)I"⟩, 15), (⟨"HatsDecide", "firstOfBest", "(II)I"⟩, 15), (⟨"HatsDecide", "hatsOf", "(I)I"⟩, 15), (⟨"HatsDecide", "isOwnedBelow", "(II)Z"⟩, 15), (⟨"HatsDecide", "joinGroups", "(II)Z"⟩, 15), (⟨"HatsDecide", "wearers", "(I)I"⟩, 15), (⟨"HatsDecide", "isAsSeen", "(II)Z"⟩, 15), (⟨"HatsDecide", "isSeen", "(I)Z"⟩, 15), (⟨"HatsDecide", "addHatToWays", "(I)V"⟩, 15), (⟨"HatsDecide", "perHeads", "(II)J"⟩, 15), (⟨"HatsDecideModel", "in", "(III)Z"⟩, 78), (⟨"HatsDecideModel", "isTrade", "(I)Z"⟩, 78), (⟨"HatsDecideModel", "isHat", "(I)Z"⟩, 78), (⟨"HatsDecideModel", "isHead", "(I)Z"⟩, 78), (⟨"HatsDecideModel", "headOf", "(I)I"⟩, 78), (⟨"HatsDecideModel", "orNone", "(I)I"⟩, 78), (⟨"HatsDecideModel", "goesText", "(I)Z"⟩, 78), (⟨"HatsDecideModel", "takesClause", "(I)Z"⟩, 78), (⟨"HatsDecideModel", "takesHead", "(I)Z"⟩, 78), (⟨"HatsDecideModel", "next", "()I"⟩, 78), (⟨"HatsDecideModel", "takesWord", "(II)Z"⟩, 78), (⟨"HatsDecideModel", "takes", "(I)Z"⟩, 78), (⟨"HatsDecideModel", "takesNumber", "()Z"⟩, 78), (⟨"HatsDecideModel", "isDigit", "()Z"⟩, 78), (⟨"HatsDecideModel", "takesE", "(I)Z"⟩, 78), (⟨"HatsDecideModel", "takesTest", "()Z"⟩, 78), (⟨"HatsDecideModel", "place", "(I)I"⟩, 78), (⟨"HatsDecideModel", "emits", "(I)V"⟩, 78), (⟨"HatsDecideModel", "whole", "()V"⟩, 78), (⟨"HatsDecideModel", "settle", "(I)V"⟩, 78), (⟨"HatsDecideModel", "deed", "(II)I"⟩, 78), (⟨"HatsDecideModel", "fits", "(II)I"⟩, 78), (⟨"HatsDecideModel", "begin", "()I"⟩, 78), (⟨"HatsDecideModel", "behind", "()I"⟩, 78), (⟨"HatsDecideModel", "holds", "(III)Z"⟩, 78), (⟨"HatsDecideModel", "factOf", "(III)I"⟩, 78), (⟨"HatsDecideModel", "most", "(II)I"⟩, 78), (⟨"HatsDecideModel", "apart", "(II)I"⟩, 78), (⟨"HatsDecideModel", "moth", "()I"⟩, 78), (⟨"HatsDecideModel", "work", "(I)I"⟩, 78), (⟨"HatsDecideModel", "todayOf", "(I)I"⟩, 78), (⟨"HatsDecideModel", "goDay", "()V"⟩, 78), (⟨"HatsDecideModel", "goGust", "(I)I"⟩, 78), (⟨"HatsDecideModel", "swaps", "(II)V"⟩, 78), (⟨"HatsDecideModel", "save", "()V"⟩, 78), (⟨"HatsDecideModel", "putBack", "()V"⟩, 78), (⟨"HatsDecideModel", "layBest", "()V"⟩, 78), (⟨"HatsDecideModel", "layDeeds", "()V"⟩, 78), (⟨"HatsDecideModel", "ones", "(I)I"⟩, 78), (⟨"HatsDecideModel", "onwardBy", "(III)I"⟩, 78), (⟨"HatsDecideModel", "has", "(II)Z"⟩, 78), (⟨"HatsDecideModel", "mostOf", "(I)I"⟩, 78), (⟨"HatsDecideModel", "isClash", "()Z"⟩, 78), (⟨"HatsDecideModel", "dueFor", "(I)I"⟩, 78), (⟨"HatsDecideModel", "isRing", "(I)Z"⟩, 78), (⟨"HatsDecideModel", "gustedBy", "(I)I"⟩, 78), (⟨"HatsDecideModel", "woreOn", "(I)I"⟩, 78), (⟨"HatsDecideModel", "lowest", "(III)J"⟩, 78), (⟨"HatsDecideModel", "divisor", "(II)I"⟩, 78), (⟨"HatsDecideModel", "isTape", "(I)Z"⟩, 78), (⟨"HatsDecideModel", "sitsAct", "(II)I"⟩, 78), (⟨"HatsDecideModel", "body", "(I)V"⟩, 78), (⟨"HatsDecideModel", "hatSits", "(II)I"⟩, 78), (⟨"HatsDecideModel", "doesAct", "(II)I"⟩, 78), (⟨"HatsDecideModel", "tightDoes", "(II)I"⟩, 78), (⟨"HatsDecideModel", "hatDoes", "(II)I"⟩, 78), (⟨"HatsDecideModel", "tellsAct", "(II)I"⟩, 78), (⟨"HatsDecideModel", "hatTells", "(II)I"⟩, 78), (⟨"HatsDecideModel", "narrow", "(IJ)J"⟩, 78)]
set_option maxRecDepth 100000 in
def lw_tbl : List Cond := k2_sels lw_privs ++ tables_1
def lw_privs_0 : List (MethodName × Nat) := [(⟨"HatsDecide", "newHat", "(IIIII)LHatsDecide$Hat;"⟩, 15), (⟨"HatsDecide", "deedOn", "(III)I"⟩, 15), (⟨"HatsDecide", "holding", "()LHatsDecide$Town;"⟩, 15), (⟨"HatsDecide$Town", "holds", "(I[I)Z"⟩, 12), (⟨"HatsDecide", "isHeadOrEmpty", "(I)Z"⟩, 15), (⟨"HatsDecide$Town", "expect", "(C)V"⟩, 12), (⟨"HatsDecide$Town", "isNext", "(C)Z"⟩, 12), (⟨"HatsDecide$Town", "parseClause", "(I)V"⟩, 12), (⟨"HatsDecide$Town", "oneOf", "(Ljava/lang/String;)I"⟩, 12), (⟨"HatsDecide$Town", "parseNumber", "()I"⟩, 12), (⟨"HatsDecide$Town", "parseEither", "(I)V"⟩, 12), (⟨"HatsDecide$Town", "parsePart", "(I)V"⟩, 12), (⟨"HatsDecide$Town", "addCode", "(I)V"⟩, 12), (⟨"HatsDecide", "total", "(III)I"⟩, 15), (⟨"HatsDecide", "isEnough", "(III)Z"⟩, 15), (⟨"HatsDecide", "noteDeeds", "()V"⟩, 15)]
theorem lw_r0 : ∀ q ∈ lw_privs_0, lw_okq q := List.forall_mem_cons.mpr ⟨lw_p0, List.forall_mem_cons.mpr ⟨lw_p1, List.forall_mem_cons.mpr ⟨lw_p2, List.forall_mem_cons.mpr ⟨lw_p3, List.forall_mem_cons.mpr ⟨lw_p4, List.forall_mem_cons.mpr ⟨lw_p5, List.forall_mem_cons.mpr ⟨lw_p6, List.forall_mem_cons.mpr ⟨lw_p7, List.forall_mem_cons.mpr ⟨lw_p8, List.forall_mem_cons.mpr ⟨lw_p9, List.forall_mem_cons.mpr ⟨lw_p10, List.forall_mem_cons.mpr ⟨lw_p11, List.forall_mem_cons.mpr ⟨lw_p12, List.forall_mem_cons.mpr ⟨lw_p13, List.forall_mem_cons.mpr ⟨lw_p14, List.forall_mem_cons.mpr ⟨lw_p15, fun _ h => absurd h List.not_mem_nil⟩⟩⟩⟩⟩⟩⟩⟩⟩⟩⟩⟩⟩⟩⟩⟩
def lw_privs_1 : List (MethodName × Nat) := [(⟨"HatsDecide", "weighWays", "(I)V"⟩, 15), (⟨"HatsDecide", "mostFrom", "(III)I"⟩, 15), (⟨"HatsDecide", "mostWith", "(III)I"⟩, 15), (⟨"HatsDecide", "noted", "(II)I"⟩, 15), (⟨"HatsDecide", "wornByBestWay", "(I)I"⟩, 15), (⟨"HatsDecide", "firstOfBest", "(II)I"⟩, 15), (⟨"HatsDecide", "hatsOf", "(I)I"⟩, 15), (⟨"HatsDecide", "isOwnedBelow", "(II)Z"⟩, 15), (⟨"HatsDecide", "joinGroups", "(II)Z"⟩, 15), (⟨"HatsDecide", "wearers", "(I)I"⟩, 15), (⟨"HatsDecide", "isAsSeen", "(II)Z"⟩, 15), (⟨"HatsDecide", "isSeen", "(I)Z"⟩, 15), (⟨"HatsDecide", "addHatToWays", "(I)V"⟩, 15), (⟨"HatsDecide", "perHeads", "(II)J"⟩, 15), (⟨"HatsDecideModel", "in", "(III)Z"⟩, 78), (⟨"HatsDecideModel", "isTrade", "(I)Z"⟩, 78)]
theorem lw_r1 : ∀ q ∈ lw_privs_1, lw_okq q := List.forall_mem_cons.mpr ⟨lw_p16, List.forall_mem_cons.mpr ⟨lw_p17, List.forall_mem_cons.mpr ⟨lw_p18, List.forall_mem_cons.mpr ⟨lw_p19, List.forall_mem_cons.mpr ⟨lw_p20, List.forall_mem_cons.mpr ⟨lw_p21, List.forall_mem_cons.mpr ⟨lw_p22, List.forall_mem_cons.mpr ⟨lw_p23, List.forall_mem_cons.mpr ⟨lw_p24, List.forall_mem_cons.mpr ⟨lw_p25, List.forall_mem_cons.mpr ⟨lw_p26, List.forall_mem_cons.mpr ⟨lw_p27, List.forall_mem_cons.mpr ⟨lw_p28, List.forall_mem_cons.mpr ⟨lw_p29, List.forall_mem_cons.mpr ⟨lw_p30, List.forall_mem_cons.mpr ⟨lw_p31, fun _ h => absurd h List.not_mem_nil⟩⟩⟩⟩⟩⟩⟩⟩⟩⟩⟩⟩⟩⟩⟩⟩
def lw_privs_2 : List (MethodName × Nat) := [(⟨"HatsDecideModel", "isHat", "(I)Z"⟩, 78), (⟨"HatsDecideModel", "isHead", "(I)Z"⟩, 78), (⟨"HatsDecideModel", "headOf", "(I)I"⟩, 78), (⟨"HatsDecideModel", "orNone", "(I)I"⟩, 78), (⟨"HatsDecideModel", "goesText", "(I)Z"⟩, 78), (⟨"HatsDecideModel", "takesClause", "(I)Z"⟩, 78), (⟨"HatsDecideModel", "takesHead", "(I)Z"⟩, 78), (⟨"HatsDecideModel", "next", "()I"⟩, 78), (⟨"HatsDecideModel", "takesWord", "(II)Z"⟩, 78), (⟨"HatsDecideModel", "takes", "(I)Z"⟩, 78), (⟨"HatsDecideModel", "takesNumber", "()Z"⟩, 78), (⟨"HatsDecideModel", "isDigit", "()Z"⟩, 78), (⟨"HatsDecideModel", "takesE", "(I)Z"⟩, 78), (⟨"HatsDecideModel", "takesTest", "()Z"⟩, 78), (⟨"HatsDecideModel", "place", "(I)I"⟩, 78), (⟨"HatsDecideModel", "emits", "(I)V"⟩, 78)]
theorem lw_r2 : ∀ q ∈ lw_privs_2, lw_okq q := List.forall_mem_cons.mpr ⟨lw_p32, List.forall_mem_cons.mpr ⟨lw_p33, List.forall_mem_cons.mpr ⟨lw_p34, List.forall_mem_cons.mpr ⟨lw_p35, List.forall_mem_cons.mpr ⟨lw_p36, List.forall_mem_cons.mpr ⟨lw_p37, List.forall_mem_cons.mpr ⟨lw_p38, List.forall_mem_cons.mpr ⟨lw_p39, List.forall_mem_cons.mpr ⟨lw_p40, List.forall_mem_cons.mpr ⟨lw_p41, List.forall_mem_cons.mpr ⟨lw_p42, List.forall_mem_cons.mpr ⟨lw_p43, List.forall_mem_cons.mpr ⟨lw_p44, List.forall_mem_cons.mpr ⟨lw_p45, List.forall_mem_cons.mpr ⟨lw_p46, List.forall_mem_cons.mpr ⟨lw_p47, fun _ h => absurd h List.not_mem_nil⟩⟩⟩⟩⟩⟩⟩⟩⟩⟩⟩⟩⟩⟩⟩⟩
def lw_privs_3 : List (MethodName × Nat) := [(⟨"HatsDecideModel", "whole", "()V"⟩, 78), (⟨"HatsDecideModel", "settle", "(I)V"⟩, 78), (⟨"HatsDecideModel", "deed", "(II)I"⟩, 78), (⟨"HatsDecideModel", "fits", "(II)I"⟩, 78), (⟨"HatsDecideModel", "begin", "()I"⟩, 78), (⟨"HatsDecideModel", "behind", "()I"⟩, 78), (⟨"HatsDecideModel", "holds", "(III)Z"⟩, 78), (⟨"HatsDecideModel", "factOf", "(III)I"⟩, 78), (⟨"HatsDecideModel", "most", "(II)I"⟩, 78), (⟨"HatsDecideModel", "apart", "(II)I"⟩, 78), (⟨"HatsDecideModel", "moth", "()I"⟩, 78), (⟨"HatsDecideModel", "work", "(I)I"⟩, 78), (⟨"HatsDecideModel", "todayOf", "(I)I"⟩, 78), (⟨"HatsDecideModel", "goDay", "()V"⟩, 78), (⟨"HatsDecideModel", "goGust", "(I)I"⟩, 78), (⟨"HatsDecideModel", "swaps", "(II)V"⟩, 78)]
theorem lw_r3 : ∀ q ∈ lw_privs_3, lw_okq q := List.forall_mem_cons.mpr ⟨lw_p48, List.forall_mem_cons.mpr ⟨lw_p49, List.forall_mem_cons.mpr ⟨lw_p50, List.forall_mem_cons.mpr ⟨lw_p51, List.forall_mem_cons.mpr ⟨lw_p52, List.forall_mem_cons.mpr ⟨lw_p53, List.forall_mem_cons.mpr ⟨lw_p54, List.forall_mem_cons.mpr ⟨lw_p55, List.forall_mem_cons.mpr ⟨lw_p56, List.forall_mem_cons.mpr ⟨lw_p57, List.forall_mem_cons.mpr ⟨lw_p58, List.forall_mem_cons.mpr ⟨lw_p59, List.forall_mem_cons.mpr ⟨lw_p60, List.forall_mem_cons.mpr ⟨lw_p61, List.forall_mem_cons.mpr ⟨lw_p62, List.forall_mem_cons.mpr ⟨lw_p63, fun _ h => absurd h List.not_mem_nil⟩⟩⟩⟩⟩⟩⟩⟩⟩⟩⟩⟩⟩⟩⟩⟩
def lw_privs_4 : List (MethodName × Nat) := [(⟨"HatsDecideModel", "save", "()V"⟩, 78), (⟨"HatsDecideModel", "putBack", "()V"⟩, 78), (⟨"HatsDecideModel", "layBest", "()V"⟩, 78), (⟨"HatsDecideModel", "layDeeds", "()V"⟩, 78), (⟨"HatsDecideModel", "ones", "(I)I"⟩, 78), (⟨"HatsDecideModel", "onwardBy", "(III)I"⟩, 78), (⟨"HatsDecideModel", "has", "(II)Z"⟩, 78), (⟨"HatsDecideModel", "mostOf", "(I)I"⟩, 78), (⟨"HatsDecideModel", "isClash", "()Z"⟩, 78), (⟨"HatsDecideModel", "dueFor", "(I)I"⟩, 78), (⟨"HatsDecideModel", "isRing", "(I)Z"⟩, 78), (⟨"HatsDecideModel", "gustedBy", "(I)I"⟩, 78), (⟨"HatsDecideModel", "woreOn", "(I)I"⟩, 78), (⟨"HatsDecideModel", "lowest", "(III)J"⟩, 78), (⟨"HatsDecideModel", "divisor", "(II)I"⟩, 78), (⟨"HatsDecideModel", "isTape", "(I)Z"⟩, 78)]
theorem lw_r4 : ∀ q ∈ lw_privs_4, lw_okq q := List.forall_mem_cons.mpr ⟨lw_p64, List.forall_mem_cons.mpr ⟨lw_p65, List.forall_mem_cons.mpr ⟨lw_p66, List.forall_mem_cons.mpr ⟨lw_p67, List.forall_mem_cons.mpr ⟨lw_p68, List.forall_mem_cons.mpr ⟨lw_p69, List.forall_mem_cons.mpr ⟨lw_p70, List.forall_mem_cons.mpr ⟨lw_p71, List.forall_mem_cons.mpr ⟨lw_p72, List.forall_mem_cons.mpr ⟨lw_p73, List.forall_mem_cons.mpr ⟨lw_p74, List.forall_mem_cons.mpr ⟨lw_p75, List.forall_mem_cons.mpr ⟨lw_p76, List.forall_mem_cons.mpr ⟨lw_p77, List.forall_mem_cons.mpr ⟨lw_p78, List.forall_mem_cons.mpr ⟨lw_p79, fun _ h => absurd h List.not_mem_nil⟩⟩⟩⟩⟩⟩⟩⟩⟩⟩⟩⟩⟩⟩⟩⟩
def lw_privs_5 : List (MethodName × Nat) := [(⟨"HatsDecideModel", "sitsAct", "(II)I"⟩, 78), (⟨"HatsDecideModel", "body", "(I)V"⟩, 78), (⟨"HatsDecideModel", "hatSits", "(II)I"⟩, 78), (⟨"HatsDecideModel", "doesAct", "(II)I"⟩, 78), (⟨"HatsDecideModel", "tightDoes", "(II)I"⟩, 78), (⟨"HatsDecideModel", "hatDoes", "(II)I"⟩, 78), (⟨"HatsDecideModel", "tellsAct", "(II)I"⟩, 78), (⟨"HatsDecideModel", "hatTells", "(II)I"⟩, 78), (⟨"HatsDecideModel", "narrow", "(IJ)J"⟩, 78)]
theorem lw_r5 : ∀ q ∈ lw_privs_5, lw_okq q := List.forall_mem_cons.mpr ⟨lw_p80, List.forall_mem_cons.mpr ⟨lw_p81, List.forall_mem_cons.mpr ⟨lw_p82, List.forall_mem_cons.mpr ⟨lw_p83, List.forall_mem_cons.mpr ⟨lw_p84, List.forall_mem_cons.mpr ⟨lw_p85, List.forall_mem_cons.mpr ⟨lw_p86, List.forall_mem_cons.mpr ⟨lw_p87, List.forall_mem_cons.mpr ⟨lw_p88, fun _ h => absurd h List.not_mem_nil⟩⟩⟩⟩⟩⟩⟩⟩⟩
set_option maxRecDepth 100000 in
theorem lw_privs_ok : ∀ q ∈ lw_privs, lw_okq q := by
  show ∀ q ∈ lw_privs_0 ++ (lw_privs_1 ++ (lw_privs_2 ++ (lw_privs_3 ++ (lw_privs_4 ++ (lw_privs_5))))), lw_okq q
  exact List.forall_mem_append.mpr ⟨lw_r0, List.forall_mem_append.mpr ⟨lw_r1, List.forall_mem_append.mpr ⟨lw_r2, List.forall_mem_append.mpr ⟨lw_r3, List.forall_mem_append.mpr ⟨lw_r4, lw_r5⟩⟩⟩⟩⟩
/-- the words that stay good at every later state -/
def xW : List Cond := lw_tbl.filter goodWord
theorem xW_in {w : Cond} (h : w ∈ xW) : w ∈ lw_tbl := (List.mem_filter.mp h).1
theorem xW_good {w : Cond} (h : w ∈ xW) : goodWord w = true := (List.mem_filter.mp h).2
theorem xin {w : Cond} (h : w ∈ tables_1) (g : goodWord w = true) : w ∈ xW := List.mem_filter.mpr ⟨List.mem_append_right _ h, g⟩
theorem xsel {i : Nat} {y : MethodName} {n : Nat} (h : lw_privs[i]? = some (y, n)) : Cond.selects y.cls y y ∈ xW := List.mem_filter.mpr ⟨List.mem_append_left _ (List.mem_map.mpr ⟨(y, n), List.mem_of_getElem? h, rfl⟩), rfl⟩
def RX0 : String := "HatsDecide$Crown"
def TX0 : u_T := fun k => match k with
  | 0 => ("HatsDecide$Hat", "kind", "I", true)
  | 1 => ("HatsDecide$Hat", "number", "I", true)
  | 2 => ("HatsDecide$Hat", "v", "I", true)
  | 3 => ("HatsDecide$Hat", "size", "I", true)
  | 4 => ("HatsDecide$Hat", "trade", "I", true)
  | _ => ("HatsDecide$Hat", "ran", "LHatsDecide$Trace;", true)
def tyX0 : Nat → FieldType := fun k => match k with
  | 0 => .int
  | 1 => .int
  | 2 => .int
  | 3 => .int
  | 4 => .int
  | _ => .object "HatsDecide$Trace"
theorem nmX0 : ∀ a, a < 6 → ∀ b, b < 6 → a ≠ b → (TX0 a).2.1 ≠ (TX0 b).2.1 := by decide +kernel
theorem tyX0_ok : ∀ k, k < 6 → parseFieldDescriptor (TX0 k).2.2.1 = some (tyX0 k) := by decide +kernel
abbrev cX0_init : ByteArray := prog_2_method_1_code
def yX0_init : MethodName := ⟨RX0, "<init>", "(IIIIILHatsDecide$Trace;)V"⟩
abbrev cX0_deed : ByteArray := prog_2_method_2_code
def yX0_deed : MethodName := ⟨RX0, "deed", "(IIII)I"⟩
abbrev cX0_tells : ByteArray := prog_2_method_3_code
def yX0_tells : MethodName := ⟨RX0, "tells", "(I)I"⟩
def RX1 : String := "HatsDecide$Frayed"
def TX1 : u_T := fun k => match k with
  | 0 => ("HatsDecide$Hat", "kind", "I", true)
  | 1 => ("HatsDecide$Hat", "number", "I", true)
  | 2 => ("HatsDecide$Hat", "v", "I", true)
  | 3 => ("HatsDecide$Hat", "size", "I", true)
  | 4 => ("HatsDecide$Hat", "trade", "I", true)
  | _ => ("HatsDecide$Hat", "ran", "LHatsDecide$Trace;", true)
def tyX1 : Nat → FieldType := fun k => match k with
  | 0 => .int
  | 1 => .int
  | 2 => .int
  | 3 => .int
  | 4 => .int
  | _ => .object "HatsDecide$Trace"
theorem nmX1 : ∀ a, a < 6 → ∀ b, b < 6 → a ≠ b → (TX1 a).2.1 ≠ (TX1 b).2.1 := by decide +kernel
theorem tyX1_ok : ∀ k, k < 6 → parseFieldDescriptor (TX1 k).2.2.1 = some (tyX1 k) := by decide +kernel
abbrev cX1_init : ByteArray := prog_3_method_1_code
def yX1_init : MethodName := ⟨RX1, "<init>", "(IIIIILHatsDecide$Trace;)V"⟩
abbrev cX1_deed : ByteArray := prog_3_method_2_code
def yX1_deed : MethodName := ⟨RX1, "deed", "(IIII)I"⟩
abbrev cX1_tells : ByteArray := prog_3_method_3_code
def yX1_tells : MethodName := ⟨RX1, "tells", "(I)I"⟩
def RX2 : String := "HatsDecide$Hat"
def TX2 : u_T := fun k => match k with
  | 0 => ("HatsDecide$Hat", "kind", "I", true)
  | 1 => ("HatsDecide$Hat", "number", "I", true)
  | 2 => ("HatsDecide$Hat", "v", "I", true)
  | 3 => ("HatsDecide$Hat", "size", "I", true)
  | 4 => ("HatsDecide$Hat", "trade", "I", true)
  | _ => ("HatsDecide$Hat", "ran", "LHatsDecide$Trace;", true)
def tyX2 : Nat → FieldType := fun k => match k with
  | 0 => .int
  | 1 => .int
  | 2 => .int
  | 3 => .int
  | 4 => .int
  | _ => .object "HatsDecide$Trace"
theorem nmX2 : ∀ a, a < 6 → ∀ b, b < 6 → a ≠ b → (TX2 a).2.1 ≠ (TX2 b).2.1 := by decide +kernel
theorem tyX2_ok : ∀ k, k < 6 → parseFieldDescriptor (TX2 k).2.2.1 = some (tyX2 k) := by decide +kernel
abbrev cX2_init : ByteArray := prog_4_method_1_code
def yX2_init : MethodName := ⟨RX2, "<init>", "(IIIIILHatsDecide$Trace;)V"⟩
abbrev cX2_deed : ByteArray := prog_4_method_2_code
def yX2_deed : MethodName := ⟨RX2, "deed", "(IIII)I"⟩
abbrev cX2_sits : ByteArray := prog_4_method_3_code
def yX2_sits : MethodName := ⟨RX2, "sits", "(I)I"⟩
abbrev cX2_does : ByteArray := prog_4_method_4_code
def yX2_does : MethodName := ⟨RX2, "does", "(I)I"⟩
abbrev cX2_tells : ByteArray := prog_4_method_5_code
def yX2_tells : MethodName := ⟨RX2, "tells", "(I)I"⟩
def RX3 : String := "HatsDecide$Scene"
def TX3 : u_T := fun k => match k with
  | 0 => ("HatsDecide$Scene", "heads", "I", false)
  | 1 => ("HatsDecide$Scene", "headSize", "[I", true)
  | 2 => ("HatsDecide$Scene", "own", "[I", true)
  | 3 => ("HatsDecide$Scene", "worn", "[I", true)
  | 4 => ("HatsDecide$Scene", "hats", "I", false)
  | 5 => ("HatsDecide$Scene", "hat", "[LHatsDecide$Hat;", true)
  | 6 => ("HatsDecide$Scene", "skill", "[I", true)
  | 7 => ("HatsDecide$Scene", "used", "[I", true)
  | 8 => ("HatsDecide$Scene", "rows", "[I", true)
  | 9 => ("HatsDecide$Scene", "day", "I", false)
  | 10 => ("HatsDecide$Scene", "done", "[I", true)
  | 11 => ("HatsDecide$Scene", "seen", "I", false)
  | 12 => ("HatsDecide$Scene", "seenHat", "[I", true)
  | 13 => ("HatsDecide$Scene", "seenDeed", "[I", true)
  | 14 => ("HatsDecide$Scene", "booked", "I", false)
  | 15 => ("HatsDecide$Scene", "bookHat", "[I", true)
  | 16 => ("HatsDecide$Scene", "bookHead", "[I", true)
  | _ => ("HatsDecide$Scene", "town", "I", false)
def tyX3 : Nat → FieldType := fun k => match k with
  | 0 => .int
  | 1 => .array .int
  | 2 => .array .int
  | 3 => .array .int
  | 4 => .int
  | 5 => .array (.object "HatsDecide$Hat")
  | 6 => .array .int
  | 7 => .array .int
  | 8 => .array .int
  | 9 => .int
  | 10 => .array .int
  | 11 => .int
  | 12 => .array .int
  | 13 => .array .int
  | 14 => .int
  | 15 => .array .int
  | 16 => .array .int
  | _ => .int
theorem nmX3 : ∀ a, a < 18 → ∀ b, b < 18 → a ≠ b → (TX3 a).2.1 ≠ (TX3 b).2.1 := by decide +kernel
theorem tyX3_ok : ∀ k, k < 18 → parseFieldDescriptor (TX3 k).2.2.1 = some (tyX3 k) := by decide +kernel
abbrev cX3_init : ByteArray := prog_5_method_1_code
def yX3_init : MethodName := ⟨RX3, "<init>", "()V"⟩
abbrev cX3_isHead : ByteArray := prog_5_method_2_code
def yX3_isHead : MethodName := ⟨RX3, "isHead", "(I)Z"⟩
abbrev cX3_isHat : ByteArray := prog_5_method_3_code
def yX3_isHat : MethodName := ⟨RX3, "isHat", "(I)Z"⟩
abbrev cX3_wearer : ByteArray := prog_5_method_4_code
def yX3_wearer : MethodName := ⟨RX3, "wearer", "(I)I"⟩
abbrev cX3_become : ByteArray := prog_5_method_5_code
def yX3_become : MethodName := ⟨RX3, "become", "(LHatsDecide$Scene;)V"⟩
abbrev cX3_copy : ByteArray := prog_5_method_6_code
def yX3_copy : MethodName := ⟨RX3, "copy", "([I[I)V"⟩
def RX4 : String := "HatsDecide$Stiff"
def TX4 : u_T := fun k => match k with
  | 0 => ("HatsDecide$Hat", "kind", "I", true)
  | 1 => ("HatsDecide$Hat", "number", "I", true)
  | 2 => ("HatsDecide$Hat", "v", "I", true)
  | 3 => ("HatsDecide$Hat", "size", "I", true)
  | 4 => ("HatsDecide$Hat", "trade", "I", true)
  | _ => ("HatsDecide$Hat", "ran", "LHatsDecide$Trace;", true)
def tyX4 : Nat → FieldType := fun k => match k with
  | 0 => .int
  | 1 => .int
  | 2 => .int
  | 3 => .int
  | 4 => .int
  | _ => .object "HatsDecide$Trace"
theorem nmX4 : ∀ a, a < 6 → ∀ b, b < 6 → a ≠ b → (TX4 a).2.1 ≠ (TX4 b).2.1 := by decide +kernel
theorem tyX4_ok : ∀ k, k < 6 → parseFieldDescriptor (TX4 k).2.2.1 = some (tyX4 k) := by decide +kernel
abbrev cX4_init : ByteArray := prog_6_method_1_code
def yX4_init : MethodName := ⟨RX4, "<init>", "(IIIIILHatsDecide$Trace;)V"⟩
abbrev cX4_deed : ByteArray := prog_6_method_2_code
def yX4_deed : MethodName := ⟨RX4, "deed", "(IIII)I"⟩
abbrev cX4_sits : ByteArray := prog_6_method_3_code
def yX4_sits : MethodName := ⟨RX4, "sits", "(I)I"⟩
abbrev cX4_does : ByteArray := prog_6_method_4_code
def yX4_does : MethodName := ⟨RX4, "does", "(I)I"⟩
def RX5 : String := "HatsDecide$Tape"
def TX5 : u_T := fun k => match k with
  | 0 => ("HatsDecide$Tape", "sort", "I", false)
  | 1 => ("HatsDecide$Tape", "length", "I", false)
  | _ => ("HatsDecide$Tape", "items", "[J", true)
def tyX5 : Nat → FieldType := fun k => match k with
  | 0 => .int
  | 1 => .int
  | _ => .array .long
theorem nmX5 : ∀ a, a < 3 → ∀ b, b < 3 → a ≠ b → (TX5 a).2.1 ≠ (TX5 b).2.1 := by decide +kernel
theorem tyX5_ok : ∀ k, k < 3 → parseFieldDescriptor (TX5 k).2.2.1 = some (tyX5 k) := by decide +kernel
abbrev cX5_init : ByteArray := prog_7_method_1_code
def yX5_init : MethodName := ⟨RX5, "<init>", "()V"⟩
abbrev cX5_begin : ByteArray := prog_7_method_2_code
def yX5_begin : MethodName := ⟨RX5, "begin", "(II)V"⟩
abbrev cX5_spans : ByteArray := prog_7_method_3_code
def yX5_spans : MethodName := ⟨RX5, "spans", "(II)Z"⟩
abbrev cX5_asItem : ByteArray := prog_7_method_4_code
def yX5_asItem : MethodName := ⟨RX5, "asItem", "(J)J"⟩
def RX6 : String := "HatsDecide$Tight"
def TX6 : u_T := fun k => match k with
  | 0 => ("HatsDecide$Hat", "kind", "I", true)
  | 1 => ("HatsDecide$Hat", "number", "I", true)
  | 2 => ("HatsDecide$Hat", "v", "I", true)
  | 3 => ("HatsDecide$Hat", "size", "I", true)
  | 4 => ("HatsDecide$Hat", "trade", "I", true)
  | _ => ("HatsDecide$Hat", "ran", "LHatsDecide$Trace;", true)
def tyX6 : Nat → FieldType := fun k => match k with
  | 0 => .int
  | 1 => .int
  | 2 => .int
  | 3 => .int
  | 4 => .int
  | _ => .object "HatsDecide$Trace"
theorem nmX6 : ∀ a, a < 6 → ∀ b, b < 6 → a ≠ b → (TX6 a).2.1 ≠ (TX6 b).2.1 := by decide +kernel
theorem tyX6_ok : ∀ k, k < 6 → parseFieldDescriptor (TX6 k).2.2.1 = some (tyX6 k) := by decide +kernel
abbrev cX6_init : ByteArray := prog_8_method_1_code
def yX6_init : MethodName := ⟨RX6, "<init>", "(IIIIILHatsDecide$Trace;)V"⟩
abbrev cX6_deed : ByteArray := prog_8_method_2_code
def yX6_deed : MethodName := ⟨RX6, "deed", "(IIII)I"⟩
abbrev cX6_does : ByteArray := prog_8_method_3_code
def yX6_does : MethodName := ⟨RX6, "does", "(I)I"⟩
def RX7 : String := "HatsDecide$Told"
def TX7 : u_T := fun k => match k with
  | 0 => ("HatsDecide$Hat", "kind", "I", true)
  | 1 => ("HatsDecide$Hat", "number", "I", true)
  | 2 => ("HatsDecide$Hat", "v", "I", true)
  | 3 => ("HatsDecide$Hat", "size", "I", true)
  | 4 => ("HatsDecide$Hat", "trade", "I", true)
  | _ => ("HatsDecide$Hat", "ran", "LHatsDecide$Trace;", true)
def tyX7 : Nat → FieldType := fun k => match k with
  | 0 => .int
  | 1 => .int
  | 2 => .int
  | 3 => .int
  | 4 => .int
  | _ => .object "HatsDecide$Trace"
theorem nmX7 : ∀ a, a < 6 → ∀ b, b < 6 → a ≠ b → (TX7 a).2.1 ≠ (TX7 b).2.1 := by decide +kernel
theorem tyX7_ok : ∀ k, k < 6 → parseFieldDescriptor (TX7 k).2.2.1 = some (tyX7 k) := by decide +kernel
abbrev cX7_init : ByteArray := prog_9_method_1_code
def yX7_init : MethodName := ⟨RX7, "<init>", "(IIIIILHatsDecide$Trace;)V"⟩
abbrev cX7_deed : ByteArray := prog_9_method_2_code
def yX7_deed : MethodName := ⟨RX7, "deed", "(IIII)I"⟩
abbrev cX7_does : ByteArray := prog_9_method_3_code
def yX7_does : MethodName := ⟨RX7, "does", "(I)I"⟩
abbrev cX7_sits : ByteArray := prog_9_method_4_code
def yX7_sits : MethodName := ⟨RX7, "sits", "(I)I"⟩
def RX8 : String := "HatsDecide$Town"
def TX8 : u_T := fun k => match k with
  | 0 => ("HatsDecide$Town", "clauses", "I", false)
  | 1 => ("HatsDecide$Town", "word", "[I", true)
  | 2 => ("HatsDecide$Town", "first", "[I", true)
  | 3 => ("HatsDecide$Town", "second", "[I", true)
  | 4 => ("HatsDecide$Town", "codeFrom", "[I", true)
  | 5 => ("HatsDecide$Town", "codeTo", "[I", true)
  | 6 => ("HatsDecide$Town", "codes", "I", false)
  | 7 => ("HatsDecide$Town", "code", "[I", true)
  | 8 => ("HatsDecide$Town", "source", "[B", false)
  | 9 => ("HatsDecide$Town", "bytes", "I", false)
  | 10 => ("HatsDecide$Town", "place", "I", false)
  | _ => ("HatsDecide$Town", "isSound", "Z", false)
def tyX8 : Nat → FieldType := fun k => match k with
  | 0 => .int
  | 1 => .array .int
  | 2 => .array .int
  | 3 => .array .int
  | 4 => .array .int
  | 5 => .array .int
  | 6 => .int
  | 7 => .array .int
  | 8 => .array .byte
  | 9 => .int
  | 10 => .int
  | _ => .boolean
theorem nmX8 : ∀ a, a < 12 → ∀ b, b < 12 → a ≠ b → (TX8 a).2.1 ≠ (TX8 b).2.1 := by decide +kernel
theorem tyX8_ok : ∀ k, k < 12 → parseFieldDescriptor (TX8 k).2.2.1 = some (tyX8 k) := by decide +kernel
abbrev cX8_init : ByteArray := prog_10_method_1_code
def yX8_init : MethodName := ⟨RX8, "<init>", "()V"⟩
abbrev cX8_moth : ByteArray := prog_10_method_2_code
def yX8_moth : MethodName := ⟨RX8, "moth", "()I"⟩
abbrev cX8_work : ByteArray := prog_10_method_3_code
def yX8_work : MethodName := ⟨RX8, "work", "(I)I"⟩
abbrev cX8_fits : ByteArray := prog_10_method_4_code
def yX8_fits : MethodName := ⟨RX8, "fits", "([I)I"⟩
abbrev cX8_holds : ByteArray := prog_10_method_5_code
def yX8_holds : MethodName := ⟨RX8, "holds", "(I[I)Z"⟩
abbrev cX8_codeOf : ByteArray := prog_10_method_6_code
def yX8_codeOf : MethodName := ⟨RX8, "codeOf", "(III)I"⟩
abbrev cX8_isTrue : ByteArray := prog_10_method_7_code
def yX8_isTrue : MethodName := ⟨RX8, "isTrue", "(I[I)Z"⟩
abbrev cX8_parse : ByteArray := prog_10_method_8_code
def yX8_parse : MethodName := ⟨RX8, "parse", "([BI)I"⟩
abbrev cX8_parseClause : ByteArray := prog_10_method_9_code
def yX8_parseClause : MethodName := ⟨RX8, "parseClause", "(I)V"⟩
abbrev cX8_parseEither : ByteArray := prog_10_method_10_code
def yX8_parseEither : MethodName := ⟨RX8, "parseEither", "(I)V"⟩
abbrev cX8_parsePart : ByteArray := prog_10_method_11_code
def yX8_parsePart : MethodName := ⟨RX8, "parsePart", "(I)V"⟩
abbrev cX8_parseNumber : ByteArray := prog_10_method_12_code
def yX8_parseNumber : MethodName := ⟨RX8, "parseNumber", "()I"⟩
abbrev cX8_addCode : ByteArray := prog_10_method_13_code
def yX8_addCode : MethodName := ⟨RX8, "addCode", "(I)V"⟩
abbrev cX8_isNext : ByteArray := prog_10_method_14_code
def yX8_isNext : MethodName := ⟨RX8, "isNext", "(C)Z"⟩
abbrev cX8_expect : ByteArray := prog_10_method_15_code
def yX8_expect : MethodName := ⟨RX8, "expect", "(C)V"⟩
abbrev cX8_oneOf : ByteArray := prog_10_method_16_code
def yX8_oneOf : MethodName := ⟨RX8, "oneOf", "(Ljava/lang/String;)I"⟩
def RX9 : String := "HatsDecide$Trace"
def TX9 : u_T := fun k => match k with
  | 0 => ("HatsDecide$Trace", "kept", "[I", true)
  | _ => ("HatsDecide$Trace", "bodies", "I", false)
def tyX9 : Nat → FieldType := fun k => match k with
  | 0 => .array .int
  | _ => .int
theorem nmX9 : ∀ a, a < 2 → ∀ b, b < 2 → a ≠ b → (TX9 a).2.1 ≠ (TX9 b).2.1 := by decide +kernel
theorem tyX9_ok : ∀ k, k < 2 → parseFieldDescriptor (TX9 k).2.2.1 = some (tyX9 k) := by decide +kernel
abbrev cX9_init : ByteArray := prog_11_method_1_code
def yX9_init : MethodName := ⟨RX9, "<init>", "()V"⟩
abbrev cX9_clear : ByteArray := prog_11_method_2_code
def yX9_clear : MethodName := ⟨RX9, "clear", "()V"⟩
abbrev cX9_note : ByteArray := prog_11_method_3_code
def yX9_note : MethodName := ⟨RX9, "note", "(I)V"⟩
def RX10 : String := "HatsDecide$Worn"
def TX10 : u_T := fun k => match k with
  | 0 => ("HatsDecide$Hat", "kind", "I", true)
  | 1 => ("HatsDecide$Hat", "number", "I", true)
  | 2 => ("HatsDecide$Hat", "v", "I", true)
  | 3 => ("HatsDecide$Hat", "size", "I", true)
  | 4 => ("HatsDecide$Hat", "trade", "I", true)
  | _ => ("HatsDecide$Hat", "ran", "LHatsDecide$Trace;", true)
def tyX10 : Nat → FieldType := fun k => match k with
  | 0 => .int
  | 1 => .int
  | 2 => .int
  | 3 => .int
  | 4 => .int
  | _ => .object "HatsDecide$Trace"
theorem nmX10 : ∀ a, a < 6 → ∀ b, b < 6 → a ≠ b → (TX10 a).2.1 ≠ (TX10 b).2.1 := by decide +kernel
theorem tyX10_ok : ∀ k, k < 6 → parseFieldDescriptor (TX10 k).2.2.1 = some (tyX10 k) := by decide +kernel
abbrev cX10_init : ByteArray := prog_12_method_1_code
def yX10_init : MethodName := ⟨RX10, "<init>", "(IIIIILHatsDecide$Trace;)V"⟩
abbrev cX10_deed : ByteArray := prog_12_method_2_code
def yX10_deed : MethodName := ⟨RX10, "deed", "(IIII)I"⟩
abbrev cX10_sits : ByteArray := prog_12_method_3_code
def yX10_sits : MethodName := ⟨RX10, "sits", "(I)I"⟩
def RX11 : String := "HatsDecide"
def TX11 : u_T := fun k => match k with
  | 0 => ("HatsDecide", "now", "LHatsDecide$Scene;", true)
  | 1 => ("HatsDecide", "kept", "LHatsDecide$Scene;", true)
  | 2 => ("HatsDecide", "isKept", "Z", false)
  | 3 => ("HatsDecide", "text", "[B", true)
  | 4 => ("HatsDecide", "textBytes", "I", false)
  | 5 => ("HatsDecide", "towns", "[LHatsDecide$Town;", true)
  | 6 => ("HatsDecide", "noTown", "LHatsDecide$Town;", true)
  | 7 => ("HatsDecide", "townCount", "I", false)
  | 8 => ("HatsDecide", "ran", "LHatsDecide$Trace;", true)
  | 9 => ("HatsDecide", "tapes", "[LHatsDecide$Tape;", true)
  | 10 => ("HatsDecide", "letters", "[I", true)
  | 11 => ("HatsDecide", "deeds", "[I", true)
  | 12 => ("HatsDecide", "most", "[I", true)
  | 13 => ("HatsDecide", "ways", "[I", true)
  | _ => ("HatsDecide", "perHead", "[I", true)
def tyX11 : Nat → FieldType := fun k => match k with
  | 0 => .object "HatsDecide$Scene"
  | 1 => .object "HatsDecide$Scene"
  | 2 => .boolean
  | 3 => .array .byte
  | 4 => .int
  | 5 => .array (.object "HatsDecide$Town")
  | 6 => .object "HatsDecide$Town"
  | 7 => .int
  | 8 => .object "HatsDecide$Trace"
  | 9 => .array (.object "HatsDecide$Tape")
  | 10 => .array .int
  | 11 => .array .int
  | 12 => .array .int
  | 13 => .array .int
  | _ => .array .int
theorem nmX11 : ∀ a, a < 15 → ∀ b, b < 15 → a ≠ b → (TX11 a).2.1 ≠ (TX11 b).2.1 := by decide +kernel
theorem tyX11_ok : ∀ k, k < 15 → parseFieldDescriptor (TX11 k).2.2.1 = some (tyX11 k) := by decide +kernel
abbrev cX11_init : ByteArray := prog_1_method_1_code
def yX11_init : MethodName := ⟨RX11, "<init>", "()V"⟩
abbrev cX11_head : ByteArray := prog_1_method_2_code
def yX11_head : MethodName := ⟨RX11, "head", "(I)I"⟩
abbrev cX11_hat : ByteArray := prog_1_method_3_code
def yX11_hat : MethodName := ⟨RX11, "hat", "(IIIII)I"⟩
abbrev cX11_newHat : ByteArray := prog_1_method_4_code
def yX11_newHat : MethodName := ⟨RX11, "newHat", "(IIIII)LHatsDecide$Hat;"⟩
abbrev cX11_of : ByteArray := prog_1_method_5_code
def yX11_of : MethodName := ⟨RX11, "of", "(II)I"⟩
abbrev cX11_at : ByteArray := prog_1_method_6_code
def yX11_at : MethodName := ⟨RX11, "at", "(II)I"⟩
abbrev cX11_row : ByteArray := prog_1_method_7_code
def yX11_row : MethodName := ⟨RX11, "row", "(III)I"⟩
abbrev cX11_put : ByteArray := prog_1_method_8_code
def yX11_put : MethodName := ⟨RX11, "put", "(II)I"⟩
abbrev cX11_own : ByteArray := prog_1_method_9_code
def yX11_own : MethodName := ⟨RX11, "own", "(II)I"⟩
abbrev cX11_skill : ByteArray := prog_1_method_10_code
def yX11_skill : MethodName := ⟨RX11, "skill", "(II)I"⟩
abbrev cX11_feed : ByteArray := prog_1_method_11_code
def yX11_feed : MethodName := ⟨RX11, "feed", "(I)I"⟩
abbrev cX11_town : ByteArray := prog_1_method_12_code
def yX11_town : MethodName := ⟨RX11, "town", "()I"⟩
abbrev cX11_told : ByteArray := prog_1_method_13_code
def yX11_told : MethodName := ⟨RX11, "told", "(I)I"⟩
abbrev cX11_day : ByteArray := prog_1_method_14_code
def yX11_day : MethodName := ⟨RX11, "day", "()I"⟩
abbrev cX11_gust : ByteArray := prog_1_method_15_code
def yX11_gust : MethodName := ⟨RX11, "gust", "(I)I"⟩
abbrev cX11_change : ByteArray := prog_1_method_16_code
def yX11_change : MethodName := ⟨RX11, "change", "(II)I"⟩
abbrev cX11_today : ByteArray := prog_1_method_17_code
def yX11_today : MethodName := ⟨RX11, "today", "(I)I"⟩
abbrev cX11_enough : ByteArray := prog_1_method_18_code
def yX11_enough : MethodName := ⟨RX11, "enough", "()I"⟩
abbrev cX11_best : ByteArray := prog_1_method_19_code
def yX11_best : MethodName := ⟨RX11, "best", "(I)I"⟩
abbrev cX11_on : ByteArray := prog_1_method_20_code
def yX11_on : MethodName := ⟨RX11, "on", "(II)I"⟩
abbrev cX11_lasts : ByteArray := prog_1_method_21_code
def yX11_lasts : MethodName := ⟨RX11, "lasts", "(I)I"⟩
abbrev cX11_by : ByteArray := prog_1_method_22_code
def yX11_by : MethodName := ⟨RX11, "by", "(I)I"⟩
abbrev cX11_can : ByteArray := prog_1_method_23_code
def yX11_can : MethodName := ⟨RX11, "can", "()I"⟩
abbrev cX11_back : ByteArray := prog_1_method_24_code
def yX11_back : MethodName := ⟨RX11, "back", "()I"⟩
abbrev cX11_gusted : ByteArray := prog_1_method_25_code
def yX11_gusted : MethodName := ⟨RX11, "gusted", "(I)I"⟩
abbrev cX11_lucky : ByteArray := prog_1_method_26_code
def yX11_lucky : MethodName := ⟨RX11, "lucky", "()I"⟩
abbrev cX11_swap : ByteArray := prog_1_method_27_code
def yX11_swap : MethodName := ⟨RX11, "swap", "()I"⟩
abbrev cX11_quarrel : ByteArray := prog_1_method_28_code
def yX11_quarrel : MethodName := ⟨RX11, "quarrel", "(III)I"⟩
abbrev cX11_how : ByteArray := prog_1_method_29_code
def yX11_how : MethodName := ⟨RX11, "how", "(I)I"⟩
abbrev cX11_see : ByteArray := prog_1_method_30_code
def yX11_see : MethodName := ⟨RX11, "see", "(II)I"⟩
abbrev cX11_wore : ByteArray := prog_1_method_31_code
def yX11_wore : MethodName := ⟨RX11, "wore", "(I)I"⟩
abbrev cX11_who : ByteArray := prog_1_method_32_code
def yX11_who : MethodName := ⟨RX11, "who", "()I"⟩
abbrev cX11_odds : ByteArray := prog_1_method_33_code
def yX11_odds : MethodName := ⟨RX11, "odds", "(II)J"⟩
abbrev cX11_mean : ByteArray := prog_1_method_34_code
def yX11_mean : MethodName := ⟨RX11, "mean", "(II)J"⟩
abbrev cX11_book : ByteArray := prog_1_method_35_code
def yX11_book : MethodName := ⟨RX11, "book", "(II)I"⟩
abbrev cX11_looked : ByteArray := prog_1_method_36_code
def yX11_looked : MethodName := ⟨RX11, "looked", "()I"⟩
abbrev cX11_judge : ByteArray := prog_1_method_37_code
def yX11_judge : MethodName := ⟨RX11, "judge", "(II)I"⟩
abbrev cX11_image : ByteArray := prog_1_method_38_code
def yX11_image : MethodName := ⟨RX11, "image", "()I"⟩
abbrev cX11_undo : ByteArray := prog_1_method_39_code
def yX11_undo : MethodName := ⟨RX11, "undo", "()I"⟩
abbrev cX11_act : ByteArray := prog_1_method_40_code
def yX11_act : MethodName := ⟨RX11, "act", "(III)I"⟩
abbrev cX11_trace : ByteArray := prog_1_method_41_code
def yX11_trace : MethodName := ⟨RX11, "trace", "(I)I"⟩
abbrev cX11_taken : ByteArray := prog_1_method_42_code
def yX11_taken : MethodName := ⟨RX11, "taken", "(II)I"⟩
abbrev cX11_count : ByteArray := prog_1_method_43_code
def yX11_count : MethodName := ⟨RX11, "count", "(I)I"⟩
abbrev cX11_tape : ByteArray := prog_1_method_44_code
def yX11_tape : MethodName := ⟨RX11, "tape", "(III)I"⟩
abbrev cX11_item : ByteArray := prog_1_method_45_code
def yX11_item : MethodName := ⟨RX11, "item", "(IIJ)I"⟩
abbrev cX11_read : ByteArray := prog_1_method_46_code
def yX11_read : MethodName := ⟨RX11, "read", "(II)J"⟩
abbrev cX11_shift : ByteArray := prog_1_method_47_code
def yX11_shift : MethodName := ⟨RX11, "shift", "(IIIII)I"⟩
abbrev cX11_within : ByteArray := prog_1_method_48_code
def yX11_within : MethodName := ⟨RX11, "within", "(III)Z"⟩
abbrev cX11_isDigit : ByteArray := prog_1_method_49_code
def yX11_isDigit : MethodName := ⟨RX11, "isDigit", "(I)Z"⟩
abbrev cX11_isTrade : ByteArray := prog_1_method_50_code
def yX11_isTrade : MethodName := ⟨RX11, "isTrade", "(I)Z"⟩
abbrev cX11_isGust : ByteArray := prog_1_method_51_code
def yX11_isGust : MethodName := ⟨RX11, "isGust", "(I)Z"⟩
abbrev cX11_isTape : ByteArray := prog_1_method_52_code
def yX11_isTape : MethodName := ⟨RX11, "isTape", "(I)Z"⟩
abbrev cX11_isHeadOrEmpty : ByteArray := prog_1_method_53_code
def yX11_isHeadOrEmpty : MethodName := ⟨RX11, "isHeadOrEmpty", "(I)Z"⟩
abbrev cX11_orNotAny : ByteArray := prog_1_method_54_code
def yX11_orNotAny : MethodName := ⟨RX11, "orNotAny", "(I)I"⟩
abbrev cX11_isOfKind : ByteArray := prog_1_method_55_code
def yX11_isOfKind : MethodName := ⟨RX11, "isOfKind", "(LHatsDecide$Hat;I)Z"⟩
abbrev cX11_holding : ByteArray := prog_1_method_56_code
def yX11_holding : MethodName := ⟨RX11, "holding", "()LHatsDecide$Town;"⟩
abbrev cX11_deedOn : ByteArray := prog_1_method_57_code
def yX11_deedOn : MethodName := ⟨RX11, "deedOn", "(III)I"⟩
abbrev cX11_total : ByteArray := prog_1_method_58_code
def yX11_total : MethodName := ⟨RX11, "total", "(III)I"⟩
abbrev cX11_isEnough : ByteArray := prog_1_method_59_code
def yX11_isEnough : MethodName := ⟨RX11, "isEnough", "(III)Z"⟩
abbrev cX11_noteDeeds : ByteArray := prog_1_method_60_code
def yX11_noteDeeds : MethodName := ⟨RX11, "noteDeeds", "()V"⟩
abbrev cX11_noted : ByteArray := prog_1_method_61_code
def yX11_noted : MethodName := ⟨RX11, "noted", "(II)I"⟩
abbrev cX11_hatsOf : ByteArray := prog_1_method_62_code
def yX11_hatsOf : MethodName := ⟨RX11, "hatsOf", "(I)I"⟩
abbrev cX11_weighWays : ByteArray := prog_1_method_63_code
def yX11_weighWays : MethodName := ⟨RX11, "weighWays", "(I)V"⟩
abbrev cX11_mostFrom : ByteArray := prog_1_method_64_code
def yX11_mostFrom : MethodName := ⟨RX11, "mostFrom", "(III)I"⟩
abbrev cX11_mostWith : ByteArray := prog_1_method_65_code
def yX11_mostWith : MethodName := ⟨RX11, "mostWith", "(III)I"⟩
abbrev cX11_wornByBestWay : ByteArray := prog_1_method_66_code
def yX11_wornByBestWay : MethodName := ⟨RX11, "wornByBestWay", "(I)I"⟩
abbrev cX11_firstOfBest : ByteArray := prog_1_method_67_code
def yX11_firstOfBest : MethodName := ⟨RX11, "firstOfBest", "(II)I"⟩
abbrev cX11_isOwnedBelow : ByteArray := prog_1_method_68_code
def yX11_isOwnedBelow : MethodName := ⟨RX11, "isOwnedBelow", "(II)Z"⟩
abbrev cX11_joinGroups : ByteArray := prog_1_method_69_code
def yX11_joinGroups : MethodName := ⟨RX11, "joinGroups", "(II)Z"⟩
abbrev cX11_isSeen : ByteArray := prog_1_method_70_code
def yX11_isSeen : MethodName := ⟨RX11, "isSeen", "(I)Z"⟩
abbrev cX11_isAsSeen : ByteArray := prog_1_method_71_code
def yX11_isAsSeen : MethodName := ⟨RX11, "isAsSeen", "(II)Z"⟩
abbrev cX11_wearers : ByteArray := prog_1_method_72_code
def yX11_wearers : MethodName := ⟨RX11, "wearers", "(I)I"⟩
abbrev cX11_addHatToWays : ByteArray := prog_1_method_73_code
def yX11_addHatToWays : MethodName := ⟨RX11, "addHatToWays", "(I)V"⟩
abbrev cX11_perHeads : ByteArray := prog_1_method_74_code
def yX11_perHeads : MethodName := ⟨RX11, "perHeads", "(II)J"⟩
def RX12 : String := "HatsDecideModel"
def TX12 : u_T := fun k => match k with
  | 0 => ("HatsDecideModel", "heads", "I", false)
  | 1 => ("HatsDecideModel", "hats", "I", false)
  | 2 => ("HatsDecideModel", "days", "I", false)
  | 3 => ("HatsDecideModel", "headSize", "[I", true)
  | 4 => ("HatsDecideModel", "owned", "[I", true)
  | 5 => ("HatsDecideModel", "worn", "[I", true)
  | 6 => ("HatsDecideModel", "kind", "[I", true)
  | 7 => ("HatsDecideModel", "v", "[I", true)
  | 8 => ("HatsDecideModel", "hatSize", "[I", true)
  | 9 => ("HatsDecideModel", "skill", "[I", true)
  | 10 => ("HatsDecideModel", "trade", "[I", true)
  | 11 => ("HatsDecideModel", "used", "[I", true)
  | 12 => ("HatsDecideModel", "rows", "[I", true)
  | 13 => ("HatsDecideModel", "done", "[I", true)
  | 14 => ("HatsDecideModel", "towns", "I", false)
  | 15 => ("HatsDecideModel", "the", "I", false)
  | 16 => ("HatsDecideModel", "fed", "I", false)
  | 17 => ("HatsDecideModel", "at", "I", false)
  | 18 => ("HatsDecideModel", "digits", "I", false)
  | 19 => ("HatsDecideModel", "text", "[I", true)
  | 20 => ("HatsDecideModel", "clauses", "[I", true)
  | 21 => ("HatsDecideModel", "word", "[I", true)
  | 22 => ("HatsDecideModel", "number", "[I", true)
  | 23 => ("HatsDecideModel", "asked", "[I", true)
  | 24 => ("HatsDecideModel", "from", "[I", true)
  | 25 => ("HatsDecideModel", "to", "[I", true)
  | 26 => ("HatsDecideModel", "sign", "[I", true)
  | 27 => ("HatsDecideModel", "waits", "[I", true)
  | 28 => ("HatsDecideModel", "signs", "I", false)
  | 29 => ("HatsDecideModel", "waiting", "I", false)
  | 30 => ("HatsDecideModel", "open", "I", false)
  | 31 => ("HatsDecideModel", "letters", "[I", true)
  | 32 => ("HatsDecideModel", "pile", "[Z", true)
  | 33 => ("HatsDecideModel", "mostUsed", "I", false)
  | 34 => ("HatsDecideModel", "blown", "[I", true)
  | 35 => ("HatsDecideModel", "keptDays", "I", false)
  | 36 => ("HatsDecideModel", "keptUsed", "[I", true)
  | 37 => ("HatsDecideModel", "keptWorn", "[I", true)
  | 38 => ("HatsDecideModel", "bestWay", "[I", true)
  | 39 => ("HatsDecideModel", "deeds", "[I", true)
  | 40 => ("HatsDecideModel", "bestSum", "I", false)
  | 41 => ("HatsDecideModel", "onward", "[I", true)
  | 42 => ("HatsDecideModel", "top", "[I", true)
  | 43 => ("HatsDecideModel", "seen", "I", false)
  | 44 => ("HatsDecideModel", "seenWho", "[I", true)
  | 45 => ("HatsDecideModel", "seenDeed", "[I", true)
  | 46 => ("HatsDecideModel", "ways", "[I", true)
  | 47 => ("HatsDecideModel", "books", "I", false)
  | 48 => ("HatsDecideModel", "bookWhat", "[I", true)
  | 49 => ("HatsDecideModel", "bookWho", "[I", true)
  | 50 => ("HatsDecideModel", "hasImage", "Z", false)
  | 51 => ("HatsDecideModel", "imageThe", "I", false)
  | 52 => ("HatsDecideModel", "imageHeads", "I", false)
  | 53 => ("HatsDecideModel", "imageHats", "I", false)
  | 54 => ("HatsDecideModel", "imageDays", "I", false)
  | 55 => ("HatsDecideModel", "imageSeen", "I", false)
  | 56 => ("HatsDecideModel", "imageBooks", "I", false)
  | 57 => ("HatsDecideModel", "imageHeadSize", "[I", true)
  | 58 => ("HatsDecideModel", "imageOwned", "[I", true)
  | 59 => ("HatsDecideModel", "imageWorn", "[I", true)
  | 60 => ("HatsDecideModel", "imageKind", "[I", true)
  | 61 => ("HatsDecideModel", "imageV", "[I", true)
  | 62 => ("HatsDecideModel", "imageHatSize", "[I", true)
  | 63 => ("HatsDecideModel", "imageSkill", "[I", true)
  | 64 => ("HatsDecideModel", "imageTrade", "[I", true)
  | 65 => ("HatsDecideModel", "imageUsed", "[I", true)
  | 66 => ("HatsDecideModel", "imageRows", "[I", true)
  | 67 => ("HatsDecideModel", "imageDone", "[I", true)
  | 68 => ("HatsDecideModel", "imageWho", "[I", true)
  | 69 => ("HatsDecideModel", "imageDeed", "[I", true)
  | 70 => ("HatsDecideModel", "imageWhat", "[I", true)
  | 71 => ("HatsDecideModel", "imageBookWho", "[I", true)
  | 72 => ("HatsDecideModel", "ran", "I", false)
  | 73 => ("HatsDecideModel", "bodies", "[I", true)
  | 74 => ("HatsDecideModel", "sort", "[I", true)
  | 75 => ("HatsDecideModel", "length", "[I", true)
  | 76 => ("HatsDecideModel", "item", "[J", true)
  | _ => ("HatsDecideModel", "aside", "[J", true)
def tyX12 : Nat → FieldType := fun k => match k with
  | 0 => .int
  | 1 => .int
  | 2 => .int
  | 3 => .array .int
  | 4 => .array .int
  | 5 => .array .int
  | 6 => .array .int
  | 7 => .array .int
  | 8 => .array .int
  | 9 => .array .int
  | 10 => .array .int
  | 11 => .array .int
  | 12 => .array .int
  | 13 => .array .int
  | 14 => .int
  | 15 => .int
  | 16 => .int
  | 17 => .int
  | 18 => .int
  | 19 => .array .int
  | 20 => .array .int
  | 21 => .array .int
  | 22 => .array .int
  | 23 => .array .int
  | 24 => .array .int
  | 25 => .array .int
  | 26 => .array .int
  | 27 => .array .int
  | 28 => .int
  | 29 => .int
  | 30 => .int
  | 31 => .array .int
  | 32 => .array .boolean
  | 33 => .int
  | 34 => .array .int
  | 35 => .int
  | 36 => .array .int
  | 37 => .array .int
  | 38 => .array .int
  | 39 => .array .int
  | 40 => .int
  | 41 => .array .int
  | 42 => .array .int
  | 43 => .int
  | 44 => .array .int
  | 45 => .array .int
  | 46 => .array .int
  | 47 => .int
  | 48 => .array .int
  | 49 => .array .int
  | 50 => .boolean
  | 51 => .int
  | 52 => .int
  | 53 => .int
  | 54 => .int
  | 55 => .int
  | 56 => .int
  | 57 => .array .int
  | 58 => .array .int
  | 59 => .array .int
  | 60 => .array .int
  | 61 => .array .int
  | 62 => .array .int
  | 63 => .array .int
  | 64 => .array .int
  | 65 => .array .int
  | 66 => .array .int
  | 67 => .array .int
  | 68 => .array .int
  | 69 => .array .int
  | 70 => .array .int
  | 71 => .array .int
  | 72 => .int
  | 73 => .array .int
  | 74 => .array .int
  | 75 => .array .int
  | 76 => .array .long
  | _ => .array .long
theorem nmX12 : ∀ a, a < 78 → ∀ b, b < 78 → a ≠ b → (TX12 a).2.1 ≠ (TX12 b).2.1 := by decide +kernel
theorem tyX12_ok : ∀ k, k < 78 → parseFieldDescriptor (TX12 k).2.2.1 = some (tyX12 k) := by decide +kernel
abbrev cX12_init : ByteArray := prog_14_method_1_code
def yX12_init : MethodName := ⟨RX12, "<init>", "()V"⟩
abbrev cX12_in : ByteArray := prog_14_method_2_code
def yX12_in : MethodName := ⟨RX12, "in", "(III)Z"⟩
abbrev cX12_has : ByteArray := prog_14_method_3_code
def yX12_has : MethodName := ⟨RX12, "has", "(II)Z"⟩
abbrev cX12_most : ByteArray := prog_14_method_4_code
def yX12_most : MethodName := ⟨RX12, "most", "(II)I"⟩
abbrev cX12_isHead : ByteArray := prog_14_method_5_code
def yX12_isHead : MethodName := ⟨RX12, "isHead", "(I)Z"⟩
abbrev cX12_isHat : ByteArray := prog_14_method_6_code
def yX12_isHat : MethodName := ⟨RX12, "isHat", "(I)Z"⟩
abbrev cX12_isTrade : ByteArray := prog_14_method_7_code
def yX12_isTrade : MethodName := ⟨RX12, "isTrade", "(I)Z"⟩
abbrev cX12_orNone : ByteArray := prog_14_method_8_code
def yX12_orNone : MethodName := ⟨RX12, "orNone", "(I)I"⟩
abbrev cX12_head : ByteArray := prog_14_method_9_code
def yX12_head : MethodName := ⟨RX12, "head", "(I)I"⟩
abbrev cX12_hat : ByteArray := prog_14_method_10_code
def yX12_hat : MethodName := ⟨RX12, "hat", "(IIIII)I"⟩
abbrev cX12_headOf : ByteArray := prog_14_method_11_code
def yX12_headOf : MethodName := ⟨RX12, "headOf", "(I)I"⟩
abbrev cX12_row : ByteArray := prog_14_method_12_code
def yX12_row : MethodName := ⟨RX12, "row", "(III)I"⟩
abbrev cX12_put : ByteArray := prog_14_method_13_code
def yX12_put : MethodName := ⟨RX12, "put", "(II)I"⟩
abbrev cX12_own : ByteArray := prog_14_method_14_code
def yX12_own : MethodName := ⟨RX12, "own", "(II)I"⟩
abbrev cX12_skill : ByteArray := prog_14_method_15_code
def yX12_skill : MethodName := ⟨RX12, "skill", "(II)I"⟩
abbrev cX12_feed : ByteArray := prog_14_method_16_code
def yX12_feed : MethodName := ⟨RX12, "feed", "(I)I"⟩
abbrev cX12_next : ByteArray := prog_14_method_17_code
def yX12_next : MethodName := ⟨RX12, "next", "()I"⟩
abbrev cX12_takes : ByteArray := prog_14_method_18_code
def yX12_takes : MethodName := ⟨RX12, "takes", "(I)Z"⟩
abbrev cX12_takesWord : ByteArray := prog_14_method_19_code
def yX12_takesWord : MethodName := ⟨RX12, "takesWord", "(II)Z"⟩
abbrev cX12_isDigit : ByteArray := prog_14_method_20_code
def yX12_isDigit : MethodName := ⟨RX12, "isDigit", "()Z"⟩
abbrev cX12_takesNumber : ByteArray := prog_14_method_21_code
def yX12_takesNumber : MethodName := ⟨RX12, "takesNumber", "()Z"⟩
abbrev cX12_emits : ByteArray := prog_14_method_22_code
def yX12_emits : MethodName := ⟨RX12, "emits", "(I)V"⟩
abbrev cX12_whole : ByteArray := prog_14_method_23_code
def yX12_whole : MethodName := ⟨RX12, "whole", "()V"⟩
abbrev cX12_settle : ByteArray := prog_14_method_24_code
def yX12_settle : MethodName := ⟨RX12, "settle", "(I)V"⟩
abbrev cX12_place : ByteArray := prog_14_method_25_code
def yX12_place : MethodName := ⟨RX12, "place", "(I)I"⟩
abbrev cX12_takesTest : ByteArray := prog_14_method_26_code
def yX12_takesTest : MethodName := ⟨RX12, "takesTest", "()Z"⟩
abbrev cX12_takesE : ByteArray := prog_14_method_27_code
def yX12_takesE : MethodName := ⟨RX12, "takesE", "(I)Z"⟩
abbrev cX12_takesHead : ByteArray := prog_14_method_28_code
def yX12_takesHead : MethodName := ⟨RX12, "takesHead", "(I)Z"⟩
abbrev cX12_takesClause : ByteArray := prog_14_method_29_code
def yX12_takesClause : MethodName := ⟨RX12, "takesClause", "(I)Z"⟩
abbrev cX12_goesText : ByteArray := prog_14_method_30_code
def yX12_goesText : MethodName := ⟨RX12, "goesText", "(I)Z"⟩
abbrev cX12_town : ByteArray := prog_14_method_31_code
def yX12_town : MethodName := ⟨RX12, "town", "()I"⟩
abbrev cX12_begin : ByteArray := prog_14_method_32_code
def yX12_begin : MethodName := ⟨RX12, "begin", "()I"⟩
abbrev cX12_behind : ByteArray := prog_14_method_33_code
def yX12_behind : MethodName := ⟨RX12, "behind", "()I"⟩
abbrev cX12_moth : ByteArray := prog_14_method_34_code
def yX12_moth : MethodName := ⟨RX12, "moth", "()I"⟩
abbrev cX12_work : ByteArray := prog_14_method_35_code
def yX12_work : MethodName := ⟨RX12, "work", "(I)I"⟩
abbrev cX12_factOf : ByteArray := prog_14_method_36_code
def yX12_factOf : MethodName := ⟨RX12, "factOf", "(III)I"⟩
abbrev cX12_holds : ByteArray := prog_14_method_37_code
def yX12_holds : MethodName := ⟨RX12, "holds", "(III)Z"⟩
abbrev cX12_fits : ByteArray := prog_14_method_38_code
def yX12_fits : MethodName := ⟨RX12, "fits", "(II)I"⟩
abbrev cX12_apart : ByteArray := prog_14_method_39_code
def yX12_apart : MethodName := ⟨RX12, "apart", "(II)I"⟩
abbrev cX12_deed : ByteArray := prog_14_method_40_code
def yX12_deed : MethodName := ⟨RX12, "deed", "(II)I"⟩
abbrev cX12_of : ByteArray := prog_14_method_41_code
def yX12_of : MethodName := ⟨RX12, "of", "(II)I"⟩
abbrev cX12_at : ByteArray := prog_14_method_42_code
def yX12_at : MethodName := ⟨RX12, "at", "(II)I"⟩
abbrev cX12_told : ByteArray := prog_14_method_43_code
def yX12_told : MethodName := ⟨RX12, "told", "(I)I"⟩
abbrev cX12_todayOf : ByteArray := prog_14_method_44_code
def yX12_todayOf : MethodName := ⟨RX12, "todayOf", "(I)I"⟩
abbrev cX12_goDay : ByteArray := prog_14_method_45_code
def yX12_goDay : MethodName := ⟨RX12, "goDay", "()V"⟩
abbrev cX12_day : ByteArray := prog_14_method_46_code
def yX12_day : MethodName := ⟨RX12, "day", "()I"⟩
abbrev cX12_goGust : ByteArray := prog_14_method_47_code
def yX12_goGust : MethodName := ⟨RX12, "goGust", "(I)I"⟩
abbrev cX12_gust : ByteArray := prog_14_method_48_code
def yX12_gust : MethodName := ⟨RX12, "gust", "(I)I"⟩
abbrev cX12_swaps : ByteArray := prog_14_method_49_code
def yX12_swaps : MethodName := ⟨RX12, "swaps", "(II)V"⟩
abbrev cX12_change : ByteArray := prog_14_method_50_code
def yX12_change : MethodName := ⟨RX12, "change", "(II)I"⟩
abbrev cX12_today : ByteArray := prog_14_method_51_code
def yX12_today : MethodName := ⟨RX12, "today", "(I)I"⟩
abbrev cX12_enough : ByteArray := prog_14_method_52_code
def yX12_enough : MethodName := ⟨RX12, "enough", "()I"⟩
abbrev cX12_best : ByteArray := prog_14_method_53_code
def yX12_best : MethodName := ⟨RX12, "best", "(I)I"⟩
abbrev cX12_save : ByteArray := prog_14_method_54_code
def yX12_save : MethodName := ⟨RX12, "save", "()V"⟩
abbrev cX12_putBack : ByteArray := prog_14_method_55_code
def yX12_putBack : MethodName := ⟨RX12, "putBack", "()V"⟩
abbrev cX12_on : ByteArray := prog_14_method_56_code
def yX12_on : MethodName := ⟨RX12, "on", "(II)I"⟩
abbrev cX12_lasts : ByteArray := prog_14_method_57_code
def yX12_lasts : MethodName := ⟨RX12, "lasts", "(I)I"⟩
abbrev cX12_layDeeds : ByteArray := prog_14_method_58_code
def yX12_layDeeds : MethodName := ⟨RX12, "layDeeds", "()V"⟩
abbrev cX12_ones : ByteArray := prog_14_method_59_code
def yX12_ones : MethodName := ⟨RX12, "ones", "(I)I"⟩
abbrev cX12_onwardBy : ByteArray := prog_14_method_60_code
def yX12_onwardBy : MethodName := ⟨RX12, "onwardBy", "(III)I"⟩
abbrev cX12_layBest : ByteArray := prog_14_method_61_code
def yX12_layBest : MethodName := ⟨RX12, "layBest", "()V"⟩
abbrev cX12_by : ByteArray := prog_14_method_62_code
def yX12_by : MethodName := ⟨RX12, "by", "(I)I"⟩
abbrev cX12_mostOf : ByteArray := prog_14_method_63_code
def yX12_mostOf : MethodName := ⟨RX12, "mostOf", "(I)I"⟩
abbrev cX12_can : ByteArray := prog_14_method_64_code
def yX12_can : MethodName := ⟨RX12, "can", "()I"⟩
abbrev cX12_isClash : ByteArray := prog_14_method_65_code
def yX12_isClash : MethodName := ⟨RX12, "isClash", "()Z"⟩
abbrev cX12_dueFor : ByteArray := prog_14_method_66_code
def yX12_dueFor : MethodName := ⟨RX12, "dueFor", "(I)I"⟩
abbrev cX12_isRing : ByteArray := prog_14_method_67_code
def yX12_isRing : MethodName := ⟨RX12, "isRing", "(I)Z"⟩
abbrev cX12_back : ByteArray := prog_14_method_68_code
def yX12_back : MethodName := ⟨RX12, "back", "()I"⟩
abbrev cX12_gustedBy : ByteArray := prog_14_method_69_code
def yX12_gustedBy : MethodName := ⟨RX12, "gustedBy", "(I)I"⟩
abbrev cX12_gusted : ByteArray := prog_14_method_70_code
def yX12_gusted : MethodName := ⟨RX12, "gusted", "(I)I"⟩
abbrev cX12_lucky : ByteArray := prog_14_method_71_code
def yX12_lucky : MethodName := ⟨RX12, "lucky", "()I"⟩
abbrev cX12_swap : ByteArray := prog_14_method_72_code
def yX12_swap : MethodName := ⟨RX12, "swap", "()I"⟩
abbrev cX12_quarrel : ByteArray := prog_14_method_73_code
def yX12_quarrel : MethodName := ⟨RX12, "quarrel", "(III)I"⟩
abbrev cX12_how : ByteArray := prog_14_method_74_code
def yX12_how : MethodName := ⟨RX12, "how", "(I)I"⟩
abbrev cX12_see : ByteArray := prog_14_method_75_code
def yX12_see : MethodName := ⟨RX12, "see", "(II)I"⟩
abbrev cX12_woreOn : ByteArray := prog_14_method_76_code
def yX12_woreOn : MethodName := ⟨RX12, "woreOn", "(I)I"⟩
abbrev cX12_wore : ByteArray := prog_14_method_77_code
def yX12_wore : MethodName := ⟨RX12, "wore", "(I)I"⟩
abbrev cX12_who : ByteArray := prog_14_method_78_code
def yX12_who : MethodName := ⟨RX12, "who", "()I"⟩
abbrev cX12_divisor : ByteArray := prog_14_method_79_code
def yX12_divisor : MethodName := ⟨RX12, "divisor", "(II)I"⟩
abbrev cX12_lowest : ByteArray := prog_14_method_80_code
def yX12_lowest : MethodName := ⟨RX12, "lowest", "(III)J"⟩
abbrev cX12_odds : ByteArray := prog_14_method_81_code
def yX12_odds : MethodName := ⟨RX12, "odds", "(II)J"⟩
abbrev cX12_mean : ByteArray := prog_14_method_82_code
def yX12_mean : MethodName := ⟨RX12, "mean", "(II)J"⟩
abbrev cX12_book : ByteArray := prog_14_method_83_code
def yX12_book : MethodName := ⟨RX12, "book", "(II)I"⟩
abbrev cX12_looked : ByteArray := prog_14_method_84_code
def yX12_looked : MethodName := ⟨RX12, "looked", "()I"⟩
abbrev cX12_judge : ByteArray := prog_14_method_85_code
def yX12_judge : MethodName := ⟨RX12, "judge", "(II)I"⟩
abbrev cX12_image : ByteArray := prog_14_method_86_code
def yX12_image : MethodName := ⟨RX12, "image", "()I"⟩
abbrev cX12_undo : ByteArray := prog_14_method_87_code
def yX12_undo : MethodName := ⟨RX12, "undo", "()I"⟩
abbrev cX12_body : ByteArray := prog_14_method_88_code
def yX12_body : MethodName := ⟨RX12, "body", "(I)V"⟩
abbrev cX12_hatSits : ByteArray := prog_14_method_89_code
def yX12_hatSits : MethodName := ⟨RX12, "hatSits", "(II)I"⟩
abbrev cX12_sitsAct : ByteArray := prog_14_method_90_code
def yX12_sitsAct : MethodName := ⟨RX12, "sitsAct", "(II)I"⟩
abbrev cX12_hatDoes : ByteArray := prog_14_method_91_code
def yX12_hatDoes : MethodName := ⟨RX12, "hatDoes", "(II)I"⟩
abbrev cX12_tightDoes : ByteArray := prog_14_method_92_code
def yX12_tightDoes : MethodName := ⟨RX12, "tightDoes", "(II)I"⟩
abbrev cX12_doesAct : ByteArray := prog_14_method_93_code
def yX12_doesAct : MethodName := ⟨RX12, "doesAct", "(II)I"⟩
abbrev cX12_hatTells : ByteArray := prog_14_method_94_code
def yX12_hatTells : MethodName := ⟨RX12, "hatTells", "(II)I"⟩
abbrev cX12_tellsAct : ByteArray := prog_14_method_95_code
def yX12_tellsAct : MethodName := ⟨RX12, "tellsAct", "(II)I"⟩
abbrev cX12_act : ByteArray := prog_14_method_96_code
def yX12_act : MethodName := ⟨RX12, "act", "(III)I"⟩
abbrev cX12_trace : ByteArray := prog_14_method_97_code
def yX12_trace : MethodName := ⟨RX12, "trace", "(I)I"⟩
abbrev cX12_taken : ByteArray := prog_14_method_98_code
def yX12_taken : MethodName := ⟨RX12, "taken", "(II)I"⟩
abbrev cX12_count : ByteArray := prog_14_method_99_code
def yX12_count : MethodName := ⟨RX12, "count", "(I)I"⟩
abbrev cX12_isTape : ByteArray := prog_14_method_100_code
def yX12_isTape : MethodName := ⟨RX12, "isTape", "(I)Z"⟩
abbrev cX12_tape : ByteArray := prog_14_method_101_code
def yX12_tape : MethodName := ⟨RX12, "tape", "(III)I"⟩
abbrev cX12_narrow : ByteArray := prog_14_method_102_code
def yX12_narrow : MethodName := ⟨RX12, "narrow", "(IJ)J"⟩
abbrev cX12_item : ByteArray := prog_14_method_103_code
def yX12_item : MethodName := ⟨RX12, "item", "(IIJ)I"⟩
abbrev cX12_read : ByteArray := prog_14_method_104_code
def yX12_read : MethodName := ⟨RX12, "read", "(II)J"⟩
abbrev cX12_shift : ByteArray := prog_14_method_105_code
def yX12_shift : MethodName := ⟨RX12, "shift", "(IIIII)I"⟩
def RJ6 : String := "java/lang/Integer"
abbrev cJ6_compare_7cf53 : ByteArray := prog_15_method_40_code
def yJ6_compare_7cf53 : MethodName := ⟨RJ6, "compare", "(II)I"⟩
abbrev cJ6_bitCount_0f7a4 : ByteArray := prog_15_method_49_code
def yJ6_bitCount_0f7a4 : MethodName := ⟨RJ6, "bitCount", "(I)I"⟩
def RJ9 : String := "java/lang/Math"
def RJ0 : String := "java/lang/String"
abbrev cJ0_length_8abf5 : ByteArray := prog_17_method_54_code
def yJ0_length_8abf5 : MethodName := ⟨RJ0, "length", "()I"⟩
abbrev cJ0_charAt_5068e : ByteArray := prog_17_method_56_code
def yJ0_charAt_5068e : MethodName := ⟨RJ0, "charAt", "(I)C"⟩
abbrev cJ0_coder_7d493 : ByteArray := prog_17_method_152_code
def yJ0_coder_7d493 : MethodName := ⟨RJ0, "coder", "()B"⟩
abbrev cJ0_isLatin1_aae02 : ByteArray := prog_17_method_154_code
def yJ0_isLatin1_aae02 : MethodName := ⟨RJ0, "isLatin1", "()Z"⟩
abbrev cJ0_checkIndex_df160 : ByteArray := prog_17_method_155_code
def yJ0_checkIndex_df160 : MethodName := ⟨RJ0, "checkIndex", "(II)V"⟩
def RJ1 : String := "java/lang/StringLatin1"
abbrev cJ1_charAt_3b067 : ByteArray := prog_18_method_2_code
def yJ1_charAt_3b067 : MethodName := ⟨RJ1, "charAt", "([BI)C"⟩
def RJ10 : String := "java/lang/System"
def RJ7 : String := "java/util/Arrays"
abbrev cJ7_fill_d0a16 : ByteArray := prog_21_method_101_code
def yJ7_fill_d0a16 : MethodName := ⟨RJ7, "fill", "([JJ)V"⟩
abbrev cJ7_fill_53178 : ByteArray := prog_21_method_103_code
def yJ7_fill_53178 : MethodName := ⟨RJ7, "fill", "([II)V"⟩
def RJ3 : String := "jdk/internal/util/Preconditions"
abbrev cJ3_checkIndex_8e157 : ByteArray := prog_22_method_11_code
def yJ3_checkIndex_8e157 : MethodName := ⟨RJ3, "checkIndex", "(IILjava/util/function/BiFunction;)I"⟩
def RL : String := "HatsDecideLaw"
abbrev cL_law : ByteArray := code
def yL_law : MethodName := ⟨RL, "law", "([I)Z"⟩
abbrev vwCl : List vw_C := [(RX0, TX0, 6), (RX1, TX1, 6), (RX2, TX2, 6), (RX3, TX3, 18), (RX4, TX4, 6), (RX5, TX5, 3), (RX6, TX6, 6), (RX7, TX7, 6), (RX8, TX8, 12), (RX9, TX9, 2), (RX10, TX10, 6), (RX11, TX11, 15), (RX12, TX12, 78)]
def xR : Nat → String := fun k => match k with
  | 0 => RX0
  | 1 => RX1
  | 2 => RX2
  | 3 => RX3
  | 4 => RX4
  | 5 => RX5
  | 6 => RX6
  | 7 => RX7
  | 8 => RX8
  | 9 => RX9
  | 10 => RX10
  | 11 => RX11
  | 12 => RX12
  | 13 => RL
  | 14 => RJ6
  | 15 => RJ7
  | 16 => RJ0
  | 17 => RJ1
  | _ => RJ3
def xT : Nat → u_T := fun k => match k with
  | 0 => TX0
  | 1 => TX1
  | 2 => TX2
  | 3 => TX3
  | 4 => TX4
  | 5 => TX5
  | 6 => TX6
  | 7 => TX7
  | 8 => TX8
  | 9 => TX9
  | 10 => TX10
  | 11 => TX11
  | _ => TX12
def xty : Nat → Nat → FieldType := fun k => match k with
  | 0 => tyX0
  | 1 => tyX1
  | 2 => tyX2
  | 3 => tyX3
  | 4 => tyX4
  | 5 => tyX5
  | 6 => tyX6
  | 7 => tyX7
  | 8 => tyX8
  | 9 => tyX9
  | 10 => tyX10
  | 11 => tyX11
  | _ => tyX12
def xN : Nat → Nat := fun k => match k with
  | 0 => 6
  | 1 => 6
  | 2 => 6
  | 3 => 18
  | 4 => 6
  | 5 => 3
  | 6 => 6
  | 7 => 6
  | 8 => 12
  | 9 => 2
  | 10 => 6
  | 11 => 15
  | _ => 78
def xNest : List Cond := [Cond.methodLinkNest "HatsDecide" 13 ⟨"HatsDecide$Scene", "<init>", "()V"⟩ "HatsDecide", Cond.methodLinkNest "HatsDecide" 39 ⟨"HatsDecide$Town", "<init>", "()V"⟩ "HatsDecide", Cond.methodLinkNest "HatsDecide" 49 ⟨"HatsDecide$Trace", "<init>", "()V"⟩ "HatsDecide", Cond.methodLinkNest "HatsDecide" 84 ⟨"HatsDecide$Tape", "<init>", "()V"⟩ "HatsDecide", Cond.methodLinkNest "HatsDecide$Town" 124 ⟨"HatsDecide", "within", "(III)Z"⟩ "HatsDecide"]
theorem xNest_in : ∀ w ∈ xNest, w ∈ tables_1 := List.forall_mem_cons.mpr ⟨xt1 (i := 32) rfl, List.forall_mem_cons.mpr ⟨xt1 (i := 115) rfl, List.forall_mem_cons.mpr ⟨xt1 (i := 161) rfl, List.forall_mem_cons.mpr ⟨xt1 (i := 188) rfl, List.forall_mem_cons.mpr ⟨xt3 (i := 104) rfl, fun _ h => absurd h List.not_mem_nil⟩⟩⟩⟩⟩
theorem xNest_form : ∀ w ∈ xNest, ∃ (a : String) (i : Nat) (x : MethodName) (h : String), w = .methodLinkNest a i x h := List.forall_mem_cons.mpr ⟨⟨_, _, _, _, rfl⟩, List.forall_mem_cons.mpr ⟨⟨_, _, _, _, rfl⟩, List.forall_mem_cons.mpr ⟨⟨_, _, _, _, rfl⟩, List.forall_mem_cons.mpr ⟨⟨_, _, _, _, rfl⟩, List.forall_mem_cons.mpr ⟨⟨_, _, _, _, rfl⟩, fun _ h => absurd h List.not_mem_nil⟩⟩⟩⟩⟩
theorem xw0 : Cond.laysFinal "HatsDecide$Crown" "HatsDecide$Hat" "kind" "I" ∈ xW := xin (xt2 (i := 103) rfl) rfl
theorem xw1 : Cond.laysFinal "HatsDecide$Crown" "HatsDecide$Hat" "number" "I" ∈ xW := xin (xt2 (i := 104) rfl) rfl
theorem xw2 : Cond.laysFinal "HatsDecide$Crown" "HatsDecide$Hat" "v" "I" ∈ xW := xin (xt2 (i := 105) rfl) rfl
theorem xw3 : Cond.laysFinal "HatsDecide$Crown" "HatsDecide$Hat" "size" "I" ∈ xW := xin (xt2 (i := 106) rfl) rfl
theorem xw4 : Cond.laysFinal "HatsDecide$Crown" "HatsDecide$Hat" "trade" "I" ∈ xW := xin (xt2 (i := 107) rfl) rfl
theorem xw5 : Cond.laysFinal "HatsDecide$Crown" "HatsDecide$Hat" "ran" "LHatsDecide$Trace;" ∈ xW := xin (xt2 (i := 108) rfl) rfl
set_option maxRecDepth 100000 in
theorem xcl0 : ∀ w ∈ u_ws RX0 TX0 6, w ∈ xW := List.forall_mem_cons.mpr ⟨xw0, List.forall_mem_cons.mpr ⟨xw1, List.forall_mem_cons.mpr ⟨xw2, List.forall_mem_cons.mpr ⟨xw3, List.forall_mem_cons.mpr ⟨xw4, List.forall_mem_cons.mpr ⟨xw5, fun _ h => absurd h List.not_mem_nil⟩⟩⟩⟩⟩⟩
theorem xw6 : Cond.instantiable "HatsDecide$Crown" 6 ∈ xW := xin (xt2 (i := 98) rfl) rfl
theorem xci0 : Cond.instantiable RX0 6 ∈ xW := xw6
theorem xw7 : Cond.initialized "HatsDecide$Crown" ∈ xW := xin (xt1 (i := 11) rfl) rfl
theorem xcn0 : Cond.initialized RX0 ∈ xW := xw7
theorem xw8 : Cond.laysFinal "HatsDecide$Frayed" "HatsDecide$Hat" "kind" "I" ∈ xW := xin (xt2 (i := 129) rfl) rfl
theorem xw9 : Cond.laysFinal "HatsDecide$Frayed" "HatsDecide$Hat" "number" "I" ∈ xW := xin (xt2 (i := 130) rfl) rfl
theorem xw10 : Cond.laysFinal "HatsDecide$Frayed" "HatsDecide$Hat" "v" "I" ∈ xW := xin (xt2 (i := 131) rfl) rfl
theorem xw11 : Cond.laysFinal "HatsDecide$Frayed" "HatsDecide$Hat" "size" "I" ∈ xW := xin (xt2 (i := 132) rfl) rfl
theorem xw12 : Cond.laysFinal "HatsDecide$Frayed" "HatsDecide$Hat" "trade" "I" ∈ xW := xin (xt2 (i := 133) rfl) rfl
theorem xw13 : Cond.laysFinal "HatsDecide$Frayed" "HatsDecide$Hat" "ran" "LHatsDecide$Trace;" ∈ xW := xin (xt2 (i := 134) rfl) rfl
set_option maxRecDepth 100000 in
theorem xcl1 : ∀ w ∈ u_ws RX1 TX1 6, w ∈ xW := List.forall_mem_cons.mpr ⟨xw8, List.forall_mem_cons.mpr ⟨xw9, List.forall_mem_cons.mpr ⟨xw10, List.forall_mem_cons.mpr ⟨xw11, List.forall_mem_cons.mpr ⟨xw12, List.forall_mem_cons.mpr ⟨xw13, fun _ h => absurd h List.not_mem_nil⟩⟩⟩⟩⟩⟩
theorem xw14 : Cond.instantiable "HatsDecide$Frayed" 6 ∈ xW := xin (xt2 (i := 124) rfl) rfl
theorem xci1 : Cond.instantiable RX1 6 ∈ xW := xw14
theorem xw15 : Cond.initialized "HatsDecide$Frayed" ∈ xW := xin (xt1 (i := 13) rfl) rfl
theorem xcn1 : Cond.initialized RX1 ∈ xW := xw15
theorem xw16 : Cond.laysFinal "HatsDecide$Hat" "HatsDecide$Hat" "kind" "I" ∈ xW := xin (xt2 (i := 152) rfl) rfl
theorem xw17 : Cond.laysFinal "HatsDecide$Hat" "HatsDecide$Hat" "number" "I" ∈ xW := xin (xt2 (i := 153) rfl) rfl
theorem xw18 : Cond.laysFinal "HatsDecide$Hat" "HatsDecide$Hat" "v" "I" ∈ xW := xin (xt2 (i := 154) rfl) rfl
theorem xw19 : Cond.laysFinal "HatsDecide$Hat" "HatsDecide$Hat" "size" "I" ∈ xW := xin (xt2 (i := 155) rfl) rfl
theorem xw20 : Cond.laysFinal "HatsDecide$Hat" "HatsDecide$Hat" "trade" "I" ∈ xW := xin (xt2 (i := 156) rfl) rfl
theorem xw21 : Cond.laysFinal "HatsDecide$Hat" "HatsDecide$Hat" "ran" "LHatsDecide$Trace;" ∈ xW := xin (xt2 (i := 157) rfl) rfl
set_option maxRecDepth 100000 in
theorem xcl2 : ∀ w ∈ u_ws RX2 TX2 6, w ∈ xW := List.forall_mem_cons.mpr ⟨xw16, List.forall_mem_cons.mpr ⟨xw17, List.forall_mem_cons.mpr ⟨xw18, List.forall_mem_cons.mpr ⟨xw19, List.forall_mem_cons.mpr ⟨xw20, List.forall_mem_cons.mpr ⟨xw21, fun _ h => absurd h List.not_mem_nil⟩⟩⟩⟩⟩⟩
theorem xw22 : Cond.instantiable "HatsDecide$Hat" 6 ∈ xW := xin (xt2 (i := 150) rfl) rfl
theorem xci2 : Cond.instantiable RX2 6 ∈ xW := xw22
theorem xw23 : Cond.initialized "HatsDecide$Hat" ∈ xW := xin (xt1 (i := 8) rfl) rfl
theorem xcn2 : Cond.initialized RX2 ∈ xW := xw23
theorem xw24 : Cond.lays "HatsDecide$Scene" "HatsDecide$Scene" "heads" "I" ∈ xW := xin (xt1 (i := 74) rfl) rfl
theorem xw25 : Cond.laysFinal "HatsDecide$Scene" "HatsDecide$Scene" "headSize" "[I" ∈ xW := xin (xt1 (i := 76) rfl) rfl
theorem xw26 : Cond.laysFinal "HatsDecide$Scene" "HatsDecide$Scene" "own" "[I" ∈ xW := xin (xt1 (i := 78) rfl) rfl
theorem xw27 : Cond.laysFinal "HatsDecide$Scene" "HatsDecide$Scene" "worn" "[I" ∈ xW := xin (xt1 (i := 80) rfl) rfl
theorem xw28 : Cond.lays "HatsDecide$Scene" "HatsDecide$Scene" "hats" "I" ∈ xW := xin (xt1 (i := 82) rfl) rfl
theorem xw29 : Cond.laysFinal "HatsDecide$Scene" "HatsDecide$Scene" "hat" "[LHatsDecide$Hat;" ∈ xW := xin (xt1 (i := 84) rfl) rfl
theorem xw30 : Cond.laysFinal "HatsDecide$Scene" "HatsDecide$Scene" "skill" "[I" ∈ xW := xin (xt1 (i := 86) rfl) rfl
theorem xw31 : Cond.laysFinal "HatsDecide$Scene" "HatsDecide$Scene" "used" "[I" ∈ xW := xin (xt1 (i := 88) rfl) rfl
theorem xw32 : Cond.laysFinal "HatsDecide$Scene" "HatsDecide$Scene" "rows" "[I" ∈ xW := xin (xt1 (i := 90) rfl) rfl
theorem xw33 : Cond.lays "HatsDecide$Scene" "HatsDecide$Scene" "day" "I" ∈ xW := xin (xt1 (i := 92) rfl) rfl
theorem xw34 : Cond.laysFinal "HatsDecide$Scene" "HatsDecide$Scene" "done" "[I" ∈ xW := xin (xt1 (i := 94) rfl) rfl
theorem xw35 : Cond.lays "HatsDecide$Scene" "HatsDecide$Scene" "seen" "I" ∈ xW := xin (xt1 (i := 96) rfl) rfl
theorem xw36 : Cond.laysFinal "HatsDecide$Scene" "HatsDecide$Scene" "seenHat" "[I" ∈ xW := xin (xt1 (i := 98) rfl) rfl
theorem xw37 : Cond.laysFinal "HatsDecide$Scene" "HatsDecide$Scene" "seenDeed" "[I" ∈ xW := xin (xt1 (i := 100) rfl) rfl
theorem xw38 : Cond.lays "HatsDecide$Scene" "HatsDecide$Scene" "booked" "I" ∈ xW := xin (xt1 (i := 102) rfl) rfl
theorem xw39 : Cond.laysFinal "HatsDecide$Scene" "HatsDecide$Scene" "bookHat" "[I" ∈ xW := xin (xt1 (i := 104) rfl) rfl
theorem xw40 : Cond.laysFinal "HatsDecide$Scene" "HatsDecide$Scene" "bookHead" "[I" ∈ xW := xin (xt1 (i := 106) rfl) rfl
theorem xw41 : Cond.lays "HatsDecide$Scene" "HatsDecide$Scene" "town" "I" ∈ xW := xin (xt1 (i := 108) rfl) rfl
set_option maxRecDepth 100000 in
theorem xcl3 : ∀ w ∈ u_ws RX3 TX3 18, w ∈ xW := List.forall_mem_cons.mpr ⟨xw24, List.forall_mem_cons.mpr ⟨xw25, List.forall_mem_cons.mpr ⟨xw26, List.forall_mem_cons.mpr ⟨xw27, List.forall_mem_cons.mpr ⟨xw28, List.forall_mem_cons.mpr ⟨xw29, List.forall_mem_cons.mpr ⟨xw30, List.forall_mem_cons.mpr ⟨xw31, List.forall_mem_cons.mpr ⟨xw32, List.forall_mem_cons.mpr ⟨xw33, List.forall_mem_cons.mpr ⟨xw34, List.forall_mem_cons.mpr ⟨xw35, List.forall_mem_cons.mpr ⟨xw36, List.forall_mem_cons.mpr ⟨xw37, List.forall_mem_cons.mpr ⟨xw38, List.forall_mem_cons.mpr ⟨xw39, List.forall_mem_cons.mpr ⟨xw40, List.forall_mem_cons.mpr ⟨xw41, fun _ h => absurd h List.not_mem_nil⟩⟩⟩⟩⟩⟩⟩⟩⟩⟩⟩⟩⟩⟩⟩⟩⟩⟩
theorem xw42 : Cond.instantiable "HatsDecide$Scene" 18 ∈ xW := xin (xt1 (i := 31) rfl) rfl
theorem xci3 : Cond.instantiable RX3 18 ∈ xW := xw42
theorem xw43 : Cond.initialized "HatsDecide$Scene" ∈ xW := xin (xt1 (i := 2) rfl) rfl
theorem xcn3 : Cond.initialized RX3 ∈ xW := xw43
theorem xw44 : Cond.laysFinal "HatsDecide$Stiff" "HatsDecide$Hat" "kind" "I" ∈ xW := xin (xt2 (i := 116) rfl) rfl
theorem xw45 : Cond.laysFinal "HatsDecide$Stiff" "HatsDecide$Hat" "number" "I" ∈ xW := xin (xt2 (i := 117) rfl) rfl
theorem xw46 : Cond.laysFinal "HatsDecide$Stiff" "HatsDecide$Hat" "v" "I" ∈ xW := xin (xt2 (i := 118) rfl) rfl
theorem xw47 : Cond.laysFinal "HatsDecide$Stiff" "HatsDecide$Hat" "size" "I" ∈ xW := xin (xt2 (i := 119) rfl) rfl
theorem xw48 : Cond.laysFinal "HatsDecide$Stiff" "HatsDecide$Hat" "trade" "I" ∈ xW := xin (xt2 (i := 120) rfl) rfl
theorem xw49 : Cond.laysFinal "HatsDecide$Stiff" "HatsDecide$Hat" "ran" "LHatsDecide$Trace;" ∈ xW := xin (xt2 (i := 121) rfl) rfl
set_option maxRecDepth 100000 in
theorem xcl4 : ∀ w ∈ u_ws RX4 TX4 6, w ∈ xW := List.forall_mem_cons.mpr ⟨xw44, List.forall_mem_cons.mpr ⟨xw45, List.forall_mem_cons.mpr ⟨xw46, List.forall_mem_cons.mpr ⟨xw47, List.forall_mem_cons.mpr ⟨xw48, List.forall_mem_cons.mpr ⟨xw49, fun _ h => absurd h List.not_mem_nil⟩⟩⟩⟩⟩⟩
theorem xw50 : Cond.instantiable "HatsDecide$Stiff" 6 ∈ xW := xin (xt2 (i := 111) rfl) rfl
theorem xci4 : Cond.instantiable RX4 6 ∈ xW := xw50
theorem xw51 : Cond.initialized "HatsDecide$Stiff" ∈ xW := xin (xt1 (i := 12) rfl) rfl
theorem xcn4 : Cond.initialized RX4 ∈ xW := xw51
theorem xw52 : Cond.lays "HatsDecide$Tape" "HatsDecide$Tape" "sort" "I" ∈ xW := xin (xt1 (i := 197) rfl) rfl
theorem xw53 : Cond.lays "HatsDecide$Tape" "HatsDecide$Tape" "length" "I" ∈ xW := xin (xt1 (i := 199) rfl) rfl
theorem xw54 : Cond.laysFinal "HatsDecide$Tape" "HatsDecide$Tape" "items" "[J" ∈ xW := xin (xt1 (i := 201) rfl) rfl
set_option maxRecDepth 100000 in
theorem xcl5 : ∀ w ∈ u_ws RX5 TX5 3, w ∈ xW := List.forall_mem_cons.mpr ⟨xw52, List.forall_mem_cons.mpr ⟨xw53, List.forall_mem_cons.mpr ⟨xw54, fun _ h => absurd h List.not_mem_nil⟩⟩⟩
theorem xw55 : Cond.instantiable "HatsDecide$Tape" 3 ∈ xW := xin (xt1 (i := 187) rfl) rfl
theorem xci5 : Cond.instantiable RX5 3 ∈ xW := xw55
theorem xw56 : Cond.initialized "HatsDecide$Tape" ∈ xW := xin (xt1 (i := 6) rfl) rfl
theorem xcn5 : Cond.initialized RX5 ∈ xW := xw56
theorem xw57 : Cond.laysFinal "HatsDecide$Tight" "HatsDecide$Hat" "kind" "I" ∈ xW := xin (xt2 (i := 71) rfl) rfl
theorem xw58 : Cond.laysFinal "HatsDecide$Tight" "HatsDecide$Hat" "number" "I" ∈ xW := xin (xt2 (i := 73) rfl) rfl
theorem xw59 : Cond.laysFinal "HatsDecide$Tight" "HatsDecide$Hat" "v" "I" ∈ xW := xin (xt2 (i := 75) rfl) rfl
theorem xw60 : Cond.laysFinal "HatsDecide$Tight" "HatsDecide$Hat" "size" "I" ∈ xW := xin (xt2 (i := 77) rfl) rfl
theorem xw61 : Cond.laysFinal "HatsDecide$Tight" "HatsDecide$Hat" "trade" "I" ∈ xW := xin (xt2 (i := 79) rfl) rfl
theorem xw62 : Cond.laysFinal "HatsDecide$Tight" "HatsDecide$Hat" "ran" "LHatsDecide$Trace;" ∈ xW := xin (xt2 (i := 81) rfl) rfl
set_option maxRecDepth 100000 in
theorem xcl6 : ∀ w ∈ u_ws RX6 TX6 6, w ∈ xW := List.forall_mem_cons.mpr ⟨xw57, List.forall_mem_cons.mpr ⟨xw58, List.forall_mem_cons.mpr ⟨xw59, List.forall_mem_cons.mpr ⟨xw60, List.forall_mem_cons.mpr ⟨xw61, List.forall_mem_cons.mpr ⟨xw62, fun _ h => absurd h List.not_mem_nil⟩⟩⟩⟩⟩⟩
theorem xw63 : Cond.instantiable "HatsDecide$Tight" 6 ∈ xW := xin (xt2 (i := 33) rfl) rfl
theorem xci6 : Cond.instantiable RX6 6 ∈ xW := xw63
theorem xw64 : Cond.initialized "HatsDecide$Tight" ∈ xW := xin (xt1 (i := 9) rfl) rfl
theorem xcn6 : Cond.initialized RX6 ∈ xW := xw64
theorem xw65 : Cond.laysFinal "HatsDecide$Told" "HatsDecide$Hat" "kind" "I" ∈ xW := xin (xt2 (i := 142) rfl) rfl
theorem xw66 : Cond.laysFinal "HatsDecide$Told" "HatsDecide$Hat" "number" "I" ∈ xW := xin (xt2 (i := 143) rfl) rfl
theorem xw67 : Cond.laysFinal "HatsDecide$Told" "HatsDecide$Hat" "v" "I" ∈ xW := xin (xt2 (i := 144) rfl) rfl
theorem xw68 : Cond.laysFinal "HatsDecide$Told" "HatsDecide$Hat" "size" "I" ∈ xW := xin (xt2 (i := 145) rfl) rfl
theorem xw69 : Cond.laysFinal "HatsDecide$Told" "HatsDecide$Hat" "trade" "I" ∈ xW := xin (xt2 (i := 146) rfl) rfl
theorem xw70 : Cond.laysFinal "HatsDecide$Told" "HatsDecide$Hat" "ran" "LHatsDecide$Trace;" ∈ xW := xin (xt2 (i := 147) rfl) rfl
set_option maxRecDepth 100000 in
theorem xcl7 : ∀ w ∈ u_ws RX7 TX7 6, w ∈ xW := List.forall_mem_cons.mpr ⟨xw65, List.forall_mem_cons.mpr ⟨xw66, List.forall_mem_cons.mpr ⟨xw67, List.forall_mem_cons.mpr ⟨xw68, List.forall_mem_cons.mpr ⟨xw69, List.forall_mem_cons.mpr ⟨xw70, fun _ h => absurd h List.not_mem_nil⟩⟩⟩⟩⟩⟩
theorem xw71 : Cond.instantiable "HatsDecide$Told" 6 ∈ xW := xin (xt2 (i := 137) rfl) rfl
theorem xci7 : Cond.instantiable RX7 6 ∈ xW := xw71
theorem xw72 : Cond.initialized "HatsDecide$Told" ∈ xW := xin (xt1 (i := 14) rfl) rfl
theorem xcn7 : Cond.initialized RX7 ∈ xW := xw72
theorem xw73 : Cond.lays "HatsDecide$Town" "HatsDecide$Town" "clauses" "I" ∈ xW := xin (xt1 (i := 133) rfl) rfl
theorem xw74 : Cond.laysFinal "HatsDecide$Town" "HatsDecide$Town" "word" "[I" ∈ xW := xin (xt1 (i := 135) rfl) rfl
theorem xw75 : Cond.laysFinal "HatsDecide$Town" "HatsDecide$Town" "first" "[I" ∈ xW := xin (xt1 (i := 137) rfl) rfl
theorem xw76 : Cond.laysFinal "HatsDecide$Town" "HatsDecide$Town" "second" "[I" ∈ xW := xin (xt1 (i := 139) rfl) rfl
theorem xw77 : Cond.laysFinal "HatsDecide$Town" "HatsDecide$Town" "codeFrom" "[I" ∈ xW := xin (xt1 (i := 141) rfl) rfl
theorem xw78 : Cond.laysFinal "HatsDecide$Town" "HatsDecide$Town" "codeTo" "[I" ∈ xW := xin (xt1 (i := 143) rfl) rfl
theorem xw79 : Cond.lays "HatsDecide$Town" "HatsDecide$Town" "codes" "I" ∈ xW := xin (xt1 (i := 145) rfl) rfl
theorem xw80 : Cond.laysFinal "HatsDecide$Town" "HatsDecide$Town" "code" "[I" ∈ xW := xin (xt1 (i := 147) rfl) rfl
theorem xw81 : Cond.lays "HatsDecide$Town" "HatsDecide$Town" "source" "[B" ∈ xW := xin (xt1 (i := 149) rfl) rfl
theorem xw82 : Cond.lays "HatsDecide$Town" "HatsDecide$Town" "bytes" "I" ∈ xW := xin (xt1 (i := 151) rfl) rfl
theorem xw83 : Cond.lays "HatsDecide$Town" "HatsDecide$Town" "place" "I" ∈ xW := xin (xt1 (i := 153) rfl) rfl
theorem xw84 : Cond.lays "HatsDecide$Town" "HatsDecide$Town" "isSound" "Z" ∈ xW := xin (xt1 (i := 155) rfl) rfl
set_option maxRecDepth 100000 in
theorem xcl8 : ∀ w ∈ u_ws RX8 TX8 12, w ∈ xW := List.forall_mem_cons.mpr ⟨xw73, List.forall_mem_cons.mpr ⟨xw74, List.forall_mem_cons.mpr ⟨xw75, List.forall_mem_cons.mpr ⟨xw76, List.forall_mem_cons.mpr ⟨xw77, List.forall_mem_cons.mpr ⟨xw78, List.forall_mem_cons.mpr ⟨xw79, List.forall_mem_cons.mpr ⟨xw80, List.forall_mem_cons.mpr ⟨xw81, List.forall_mem_cons.mpr ⟨xw82, List.forall_mem_cons.mpr ⟨xw83, List.forall_mem_cons.mpr ⟨xw84, fun _ h => absurd h List.not_mem_nil⟩⟩⟩⟩⟩⟩⟩⟩⟩⟩⟩⟩
theorem xw85 : Cond.instantiable "HatsDecide$Town" 12 ∈ xW := xin (xt1 (i := 114) rfl) rfl
theorem xci8 : Cond.instantiable RX8 12 ∈ xW := xw85
theorem xw86 : Cond.initialized "HatsDecide$Town" ∈ xW := xin (xt1 (i := 3) rfl) rfl
theorem xcn8 : Cond.initialized RX8 ∈ xW := xw86
theorem xw87 : Cond.laysFinal "HatsDecide$Trace" "HatsDecide$Trace" "kept" "[I" ∈ xW := xin (xt1 (i := 169) rfl) rfl
theorem xw88 : Cond.lays "HatsDecide$Trace" "HatsDecide$Trace" "bodies" "I" ∈ xW := xin (xt1 (i := 171) rfl) rfl
set_option maxRecDepth 100000 in
theorem xcl9 : ∀ w ∈ u_ws RX9 TX9 2, w ∈ xW := List.forall_mem_cons.mpr ⟨xw87, List.forall_mem_cons.mpr ⟨xw88, fun _ h => absurd h List.not_mem_nil⟩⟩
theorem xw89 : Cond.instantiable "HatsDecide$Trace" 2 ∈ xW := xin (xt1 (i := 160) rfl) rfl
theorem xci9 : Cond.instantiable RX9 2 ∈ xW := xw89
theorem xw90 : Cond.initialized "HatsDecide$Trace" ∈ xW := xin (xt1 (i := 4) rfl) rfl
theorem xcn9 : Cond.initialized RX9 ∈ xW := xw90
theorem xw91 : Cond.laysFinal "HatsDecide$Worn" "HatsDecide$Hat" "kind" "I" ∈ xW := xin (xt2 (i := 90) rfl) rfl
theorem xw92 : Cond.laysFinal "HatsDecide$Worn" "HatsDecide$Hat" "number" "I" ∈ xW := xin (xt2 (i := 91) rfl) rfl
theorem xw93 : Cond.laysFinal "HatsDecide$Worn" "HatsDecide$Hat" "v" "I" ∈ xW := xin (xt2 (i := 92) rfl) rfl
theorem xw94 : Cond.laysFinal "HatsDecide$Worn" "HatsDecide$Hat" "size" "I" ∈ xW := xin (xt2 (i := 93) rfl) rfl
theorem xw95 : Cond.laysFinal "HatsDecide$Worn" "HatsDecide$Hat" "trade" "I" ∈ xW := xin (xt2 (i := 94) rfl) rfl
theorem xw96 : Cond.laysFinal "HatsDecide$Worn" "HatsDecide$Hat" "ran" "LHatsDecide$Trace;" ∈ xW := xin (xt2 (i := 95) rfl) rfl
set_option maxRecDepth 100000 in
theorem xcl10 : ∀ w ∈ u_ws RX10 TX10 6, w ∈ xW := List.forall_mem_cons.mpr ⟨xw91, List.forall_mem_cons.mpr ⟨xw92, List.forall_mem_cons.mpr ⟨xw93, List.forall_mem_cons.mpr ⟨xw94, List.forall_mem_cons.mpr ⟨xw95, List.forall_mem_cons.mpr ⟨xw96, fun _ h => absurd h List.not_mem_nil⟩⟩⟩⟩⟩⟩
theorem xw97 : Cond.instantiable "HatsDecide$Worn" 6 ∈ xW := xin (xt2 (i := 85) rfl) rfl
theorem xci10 : Cond.instantiable RX10 6 ∈ xW := xw97
theorem xw98 : Cond.initialized "HatsDecide$Worn" ∈ xW := xin (xt1 (i := 10) rfl) rfl
theorem xcn10 : Cond.initialized RX10 ∈ xW := xw98
theorem xw99 : Cond.laysFinal "HatsDecide" "HatsDecide" "now" "LHatsDecide$Scene;" ∈ xW := xin (xt1 (i := 220) rfl) rfl
theorem xw100 : Cond.laysFinal "HatsDecide" "HatsDecide" "kept" "LHatsDecide$Scene;" ∈ xW := xin (xt1 (i := 222) rfl) rfl
theorem xw101 : Cond.lays "HatsDecide" "HatsDecide" "isKept" "Z" ∈ xW := xin (xt1 (i := 224) rfl) rfl
theorem xw102 : Cond.laysFinal "HatsDecide" "HatsDecide" "text" "[B" ∈ xW := xin (xt1 (i := 226) rfl) rfl
theorem xw103 : Cond.lays "HatsDecide" "HatsDecide" "textBytes" "I" ∈ xW := xin (xt1 (i := 228) rfl) rfl
theorem xw104 : Cond.laysFinal "HatsDecide" "HatsDecide" "towns" "[LHatsDecide$Town;" ∈ xW := xin (xt1 (i := 230) rfl) rfl
theorem xw105 : Cond.laysFinal "HatsDecide" "HatsDecide" "noTown" "LHatsDecide$Town;" ∈ xW := xin (xt1 (i := 232) rfl) rfl
theorem xw106 : Cond.lays "HatsDecide" "HatsDecide" "townCount" "I" ∈ xW := xin (xt1 (i := 234) rfl) rfl
theorem xw107 : Cond.laysFinal "HatsDecide" "HatsDecide" "ran" "LHatsDecide$Trace;" ∈ xW := xin (xt1 (i := 236) rfl) rfl
theorem xw108 : Cond.laysFinal "HatsDecide" "HatsDecide" "tapes" "[LHatsDecide$Tape;" ∈ xW := xin (xt1 (i := 238) rfl) rfl
theorem xw109 : Cond.laysFinal "HatsDecide" "HatsDecide" "letters" "[I" ∈ xW := xin (xt2 (i := 0) rfl) rfl
theorem xw110 : Cond.laysFinal "HatsDecide" "HatsDecide" "deeds" "[I" ∈ xW := xin (xt2 (i := 2) rfl) rfl
theorem xw111 : Cond.laysFinal "HatsDecide" "HatsDecide" "most" "[I" ∈ xW := xin (xt2 (i := 4) rfl) rfl
theorem xw112 : Cond.laysFinal "HatsDecide" "HatsDecide" "ways" "[I" ∈ xW := xin (xt2 (i := 6) rfl) rfl
theorem xw113 : Cond.laysFinal "HatsDecide" "HatsDecide" "perHead" "[I" ∈ xW := xin (xt2 (i := 8) rfl) rfl
set_option maxRecDepth 100000 in
theorem xcl11 : ∀ w ∈ u_ws RX11 TX11 15, w ∈ xW := List.forall_mem_cons.mpr ⟨xw99, List.forall_mem_cons.mpr ⟨xw100, List.forall_mem_cons.mpr ⟨xw101, List.forall_mem_cons.mpr ⟨xw102, List.forall_mem_cons.mpr ⟨xw103, List.forall_mem_cons.mpr ⟨xw104, List.forall_mem_cons.mpr ⟨xw105, List.forall_mem_cons.mpr ⟨xw106, List.forall_mem_cons.mpr ⟨xw107, List.forall_mem_cons.mpr ⟨xw108, List.forall_mem_cons.mpr ⟨xw109, List.forall_mem_cons.mpr ⟨xw110, List.forall_mem_cons.mpr ⟨xw111, List.forall_mem_cons.mpr ⟨xw112, List.forall_mem_cons.mpr ⟨xw113, fun _ h => absurd h List.not_mem_nil⟩⟩⟩⟩⟩⟩⟩⟩⟩⟩⟩⟩⟩⟩⟩
theorem xw114 : Cond.instantiable "HatsDecide" 15 ∈ xW := xin (xt1 (i := 23) rfl) rfl
theorem xci11 : Cond.instantiable RX11 15 ∈ xW := xw114
theorem xw115 : Cond.initialized "HatsDecide" ∈ xW := xin (xt1 (i := 1) rfl) rfl
theorem xcn11 : Cond.initialized RX11 ∈ xW := xw115
theorem xw116 : Cond.lays "HatsDecideModel" "HatsDecideModel" "heads" "I" ∈ xW := xin (xt5 (i := 69) rfl) rfl
theorem xw117 : Cond.lays "HatsDecideModel" "HatsDecideModel" "hats" "I" ∈ xW := xin (xt5 (i := 71) rfl) rfl
theorem xw118 : Cond.lays "HatsDecideModel" "HatsDecideModel" "days" "I" ∈ xW := xin (xt5 (i := 73) rfl) rfl
theorem xw119 : Cond.laysFinal "HatsDecideModel" "HatsDecideModel" "headSize" "[I" ∈ xW := xin (xt5 (i := 75) rfl) rfl
theorem xw120 : Cond.laysFinal "HatsDecideModel" "HatsDecideModel" "owned" "[I" ∈ xW := xin (xt5 (i := 77) rfl) rfl
theorem xw121 : Cond.laysFinal "HatsDecideModel" "HatsDecideModel" "worn" "[I" ∈ xW := xin (xt5 (i := 79) rfl) rfl
theorem xw122 : Cond.laysFinal "HatsDecideModel" "HatsDecideModel" "kind" "[I" ∈ xW := xin (xt5 (i := 81) rfl) rfl
theorem xw123 : Cond.laysFinal "HatsDecideModel" "HatsDecideModel" "v" "[I" ∈ xW := xin (xt5 (i := 83) rfl) rfl
theorem xw124 : Cond.laysFinal "HatsDecideModel" "HatsDecideModel" "hatSize" "[I" ∈ xW := xin (xt5 (i := 85) rfl) rfl
theorem xw125 : Cond.laysFinal "HatsDecideModel" "HatsDecideModel" "skill" "[I" ∈ xW := xin (xt5 (i := 87) rfl) rfl
theorem xw126 : Cond.laysFinal "HatsDecideModel" "HatsDecideModel" "trade" "[I" ∈ xW := xin (xt5 (i := 89) rfl) rfl
theorem xw127 : Cond.laysFinal "HatsDecideModel" "HatsDecideModel" "used" "[I" ∈ xW := xin (xt5 (i := 91) rfl) rfl
theorem xw128 : Cond.laysFinal "HatsDecideModel" "HatsDecideModel" "rows" "[I" ∈ xW := xin (xt5 (i := 93) rfl) rfl
theorem xw129 : Cond.laysFinal "HatsDecideModel" "HatsDecideModel" "done" "[I" ∈ xW := xin (xt5 (i := 95) rfl) rfl
theorem xw130 : Cond.lays "HatsDecideModel" "HatsDecideModel" "towns" "I" ∈ xW := xin (xt5 (i := 97) rfl) rfl
theorem xw131 : Cond.lays "HatsDecideModel" "HatsDecideModel" "the" "I" ∈ xW := xin (xt5 (i := 99) rfl) rfl
theorem xw132 : Cond.lays "HatsDecideModel" "HatsDecideModel" "fed" "I" ∈ xW := xin (xt5 (i := 101) rfl) rfl
theorem xw133 : Cond.lays "HatsDecideModel" "HatsDecideModel" "at" "I" ∈ xW := xin (xt5 (i := 103) rfl) rfl
theorem xw134 : Cond.lays "HatsDecideModel" "HatsDecideModel" "digits" "I" ∈ xW := xin (xt5 (i := 105) rfl) rfl
theorem xw135 : Cond.laysFinal "HatsDecideModel" "HatsDecideModel" "text" "[I" ∈ xW := xin (xt5 (i := 107) rfl) rfl
theorem xw136 : Cond.laysFinal "HatsDecideModel" "HatsDecideModel" "clauses" "[I" ∈ xW := xin (xt5 (i := 109) rfl) rfl
theorem xw137 : Cond.laysFinal "HatsDecideModel" "HatsDecideModel" "word" "[I" ∈ xW := xin (xt5 (i := 111) rfl) rfl
theorem xw138 : Cond.laysFinal "HatsDecideModel" "HatsDecideModel" "number" "[I" ∈ xW := xin (xt5 (i := 113) rfl) rfl
theorem xw139 : Cond.laysFinal "HatsDecideModel" "HatsDecideModel" "asked" "[I" ∈ xW := xin (xt5 (i := 115) rfl) rfl
theorem xw140 : Cond.laysFinal "HatsDecideModel" "HatsDecideModel" "from" "[I" ∈ xW := xin (xt5 (i := 117) rfl) rfl
theorem xw141 : Cond.laysFinal "HatsDecideModel" "HatsDecideModel" "to" "[I" ∈ xW := xin (xt5 (i := 119) rfl) rfl
theorem xw142 : Cond.laysFinal "HatsDecideModel" "HatsDecideModel" "sign" "[I" ∈ xW := xin (xt5 (i := 121) rfl) rfl
theorem xw143 : Cond.laysFinal "HatsDecideModel" "HatsDecideModel" "waits" "[I" ∈ xW := xin (xt5 (i := 123) rfl) rfl
theorem xw144 : Cond.lays "HatsDecideModel" "HatsDecideModel" "signs" "I" ∈ xW := xin (xt5 (i := 125) rfl) rfl
theorem xw145 : Cond.lays "HatsDecideModel" "HatsDecideModel" "waiting" "I" ∈ xW := xin (xt5 (i := 127) rfl) rfl
theorem xw146 : Cond.lays "HatsDecideModel" "HatsDecideModel" "open" "I" ∈ xW := xin (xt5 (i := 129) rfl) rfl
theorem xw147 : Cond.laysFinal "HatsDecideModel" "HatsDecideModel" "letters" "[I" ∈ xW := xin (xt5 (i := 131) rfl) rfl
theorem xw148 : Cond.laysFinal "HatsDecideModel" "HatsDecideModel" "pile" "[Z" ∈ xW := xin (xt5 (i := 133) rfl) rfl
theorem xw149 : Cond.lays "HatsDecideModel" "HatsDecideModel" "mostUsed" "I" ∈ xW := xin (xt5 (i := 135) rfl) rfl
theorem xw150 : Cond.laysFinal "HatsDecideModel" "HatsDecideModel" "blown" "[I" ∈ xW := xin (xt5 (i := 137) rfl) rfl
theorem xw151 : Cond.lays "HatsDecideModel" "HatsDecideModel" "keptDays" "I" ∈ xW := xin (xt5 (i := 139) rfl) rfl
theorem xw152 : Cond.laysFinal "HatsDecideModel" "HatsDecideModel" "keptUsed" "[I" ∈ xW := xin (xt5 (i := 141) rfl) rfl
theorem xw153 : Cond.laysFinal "HatsDecideModel" "HatsDecideModel" "keptWorn" "[I" ∈ xW := xin (xt5 (i := 143) rfl) rfl
theorem xw154 : Cond.laysFinal "HatsDecideModel" "HatsDecideModel" "bestWay" "[I" ∈ xW := xin (xt5 (i := 145) rfl) rfl
theorem xw155 : Cond.laysFinal "HatsDecideModel" "HatsDecideModel" "deeds" "[I" ∈ xW := xin (xt5 (i := 147) rfl) rfl
theorem xw156 : Cond.lays "HatsDecideModel" "HatsDecideModel" "bestSum" "I" ∈ xW := xin (xt5 (i := 149) rfl) rfl
theorem xw157 : Cond.laysFinal "HatsDecideModel" "HatsDecideModel" "onward" "[I" ∈ xW := xin (xt5 (i := 151) rfl) rfl
theorem xw158 : Cond.laysFinal "HatsDecideModel" "HatsDecideModel" "top" "[I" ∈ xW := xin (xt5 (i := 153) rfl) rfl
theorem xw159 : Cond.lays "HatsDecideModel" "HatsDecideModel" "seen" "I" ∈ xW := xin (xt5 (i := 155) rfl) rfl
theorem xw160 : Cond.laysFinal "HatsDecideModel" "HatsDecideModel" "seenWho" "[I" ∈ xW := xin (xt5 (i := 157) rfl) rfl
theorem xw161 : Cond.laysFinal "HatsDecideModel" "HatsDecideModel" "seenDeed" "[I" ∈ xW := xin (xt5 (i := 159) rfl) rfl
theorem xw162 : Cond.laysFinal "HatsDecideModel" "HatsDecideModel" "ways" "[I" ∈ xW := xin (xt5 (i := 161) rfl) rfl
theorem xw163 : Cond.lays "HatsDecideModel" "HatsDecideModel" "books" "I" ∈ xW := xin (xt5 (i := 163) rfl) rfl
theorem xw164 : Cond.laysFinal "HatsDecideModel" "HatsDecideModel" "bookWhat" "[I" ∈ xW := xin (xt5 (i := 165) rfl) rfl
theorem xw165 : Cond.laysFinal "HatsDecideModel" "HatsDecideModel" "bookWho" "[I" ∈ xW := xin (xt5 (i := 167) rfl) rfl
theorem xw166 : Cond.lays "HatsDecideModel" "HatsDecideModel" "hasImage" "Z" ∈ xW := xin (xt5 (i := 169) rfl) rfl
theorem xw167 : Cond.lays "HatsDecideModel" "HatsDecideModel" "imageThe" "I" ∈ xW := xin (xt5 (i := 171) rfl) rfl
theorem xw168 : Cond.lays "HatsDecideModel" "HatsDecideModel" "imageHeads" "I" ∈ xW := xin (xt5 (i := 173) rfl) rfl
theorem xw169 : Cond.lays "HatsDecideModel" "HatsDecideModel" "imageHats" "I" ∈ xW := xin (xt5 (i := 175) rfl) rfl
theorem xw170 : Cond.lays "HatsDecideModel" "HatsDecideModel" "imageDays" "I" ∈ xW := xin (xt5 (i := 177) rfl) rfl
theorem xw171 : Cond.lays "HatsDecideModel" "HatsDecideModel" "imageSeen" "I" ∈ xW := xin (xt5 (i := 179) rfl) rfl
theorem xw172 : Cond.lays "HatsDecideModel" "HatsDecideModel" "imageBooks" "I" ∈ xW := xin (xt5 (i := 181) rfl) rfl
theorem xw173 : Cond.laysFinal "HatsDecideModel" "HatsDecideModel" "imageHeadSize" "[I" ∈ xW := xin (xt5 (i := 183) rfl) rfl
theorem xw174 : Cond.laysFinal "HatsDecideModel" "HatsDecideModel" "imageOwned" "[I" ∈ xW := xin (xt5 (i := 185) rfl) rfl
theorem xw175 : Cond.laysFinal "HatsDecideModel" "HatsDecideModel" "imageWorn" "[I" ∈ xW := xin (xt5 (i := 187) rfl) rfl
theorem xw176 : Cond.laysFinal "HatsDecideModel" "HatsDecideModel" "imageKind" "[I" ∈ xW := xin (xt5 (i := 189) rfl) rfl
theorem xw177 : Cond.laysFinal "HatsDecideModel" "HatsDecideModel" "imageV" "[I" ∈ xW := xin (xt5 (i := 191) rfl) rfl
theorem xw178 : Cond.laysFinal "HatsDecideModel" "HatsDecideModel" "imageHatSize" "[I" ∈ xW := xin (xt5 (i := 193) rfl) rfl
theorem xw179 : Cond.laysFinal "HatsDecideModel" "HatsDecideModel" "imageSkill" "[I" ∈ xW := xin (xt5 (i := 195) rfl) rfl
theorem xw180 : Cond.laysFinal "HatsDecideModel" "HatsDecideModel" "imageTrade" "[I" ∈ xW := xin (xt5 (i := 197) rfl) rfl
theorem xw181 : Cond.laysFinal "HatsDecideModel" "HatsDecideModel" "imageUsed" "[I" ∈ xW := xin (xt5 (i := 199) rfl) rfl
theorem xw182 : Cond.laysFinal "HatsDecideModel" "HatsDecideModel" "imageRows" "[I" ∈ xW := xin (xt5 (i := 201) rfl) rfl
theorem xw183 : Cond.laysFinal "HatsDecideModel" "HatsDecideModel" "imageDone" "[I" ∈ xW := xin (xt5 (i := 203) rfl) rfl
theorem xw184 : Cond.laysFinal "HatsDecideModel" "HatsDecideModel" "imageWho" "[I" ∈ xW := xin (xt5 (i := 205) rfl) rfl
theorem xw185 : Cond.laysFinal "HatsDecideModel" "HatsDecideModel" "imageDeed" "[I" ∈ xW := xin (xt5 (i := 207) rfl) rfl
theorem xw186 : Cond.laysFinal "HatsDecideModel" "HatsDecideModel" "imageWhat" "[I" ∈ xW := xin (xt5 (i := 209) rfl) rfl
theorem xw187 : Cond.laysFinal "HatsDecideModel" "HatsDecideModel" "imageBookWho" "[I" ∈ xW := xin (xt5 (i := 211) rfl) rfl
theorem xw188 : Cond.lays "HatsDecideModel" "HatsDecideModel" "ran" "I" ∈ xW := xin (xt5 (i := 213) rfl) rfl
theorem xw189 : Cond.laysFinal "HatsDecideModel" "HatsDecideModel" "bodies" "[I" ∈ xW := xin (xt5 (i := 215) rfl) rfl
theorem xw190 : Cond.laysFinal "HatsDecideModel" "HatsDecideModel" "sort" "[I" ∈ xW := xin (xt5 (i := 217) rfl) rfl
theorem xw191 : Cond.laysFinal "HatsDecideModel" "HatsDecideModel" "length" "[I" ∈ xW := xin (xt5 (i := 219) rfl) rfl
theorem xw192 : Cond.laysFinal "HatsDecideModel" "HatsDecideModel" "item" "[J" ∈ xW := xin (xt5 (i := 221) rfl) rfl
theorem xw193 : Cond.laysFinal "HatsDecideModel" "HatsDecideModel" "aside" "[J" ∈ xW := xin (xt5 (i := 223) rfl) rfl
set_option maxRecDepth 100000 in
theorem xcl12 : ∀ w ∈ u_ws RX12 TX12 78, w ∈ xW := List.forall_mem_cons.mpr ⟨xw116, List.forall_mem_cons.mpr ⟨xw117, List.forall_mem_cons.mpr ⟨xw118, List.forall_mem_cons.mpr ⟨xw119, List.forall_mem_cons.mpr ⟨xw120, List.forall_mem_cons.mpr ⟨xw121, List.forall_mem_cons.mpr ⟨xw122, List.forall_mem_cons.mpr ⟨xw123, List.forall_mem_cons.mpr ⟨xw124, List.forall_mem_cons.mpr ⟨xw125, List.forall_mem_cons.mpr ⟨xw126, List.forall_mem_cons.mpr ⟨xw127, List.forall_mem_cons.mpr ⟨xw128, List.forall_mem_cons.mpr ⟨xw129, List.forall_mem_cons.mpr ⟨xw130, List.forall_mem_cons.mpr ⟨xw131, List.forall_mem_cons.mpr ⟨xw132, List.forall_mem_cons.mpr ⟨xw133, List.forall_mem_cons.mpr ⟨xw134, List.forall_mem_cons.mpr ⟨xw135, List.forall_mem_cons.mpr ⟨xw136, List.forall_mem_cons.mpr ⟨xw137, List.forall_mem_cons.mpr ⟨xw138, List.forall_mem_cons.mpr ⟨xw139, List.forall_mem_cons.mpr ⟨xw140, List.forall_mem_cons.mpr ⟨xw141, List.forall_mem_cons.mpr ⟨xw142, List.forall_mem_cons.mpr ⟨xw143, List.forall_mem_cons.mpr ⟨xw144, List.forall_mem_cons.mpr ⟨xw145, List.forall_mem_cons.mpr ⟨xw146, List.forall_mem_cons.mpr ⟨xw147, List.forall_mem_cons.mpr ⟨xw148, List.forall_mem_cons.mpr ⟨xw149, List.forall_mem_cons.mpr ⟨xw150, List.forall_mem_cons.mpr ⟨xw151, List.forall_mem_cons.mpr ⟨xw152, List.forall_mem_cons.mpr ⟨xw153, List.forall_mem_cons.mpr ⟨xw154, List.forall_mem_cons.mpr ⟨xw155, List.forall_mem_cons.mpr ⟨xw156, List.forall_mem_cons.mpr ⟨xw157, List.forall_mem_cons.mpr ⟨xw158, List.forall_mem_cons.mpr ⟨xw159, List.forall_mem_cons.mpr ⟨xw160, List.forall_mem_cons.mpr ⟨xw161, List.forall_mem_cons.mpr ⟨xw162, List.forall_mem_cons.mpr ⟨xw163, List.forall_mem_cons.mpr ⟨xw164, List.forall_mem_cons.mpr ⟨xw165, List.forall_mem_cons.mpr ⟨xw166, List.forall_mem_cons.mpr ⟨xw167, List.forall_mem_cons.mpr ⟨xw168, List.forall_mem_cons.mpr ⟨xw169, List.forall_mem_cons.mpr ⟨xw170, List.forall_mem_cons.mpr ⟨xw171, List.forall_mem_cons.mpr ⟨xw172, List.forall_mem_cons.mpr ⟨xw173, List.forall_mem_cons.mpr ⟨xw174, List.forall_mem_cons.mpr ⟨xw175, List.forall_mem_cons.mpr ⟨xw176, List.forall_mem_cons.mpr ⟨xw177, List.forall_mem_cons.mpr ⟨xw178, List.forall_mem_cons.mpr ⟨xw179, List.forall_mem_cons.mpr ⟨xw180, List.forall_mem_cons.mpr ⟨xw181, List.forall_mem_cons.mpr ⟨xw182, List.forall_mem_cons.mpr ⟨xw183, List.forall_mem_cons.mpr ⟨xw184, List.forall_mem_cons.mpr ⟨xw185, List.forall_mem_cons.mpr ⟨xw186, List.forall_mem_cons.mpr ⟨xw187, List.forall_mem_cons.mpr ⟨xw188, List.forall_mem_cons.mpr ⟨xw189, List.forall_mem_cons.mpr ⟨xw190, List.forall_mem_cons.mpr ⟨xw191, List.forall_mem_cons.mpr ⟨xw192, List.forall_mem_cons.mpr ⟨xw193, fun _ h => absurd h List.not_mem_nil⟩⟩⟩⟩⟩⟩⟩⟩⟩⟩⟩⟩⟩⟩⟩⟩⟩⟩⟩⟩⟩⟩⟩⟩⟩⟩⟩⟩⟩⟩⟩⟩⟩⟩⟩⟩⟩⟩⟩⟩⟩⟩⟩⟩⟩⟩⟩⟩⟩⟩⟩⟩⟩⟩⟩⟩⟩⟩⟩⟩⟩⟩⟩⟩⟩⟩⟩⟩⟩⟩⟩⟩⟩⟩⟩⟩⟩⟩
theorem xw194 : Cond.instantiable "HatsDecideModel" 78 ∈ xW := xin (xt4 (i := 226) rfl) rfl
theorem xci12 : Cond.instantiable RX12 78 ∈ xW := xw194
theorem xw195 : Cond.initialized "HatsDecideModel" ∈ xW := xin (xt1 (i := 7) rfl) rfl
theorem xcn12 : Cond.initialized RX12 ∈ xW := xw195
theorem xw196 : Cond.fieldLink "HatsDecide$Scene" 9 "HatsDecide$Scene" "heads" "I" ∈ xW := xin (xt1 (i := 38) rfl) rfl
theorem xw197 : Cond.fieldLink "HatsDecide" 89 "HatsDecide$Scene" "heads" "I" ∈ xW := xin (xt1 (i := 39) rfl) rfl
theorem xw198 : Cond.fieldLink "HatsDecide$Scene" 15 "HatsDecide$Scene" "headSize" "[I" ∈ xW := xin (xt1 (i := 40) rfl) rfl
theorem xw199 : Cond.fieldLink "HatsDecide" 92 "HatsDecide$Scene" "headSize" "[I" ∈ xW := xin (xt1 (i := 41) rfl) rfl
theorem xw200 : Cond.fieldLink "HatsDecide$Scene" 19 "HatsDecide$Scene" "own" "[I" ∈ xW := xin (xt1 (i := 42) rfl) rfl
theorem xw201 : Cond.fieldLink "HatsDecide" 95 "HatsDecide$Scene" "own" "[I" ∈ xW := xin (xt1 (i := 43) rfl) rfl
theorem xw202 : Cond.fieldLink "HatsDecide$Scene" 22 "HatsDecide$Scene" "worn" "[I" ∈ xW := xin (xt1 (i := 44) rfl) rfl
theorem xw203 : Cond.fieldLink "HatsDecide" 98 "HatsDecide$Scene" "worn" "[I" ∈ xW := xin (xt1 (i := 45) rfl) rfl
theorem xw204 : Cond.fieldLink "HatsDecide$Scene" 25 "HatsDecide$Scene" "hats" "I" ∈ xW := xin (xt1 (i := 46) rfl) rfl
theorem xw205 : Cond.fieldLink "HatsDecide" 108 "HatsDecide$Scene" "hats" "I" ∈ xW := xin (xt1 (i := 47) rfl) rfl
theorem xw206 : Cond.fieldLink "HatsDecide$Scene" 30 "HatsDecide$Scene" "hat" "[LHatsDecide$Hat;" ∈ xW := xin (xt1 (i := 48) rfl) rfl
theorem xw207 : Cond.fieldLink "HatsDecide" 111 "HatsDecide$Scene" "hat" "[LHatsDecide$Hat;" ∈ xW := xin (xt1 (i := 49) rfl) rfl
theorem xw208 : Cond.fieldLink "HatsDecide$Scene" 34 "HatsDecide$Scene" "skill" "[I" ∈ xW := xin (xt1 (i := 50) rfl) rfl
theorem xw209 : Cond.fieldLink "HatsDecide" 119 "HatsDecide$Scene" "skill" "[I" ∈ xW := xin (xt1 (i := 51) rfl) rfl
theorem xw210 : Cond.fieldLink "HatsDecide$Scene" 37 "HatsDecide$Scene" "used" "[I" ∈ xW := xin (xt1 (i := 52) rfl) rfl
theorem xw211 : Cond.fieldLink "HatsDecide" 122 "HatsDecide$Scene" "used" "[I" ∈ xW := xin (xt1 (i := 53) rfl) rfl
theorem xw212 : Cond.fieldLink "HatsDecide$Scene" 40 "HatsDecide$Scene" "rows" "[I" ∈ xW := xin (xt1 (i := 54) rfl) rfl
theorem xw213 : Cond.fieldLink "HatsDecide" 125 "HatsDecide$Scene" "rows" "[I" ∈ xW := xin (xt1 (i := 55) rfl) rfl
theorem xw214 : Cond.fieldLink "HatsDecide$Scene" 43 "HatsDecide$Scene" "day" "I" ∈ xW := xin (xt1 (i := 56) rfl) rfl
theorem xw215 : Cond.fieldLink "HatsDecide" 190 "HatsDecide$Scene" "day" "I" ∈ xW := xin (xt1 (i := 57) rfl) rfl
theorem xw216 : Cond.fieldLink "HatsDecide$Scene" 46 "HatsDecide$Scene" "done" "[I" ∈ xW := xin (xt1 (i := 58) rfl) rfl
theorem xw217 : Cond.fieldLink "HatsDecide" 200 "HatsDecide$Scene" "done" "[I" ∈ xW := xin (xt1 (i := 59) rfl) rfl
theorem xw218 : Cond.fieldLink "HatsDecide$Scene" 49 "HatsDecide$Scene" "seen" "I" ∈ xW := xin (xt1 (i := 60) rfl) rfl
theorem xw219 : Cond.fieldLink "HatsDecide" 251 "HatsDecide$Scene" "seen" "I" ∈ xW := xin (xt1 (i := 61) rfl) rfl
theorem xw220 : Cond.fieldLink "HatsDecide$Scene" 52 "HatsDecide$Scene" "seenHat" "[I" ∈ xW := xin (xt1 (i := 62) rfl) rfl
theorem xw221 : Cond.fieldLink "HatsDecide" 254 "HatsDecide$Scene" "seenHat" "[I" ∈ xW := xin (xt1 (i := 63) rfl) rfl
theorem xw222 : Cond.fieldLink "HatsDecide$Scene" 55 "HatsDecide$Scene" "seenDeed" "[I" ∈ xW := xin (xt1 (i := 64) rfl) rfl
theorem xw223 : Cond.fieldLink "HatsDecide" 257 "HatsDecide$Scene" "seenDeed" "[I" ∈ xW := xin (xt1 (i := 65) rfl) rfl
theorem xw224 : Cond.fieldLink "HatsDecide$Scene" 58 "HatsDecide$Scene" "booked" "I" ∈ xW := xin (xt1 (i := 66) rfl) rfl
theorem xw225 : Cond.fieldLink "HatsDecide" 281 "HatsDecide$Scene" "booked" "I" ∈ xW := xin (xt1 (i := 67) rfl) rfl
theorem xw226 : Cond.fieldLink "HatsDecide$Scene" 61 "HatsDecide$Scene" "bookHat" "[I" ∈ xW := xin (xt1 (i := 68) rfl) rfl
theorem xw227 : Cond.fieldLink "HatsDecide" 284 "HatsDecide$Scene" "bookHat" "[I" ∈ xW := xin (xt1 (i := 69) rfl) rfl
theorem xw228 : Cond.fieldLink "HatsDecide$Scene" 64 "HatsDecide$Scene" "bookHead" "[I" ∈ xW := xin (xt1 (i := 70) rfl) rfl
theorem xw229 : Cond.fieldLink "HatsDecide" 287 "HatsDecide$Scene" "bookHead" "[I" ∈ xW := xin (xt1 (i := 71) rfl) rfl
theorem xw230 : Cond.fieldLink "HatsDecide$Scene" 67 "HatsDecide$Scene" "town" "I" ∈ xW := xin (xt1 (i := 72) rfl) rfl
theorem xw231 : Cond.fieldLink "HatsDecide" 187 "HatsDecide$Scene" "town" "I" ∈ xW := xin (xt1 (i := 73) rfl) rfl
theorem xw232 : Cond.fieldLink "HatsDecide$Town" 9 "HatsDecide$Town" "clauses" "I" ∈ xW := xin (xt1 (i := 121) rfl) rfl
theorem xw233 : Cond.fieldLink "HatsDecide$Town" 15 "HatsDecide$Town" "word" "[I" ∈ xW := xin (xt1 (i := 122) rfl) rfl
theorem xw234 : Cond.fieldLink "HatsDecide$Town" 19 "HatsDecide$Town" "first" "[I" ∈ xW := xin (xt1 (i := 123) rfl) rfl
theorem xw235 : Cond.fieldLink "HatsDecide$Town" 22 "HatsDecide$Town" "second" "[I" ∈ xW := xin (xt1 (i := 124) rfl) rfl
theorem xw236 : Cond.fieldLink "HatsDecide$Town" 25 "HatsDecide$Town" "codeFrom" "[I" ∈ xW := xin (xt1 (i := 125) rfl) rfl
theorem xw237 : Cond.fieldLink "HatsDecide$Town" 28 "HatsDecide$Town" "codeTo" "[I" ∈ xW := xin (xt1 (i := 126) rfl) rfl
theorem xw238 : Cond.fieldLink "HatsDecide$Town" 31 "HatsDecide$Town" "codes" "I" ∈ xW := xin (xt1 (i := 127) rfl) rfl
theorem xw239 : Cond.fieldLink "HatsDecide$Town" 34 "HatsDecide$Town" "code" "[I" ∈ xW := xin (xt1 (i := 128) rfl) rfl
theorem xw240 : Cond.fieldLink "HatsDecide$Town" 41 "HatsDecide$Town" "source" "[B" ∈ xW := xin (xt1 (i := 129) rfl) rfl
theorem xw241 : Cond.fieldLink "HatsDecide$Town" 44 "HatsDecide$Town" "bytes" "I" ∈ xW := xin (xt1 (i := 130) rfl) rfl
theorem xw242 : Cond.fieldLink "HatsDecide$Town" 47 "HatsDecide$Town" "place" "I" ∈ xW := xin (xt1 (i := 131) rfl) rfl
theorem xw243 : Cond.fieldLink "HatsDecide$Town" 50 "HatsDecide$Town" "isSound" "Z" ∈ xW := xin (xt1 (i := 132) rfl) rfl
theorem xw244 : Cond.fieldLink "HatsDecide$Trace" 9 "HatsDecide$Trace" "kept" "[I" ∈ xW := xin (xt1 (i := 165) rfl) rfl
theorem xw245 : Cond.fieldLink "HatsDecide" 322 "HatsDecide$Trace" "kept" "[I" ∈ xW := xin (xt1 (i := 166) rfl) rfl
theorem xw246 : Cond.fieldLink "HatsDecide$Trace" 15 "HatsDecide$Trace" "bodies" "I" ∈ xW := xin (xt1 (i := 167) rfl) rfl
theorem xw247 : Cond.fieldLink "HatsDecide" 319 "HatsDecide$Trace" "bodies" "I" ∈ xW := xin (xt1 (i := 168) rfl) rfl
theorem xw248 : Cond.fieldLink "HatsDecide$Tape" 11 "HatsDecide$Tape" "sort" "I" ∈ xW := xin (xt1 (i := 192) rfl) rfl
theorem xw249 : Cond.fieldLink "HatsDecide" 293 "HatsDecide$Tape" "sort" "I" ∈ xW := xin (xt1 (i := 193) rfl) rfl
theorem xw250 : Cond.fieldLink "HatsDecide$Tape" 15 "HatsDecide$Tape" "length" "I" ∈ xW := xin (xt1 (i := 194) rfl) rfl
theorem xw251 : Cond.fieldLink "HatsDecide$Tape" 18 "HatsDecide$Tape" "items" "[J" ∈ xW := xin (xt1 (i := 195) rfl) rfl
theorem xw252 : Cond.fieldLink "HatsDecide" 299 "HatsDecide$Tape" "items" "[J" ∈ xW := xin (xt1 (i := 196) rfl) rfl
theorem xw253 : Cond.fieldLink "HatsDecide" 14 "HatsDecide" "now" "LHatsDecide$Scene;" ∈ xW := xin (xt1 (i := 205) rfl) rfl
theorem xw254 : Cond.fieldLink "HatsDecide" 18 "HatsDecide" "kept" "LHatsDecide$Scene;" ∈ xW := xin (xt1 (i := 206) rfl) rfl
theorem xw255 : Cond.fieldLink "HatsDecide" 21 "HatsDecide" "isKept" "Z" ∈ xW := xin (xt1 (i := 207) rfl) rfl
theorem xw256 : Cond.fieldLink "HatsDecide" 25 "HatsDecide" "text" "[B" ∈ xW := xin (xt1 (i := 208) rfl) rfl
theorem xw257 : Cond.fieldLink "HatsDecide" 29 "HatsDecide" "textBytes" "I" ∈ xW := xin (xt1 (i := 209) rfl) rfl
theorem xw258 : Cond.fieldLink "HatsDecide" 35 "HatsDecide" "towns" "[LHatsDecide$Town;" ∈ xW := xin (xt1 (i := 210) rfl) rfl
theorem xw259 : Cond.fieldLink "HatsDecide" 40 "HatsDecide" "noTown" "LHatsDecide$Town;" ∈ xW := xin (xt1 (i := 211) rfl) rfl
theorem xw260 : Cond.fieldLink "HatsDecide" 44 "HatsDecide" "townCount" "I" ∈ xW := xin (xt1 (i := 212) rfl) rfl
theorem xw261 : Cond.fieldLink "HatsDecide" 50 "HatsDecide" "ran" "LHatsDecide$Trace;" ∈ xW := xin (xt1 (i := 213) rfl) rfl
theorem xw262 : Cond.fieldLink "HatsDecide" 56 "HatsDecide" "tapes" "[LHatsDecide$Tape;" ∈ xW := xin (xt1 (i := 214) rfl) rfl
theorem xw263 : Cond.fieldLink "HatsDecide" 68 "HatsDecide" "letters" "[I" ∈ xW := xin (xt1 (i := 215) rfl) rfl
theorem xw264 : Cond.fieldLink "HatsDecide" 72 "HatsDecide" "deeds" "[I" ∈ xW := xin (xt1 (i := 216) rfl) rfl
theorem xw265 : Cond.fieldLink "HatsDecide" 75 "HatsDecide" "most" "[I" ∈ xW := xin (xt1 (i := 217) rfl) rfl
theorem xw266 : Cond.fieldLink "HatsDecide" 78 "HatsDecide" "ways" "[I" ∈ xW := xin (xt1 (i := 218) rfl) rfl
theorem xw267 : Cond.fieldLink "HatsDecide" 81 "HatsDecide" "perHead" "[I" ∈ xW := xin (xt1 (i := 219) rfl) rfl
theorem xw268 : Cond.fieldLink "HatsDecide$Hat" 7 "HatsDecide$Hat" "kind" "I" ∈ xW := xin (xt2 (i := 41) rfl) rfl
theorem xw269 : Cond.fieldLink "HatsDecide" 154 "HatsDecide$Hat" "kind" "I" ∈ xW := xin (xt2 (i := 42) rfl) rfl
theorem xw270 : Cond.fieldLink "HatsDecide$Hat" 13 "HatsDecide$Hat" "number" "I" ∈ xW := xin (xt2 (i := 43) rfl) rfl
theorem xw271 : Cond.fieldLink "HatsDecide$Frayed" 33 "HatsDecide$Frayed" "number" "I" ∈ xW := xin (xt2 (i := 44) rfl) rfl
theorem xw272 : Cond.sameField "HatsDecide$Frayed" "HatsDecide$Hat" "number" "I" ∈ xW := xin (xt2 (i := 45) rfl) rfl
theorem xw273 : Cond.fieldLink "HatsDecide$Hat" 16 "HatsDecide$Hat" "v" "I" ∈ xW := xin (xt2 (i := 46) rfl) rfl
theorem xw274 : Cond.fieldLink "HatsDecide$Crown" 11 "HatsDecide$Crown" "v" "I" ∈ xW := xin (xt2 (i := 47) rfl) rfl
theorem xw275 : Cond.sameField "HatsDecide$Crown" "HatsDecide$Hat" "v" "I" ∈ xW := xin (xt2 (i := 48) rfl) rfl
theorem xw276 : Cond.fieldLink "HatsDecide$Frayed" 11 "HatsDecide$Frayed" "v" "I" ∈ xW := xin (xt2 (i := 49) rfl) rfl
theorem xw277 : Cond.sameField "HatsDecide$Frayed" "HatsDecide$Hat" "v" "I" ∈ xW := xin (xt2 (i := 50) rfl) rfl
theorem xw278 : Cond.fieldLink "HatsDecide$Told" 30 "HatsDecide$Told" "v" "I" ∈ xW := xin (xt2 (i := 51) rfl) rfl
theorem xw279 : Cond.sameField "HatsDecide$Told" "HatsDecide$Hat" "v" "I" ∈ xW := xin (xt2 (i := 52) rfl) rfl
theorem xw280 : Cond.fieldLink "HatsDecide" 157 "HatsDecide$Hat" "v" "I" ∈ xW := xin (xt2 (i := 53) rfl) rfl
theorem xw281 : Cond.fieldLink "HatsDecide$Hat" 19 "HatsDecide$Hat" "size" "I" ∈ xW := xin (xt2 (i := 54) rfl) rfl
theorem xw282 : Cond.fieldLink "HatsDecide" 160 "HatsDecide$Hat" "size" "I" ∈ xW := xin (xt2 (i := 55) rfl) rfl
theorem xw283 : Cond.fieldLink "HatsDecide$Hat" 22 "HatsDecide$Hat" "trade" "I" ∈ xW := xin (xt2 (i := 56) rfl) rfl
theorem xw284 : Cond.fieldLink "HatsDecide" 163 "HatsDecide$Hat" "trade" "I" ∈ xW := xin (xt2 (i := 57) rfl) rfl
theorem xw285 : Cond.fieldLink "HatsDecide$Hat" 25 "HatsDecide$Hat" "ran" "LHatsDecide$Trace;" ∈ xW := xin (xt2 (i := 58) rfl) rfl
theorem xw286 : Cond.fieldLink "HatsDecide$Worn" 17 "HatsDecide$Worn" "ran" "LHatsDecide$Trace;" ∈ xW := xin (xt2 (i := 59) rfl) rfl
theorem xw287 : Cond.sameField "HatsDecide$Worn" "HatsDecide$Hat" "ran" "LHatsDecide$Trace;" ∈ xW := xin (xt2 (i := 60) rfl) rfl
theorem xw288 : Cond.fieldLink "HatsDecide$Stiff" 11 "HatsDecide$Stiff" "ran" "LHatsDecide$Trace;" ∈ xW := xin (xt2 (i := 61) rfl) rfl
theorem xw289 : Cond.sameField "HatsDecide$Stiff" "HatsDecide$Hat" "ran" "LHatsDecide$Trace;" ∈ xW := xin (xt2 (i := 62) rfl) rfl
theorem xw290 : Cond.fieldLink "HatsDecide$Tight" 17 "HatsDecide$Tight" "ran" "LHatsDecide$Trace;" ∈ xW := xin (xt2 (i := 63) rfl) rfl
theorem xw291 : Cond.sameField "HatsDecide$Tight" "HatsDecide$Hat" "ran" "LHatsDecide$Trace;" ∈ xW := xin (xt2 (i := 64) rfl) rfl
theorem xw292 : Cond.fieldLink "HatsDecide$Told" 11 "HatsDecide$Told" "ran" "LHatsDecide$Trace;" ∈ xW := xin (xt2 (i := 65) rfl) rfl
theorem xw293 : Cond.sameField "HatsDecide$Told" "HatsDecide$Hat" "ran" "LHatsDecide$Trace;" ∈ xW := xin (xt2 (i := 66) rfl) rfl
theorem xw294 : Cond.fieldLink "HatsDecide$Crown" 17 "HatsDecide$Crown" "ran" "LHatsDecide$Trace;" ∈ xW := xin (xt2 (i := 67) rfl) rfl
theorem xw295 : Cond.sameField "HatsDecide$Crown" "HatsDecide$Hat" "ran" "LHatsDecide$Trace;" ∈ xW := xin (xt2 (i := 68) rfl) rfl
theorem xw296 : Cond.fieldLink "HatsDecide$Frayed" 23 "HatsDecide$Frayed" "ran" "LHatsDecide$Trace;" ∈ xW := xin (xt2 (i := 69) rfl) rfl
theorem xw297 : Cond.sameField "HatsDecide$Frayed" "HatsDecide$Hat" "ran" "LHatsDecide$Trace;" ∈ xW := xin (xt2 (i := 70) rfl) rfl
theorem xw298 : Cond.fieldLink "HatsDecideModel" 7 "HatsDecideModel" "heads" "I" ∈ xW := xin (xt4 (i := 231) rfl) rfl
theorem xw299 : Cond.fieldLink "HatsDecideModel" 13 "HatsDecideModel" "hats" "I" ∈ xW := xin (xt4 (i := 232) rfl) rfl
theorem xw300 : Cond.fieldLink "HatsDecideModel" 16 "HatsDecideModel" "days" "I" ∈ xW := xin (xt4 (i := 233) rfl) rfl
theorem xw301 : Cond.fieldLink "HatsDecideModel" 19 "HatsDecideModel" "headSize" "[I" ∈ xW := xin (xt4 (i := 234) rfl) rfl
theorem xw302 : Cond.fieldLink "HatsDecideModel" 23 "HatsDecideModel" "owned" "[I" ∈ xW := xin (xt4 (i := 235) rfl) rfl
theorem xw303 : Cond.fieldLink "HatsDecideModel" 26 "HatsDecideModel" "worn" "[I" ∈ xW := xin (xt4 (i := 236) rfl) rfl
theorem xw304 : Cond.fieldLink "HatsDecideModel" 29 "HatsDecideModel" "kind" "[I" ∈ xW := xin (xt4 (i := 237) rfl) rfl
theorem xw305 : Cond.fieldLink "HatsDecideModel" 32 "HatsDecideModel" "v" "[I" ∈ xW := xin (xt4 (i := 238) rfl) rfl
theorem xw306 : Cond.fieldLink "HatsDecideModel" 35 "HatsDecideModel" "hatSize" "[I" ∈ xW := xin (xt4 (i := 239) rfl) rfl
theorem xw307 : Cond.fieldLink "HatsDecideModel" 38 "HatsDecideModel" "skill" "[I" ∈ xW := xin (xt5 (i := 0) rfl) rfl
theorem xw308 : Cond.fieldLink "HatsDecideModel" 41 "HatsDecideModel" "trade" "[I" ∈ xW := xin (xt5 (i := 1) rfl) rfl
theorem xw309 : Cond.fieldLink "HatsDecideModel" 44 "HatsDecideModel" "used" "[I" ∈ xW := xin (xt5 (i := 2) rfl) rfl
theorem xw310 : Cond.fieldLink "HatsDecideModel" 47 "HatsDecideModel" "rows" "[I" ∈ xW := xin (xt5 (i := 3) rfl) rfl
theorem xw311 : Cond.fieldLink "HatsDecideModel" 50 "HatsDecideModel" "done" "[I" ∈ xW := xin (xt5 (i := 4) rfl) rfl
theorem xw312 : Cond.fieldLink "HatsDecideModel" 53 "HatsDecideModel" "towns" "I" ∈ xW := xin (xt5 (i := 5) rfl) rfl
theorem xw313 : Cond.fieldLink "HatsDecideModel" 56 "HatsDecideModel" "the" "I" ∈ xW := xin (xt5 (i := 6) rfl) rfl
theorem xw314 : Cond.fieldLink "HatsDecideModel" 59 "HatsDecideModel" "fed" "I" ∈ xW := xin (xt5 (i := 7) rfl) rfl
theorem xw315 : Cond.fieldLink "HatsDecideModel" 62 "HatsDecideModel" "at" "I" ∈ xW := xin (xt5 (i := 8) rfl) rfl
theorem xw316 : Cond.fieldLink "HatsDecideModel" 65 "HatsDecideModel" "digits" "I" ∈ xW := xin (xt5 (i := 9) rfl) rfl
theorem xw317 : Cond.fieldLink "HatsDecideModel" 68 "HatsDecideModel" "text" "[I" ∈ xW := xin (xt5 (i := 10) rfl) rfl
theorem xw318 : Cond.fieldLink "HatsDecideModel" 71 "HatsDecideModel" "clauses" "[I" ∈ xW := xin (xt5 (i := 11) rfl) rfl
theorem xw319 : Cond.fieldLink "HatsDecideModel" 74 "HatsDecideModel" "word" "[I" ∈ xW := xin (xt5 (i := 12) rfl) rfl
theorem xw320 : Cond.fieldLink "HatsDecideModel" 77 "HatsDecideModel" "number" "[I" ∈ xW := xin (xt5 (i := 13) rfl) rfl
theorem xw321 : Cond.fieldLink "HatsDecideModel" 80 "HatsDecideModel" "asked" "[I" ∈ xW := xin (xt5 (i := 14) rfl) rfl
theorem xw322 : Cond.fieldLink "HatsDecideModel" 83 "HatsDecideModel" "from" "[I" ∈ xW := xin (xt5 (i := 15) rfl) rfl
theorem xw323 : Cond.fieldLink "HatsDecideModel" 86 "HatsDecideModel" "to" "[I" ∈ xW := xin (xt5 (i := 16) rfl) rfl
theorem xw324 : Cond.fieldLink "HatsDecideModel" 89 "HatsDecideModel" "sign" "[I" ∈ xW := xin (xt5 (i := 17) rfl) rfl
theorem xw325 : Cond.fieldLink "HatsDecideModel" 92 "HatsDecideModel" "waits" "[I" ∈ xW := xin (xt5 (i := 18) rfl) rfl
theorem xw326 : Cond.fieldLink "HatsDecideModel" 95 "HatsDecideModel" "signs" "I" ∈ xW := xin (xt5 (i := 19) rfl) rfl
theorem xw327 : Cond.fieldLink "HatsDecideModel" 98 "HatsDecideModel" "waiting" "I" ∈ xW := xin (xt5 (i := 20) rfl) rfl
theorem xw328 : Cond.fieldLink "HatsDecideModel" 101 "HatsDecideModel" "open" "I" ∈ xW := xin (xt5 (i := 21) rfl) rfl
theorem xw329 : Cond.fieldLink "HatsDecideModel" 104 "HatsDecideModel" "letters" "[I" ∈ xW := xin (xt5 (i := 22) rfl) rfl
theorem xw330 : Cond.fieldLink "HatsDecideModel" 107 "HatsDecideModel" "pile" "[Z" ∈ xW := xin (xt5 (i := 23) rfl) rfl
theorem xw331 : Cond.fieldLink "HatsDecideModel" 111 "HatsDecideModel" "mostUsed" "I" ∈ xW := xin (xt5 (i := 24) rfl) rfl
theorem xw332 : Cond.fieldLink "HatsDecideModel" 114 "HatsDecideModel" "blown" "[I" ∈ xW := xin (xt5 (i := 25) rfl) rfl
theorem xw333 : Cond.fieldLink "HatsDecideModel" 117 "HatsDecideModel" "keptDays" "I" ∈ xW := xin (xt5 (i := 26) rfl) rfl
theorem xw334 : Cond.fieldLink "HatsDecideModel" 120 "HatsDecideModel" "keptUsed" "[I" ∈ xW := xin (xt5 (i := 27) rfl) rfl
theorem xw335 : Cond.fieldLink "HatsDecideModel" 123 "HatsDecideModel" "keptWorn" "[I" ∈ xW := xin (xt5 (i := 28) rfl) rfl
theorem xw336 : Cond.fieldLink "HatsDecideModel" 126 "HatsDecideModel" "bestWay" "[I" ∈ xW := xin (xt5 (i := 29) rfl) rfl
theorem xw337 : Cond.fieldLink "HatsDecideModel" 129 "HatsDecideModel" "deeds" "[I" ∈ xW := xin (xt5 (i := 30) rfl) rfl
theorem xw338 : Cond.fieldLink "HatsDecideModel" 132 "HatsDecideModel" "bestSum" "I" ∈ xW := xin (xt5 (i := 31) rfl) rfl
theorem xw339 : Cond.fieldLink "HatsDecideModel" 135 "HatsDecideModel" "onward" "[I" ∈ xW := xin (xt5 (i := 32) rfl) rfl
theorem xw340 : Cond.fieldLink "HatsDecideModel" 138 "HatsDecideModel" "top" "[I" ∈ xW := xin (xt5 (i := 33) rfl) rfl
theorem xw341 : Cond.fieldLink "HatsDecideModel" 141 "HatsDecideModel" "seen" "I" ∈ xW := xin (xt5 (i := 34) rfl) rfl
theorem xw342 : Cond.fieldLink "HatsDecideModel" 144 "HatsDecideModel" "seenWho" "[I" ∈ xW := xin (xt5 (i := 35) rfl) rfl
theorem xw343 : Cond.fieldLink "HatsDecideModel" 147 "HatsDecideModel" "seenDeed" "[I" ∈ xW := xin (xt5 (i := 36) rfl) rfl
theorem xw344 : Cond.fieldLink "HatsDecideModel" 150 "HatsDecideModel" "ways" "[I" ∈ xW := xin (xt5 (i := 37) rfl) rfl
theorem xw345 : Cond.fieldLink "HatsDecideModel" 153 "HatsDecideModel" "books" "I" ∈ xW := xin (xt5 (i := 38) rfl) rfl
theorem xw346 : Cond.fieldLink "HatsDecideModel" 156 "HatsDecideModel" "bookWhat" "[I" ∈ xW := xin (xt5 (i := 39) rfl) rfl
theorem xw347 : Cond.fieldLink "HatsDecideModel" 159 "HatsDecideModel" "bookWho" "[I" ∈ xW := xin (xt5 (i := 40) rfl) rfl
theorem xw348 : Cond.fieldLink "HatsDecideModel" 162 "HatsDecideModel" "hasImage" "Z" ∈ xW := xin (xt5 (i := 41) rfl) rfl
theorem xw349 : Cond.fieldLink "HatsDecideModel" 166 "HatsDecideModel" "imageThe" "I" ∈ xW := xin (xt5 (i := 42) rfl) rfl
theorem xw350 : Cond.fieldLink "HatsDecideModel" 169 "HatsDecideModel" "imageHeads" "I" ∈ xW := xin (xt5 (i := 43) rfl) rfl
theorem xw351 : Cond.fieldLink "HatsDecideModel" 172 "HatsDecideModel" "imageHats" "I" ∈ xW := xin (xt5 (i := 44) rfl) rfl
theorem xw352 : Cond.fieldLink "HatsDecideModel" 175 "HatsDecideModel" "imageDays" "I" ∈ xW := xin (xt5 (i := 45) rfl) rfl
theorem xw353 : Cond.fieldLink "HatsDecideModel" 178 "HatsDecideModel" "imageSeen" "I" ∈ xW := xin (xt5 (i := 46) rfl) rfl
theorem xw354 : Cond.fieldLink "HatsDecideModel" 181 "HatsDecideModel" "imageBooks" "I" ∈ xW := xin (xt5 (i := 47) rfl) rfl
theorem xw355 : Cond.fieldLink "HatsDecideModel" 184 "HatsDecideModel" "imageHeadSize" "[I" ∈ xW := xin (xt5 (i := 48) rfl) rfl
theorem xw356 : Cond.fieldLink "HatsDecideModel" 187 "HatsDecideModel" "imageOwned" "[I" ∈ xW := xin (xt5 (i := 49) rfl) rfl
theorem xw357 : Cond.fieldLink "HatsDecideModel" 190 "HatsDecideModel" "imageWorn" "[I" ∈ xW := xin (xt5 (i := 50) rfl) rfl
theorem xw358 : Cond.fieldLink "HatsDecideModel" 193 "HatsDecideModel" "imageKind" "[I" ∈ xW := xin (xt5 (i := 51) rfl) rfl
theorem xw359 : Cond.fieldLink "HatsDecideModel" 196 "HatsDecideModel" "imageV" "[I" ∈ xW := xin (xt5 (i := 52) rfl) rfl
theorem xw360 : Cond.fieldLink "HatsDecideModel" 199 "HatsDecideModel" "imageHatSize" "[I" ∈ xW := xin (xt5 (i := 53) rfl) rfl
theorem xw361 : Cond.fieldLink "HatsDecideModel" 202 "HatsDecideModel" "imageSkill" "[I" ∈ xW := xin (xt5 (i := 54) rfl) rfl
theorem xw362 : Cond.fieldLink "HatsDecideModel" 205 "HatsDecideModel" "imageTrade" "[I" ∈ xW := xin (xt5 (i := 55) rfl) rfl
theorem xw363 : Cond.fieldLink "HatsDecideModel" 208 "HatsDecideModel" "imageUsed" "[I" ∈ xW := xin (xt5 (i := 56) rfl) rfl
theorem xw364 : Cond.fieldLink "HatsDecideModel" 211 "HatsDecideModel" "imageRows" "[I" ∈ xW := xin (xt5 (i := 57) rfl) rfl
theorem xw365 : Cond.fieldLink "HatsDecideModel" 214 "HatsDecideModel" "imageDone" "[I" ∈ xW := xin (xt5 (i := 58) rfl) rfl
theorem xw366 : Cond.fieldLink "HatsDecideModel" 217 "HatsDecideModel" "imageWho" "[I" ∈ xW := xin (xt5 (i := 59) rfl) rfl
theorem xw367 : Cond.fieldLink "HatsDecideModel" 220 "HatsDecideModel" "imageDeed" "[I" ∈ xW := xin (xt5 (i := 60) rfl) rfl
theorem xw368 : Cond.fieldLink "HatsDecideModel" 223 "HatsDecideModel" "imageWhat" "[I" ∈ xW := xin (xt5 (i := 61) rfl) rfl
theorem xw369 : Cond.fieldLink "HatsDecideModel" 226 "HatsDecideModel" "imageBookWho" "[I" ∈ xW := xin (xt5 (i := 62) rfl) rfl
theorem xw370 : Cond.fieldLink "HatsDecideModel" 229 "HatsDecideModel" "ran" "I" ∈ xW := xin (xt5 (i := 63) rfl) rfl
theorem xw371 : Cond.fieldLink "HatsDecideModel" 232 "HatsDecideModel" "bodies" "[I" ∈ xW := xin (xt5 (i := 64) rfl) rfl
theorem xw372 : Cond.fieldLink "HatsDecideModel" 235 "HatsDecideModel" "sort" "[I" ∈ xW := xin (xt5 (i := 65) rfl) rfl
theorem xw373 : Cond.fieldLink "HatsDecideModel" 238 "HatsDecideModel" "length" "[I" ∈ xW := xin (xt5 (i := 66) rfl) rfl
theorem xw374 : Cond.fieldLink "HatsDecideModel" 241 "HatsDecideModel" "item" "[J" ∈ xW := xin (xt5 (i := 67) rfl) rfl
theorem xw375 : Cond.fieldLink "HatsDecideModel" 245 "HatsDecideModel" "aside" "[J" ∈ xW := xin (xt5 (i := 68) rfl) rfl
abbrev xFe : Type := Nat × Nat × Nat × Nat × String
def xFok (e : xFe) : Prop := (e.2.2.1 < 13 ∧ e.2.2.2.1 < xN e.2.2.1) ∧ Cond.fieldLink (xR e.1) e.2.1 e.2.2.2.2 (xT e.2.2.1 e.2.2.2.1).2.1 (xT e.2.2.1 e.2.2.2.1).2.2.1 ∈ xW ∧ (e.2.2.2.2 = (xT e.2.2.1 e.2.2.2.1).1 ∨ Cond.sameField e.2.2.2.2 (xT e.2.2.1 e.2.2.2.1).1 (xT e.2.2.1 e.2.2.2.1).2.1 (xT e.2.2.1 e.2.2.2.1).2.2.1 ∈ xW)
theorem xf0 : xFok (3, 9, 3, 0, "HatsDecide$Scene") := ⟨⟨by decide, by decide⟩, xw196, Or.inl rfl⟩
theorem xf1 : xFok (11, 89, 3, 0, "HatsDecide$Scene") := ⟨⟨by decide, by decide⟩, xw197, Or.inl rfl⟩
theorem xf2 : xFok (3, 15, 3, 1, "HatsDecide$Scene") := ⟨⟨by decide, by decide⟩, xw198, Or.inl rfl⟩
theorem xf3 : xFok (11, 92, 3, 1, "HatsDecide$Scene") := ⟨⟨by decide, by decide⟩, xw199, Or.inl rfl⟩
theorem xf4 : xFok (3, 19, 3, 2, "HatsDecide$Scene") := ⟨⟨by decide, by decide⟩, xw200, Or.inl rfl⟩
theorem xf5 : xFok (11, 95, 3, 2, "HatsDecide$Scene") := ⟨⟨by decide, by decide⟩, xw201, Or.inl rfl⟩
theorem xf6 : xFok (3, 22, 3, 3, "HatsDecide$Scene") := ⟨⟨by decide, by decide⟩, xw202, Or.inl rfl⟩
theorem xf7 : xFok (11, 98, 3, 3, "HatsDecide$Scene") := ⟨⟨by decide, by decide⟩, xw203, Or.inl rfl⟩
theorem xf8 : xFok (3, 25, 3, 4, "HatsDecide$Scene") := ⟨⟨by decide, by decide⟩, xw204, Or.inl rfl⟩
theorem xf9 : xFok (11, 108, 3, 4, "HatsDecide$Scene") := ⟨⟨by decide, by decide⟩, xw205, Or.inl rfl⟩
theorem xf10 : xFok (3, 30, 3, 5, "HatsDecide$Scene") := ⟨⟨by decide, by decide⟩, xw206, Or.inl rfl⟩
theorem xf11 : xFok (11, 111, 3, 5, "HatsDecide$Scene") := ⟨⟨by decide, by decide⟩, xw207, Or.inl rfl⟩
theorem xf12 : xFok (3, 34, 3, 6, "HatsDecide$Scene") := ⟨⟨by decide, by decide⟩, xw208, Or.inl rfl⟩
theorem xf13 : xFok (11, 119, 3, 6, "HatsDecide$Scene") := ⟨⟨by decide, by decide⟩, xw209, Or.inl rfl⟩
theorem xf14 : xFok (3, 37, 3, 7, "HatsDecide$Scene") := ⟨⟨by decide, by decide⟩, xw210, Or.inl rfl⟩
theorem xf15 : xFok (11, 122, 3, 7, "HatsDecide$Scene") := ⟨⟨by decide, by decide⟩, xw211, Or.inl rfl⟩
theorem xf16 : xFok (3, 40, 3, 8, "HatsDecide$Scene") := ⟨⟨by decide, by decide⟩, xw212, Or.inl rfl⟩
theorem xf17 : xFok (11, 125, 3, 8, "HatsDecide$Scene") := ⟨⟨by decide, by decide⟩, xw213, Or.inl rfl⟩
theorem xf18 : xFok (3, 43, 3, 9, "HatsDecide$Scene") := ⟨⟨by decide, by decide⟩, xw214, Or.inl rfl⟩
theorem xf19 : xFok (11, 190, 3, 9, "HatsDecide$Scene") := ⟨⟨by decide, by decide⟩, xw215, Or.inl rfl⟩
theorem xf20 : xFok (3, 46, 3, 10, "HatsDecide$Scene") := ⟨⟨by decide, by decide⟩, xw216, Or.inl rfl⟩
theorem xf21 : xFok (11, 200, 3, 10, "HatsDecide$Scene") := ⟨⟨by decide, by decide⟩, xw217, Or.inl rfl⟩
theorem xf22 : xFok (3, 49, 3, 11, "HatsDecide$Scene") := ⟨⟨by decide, by decide⟩, xw218, Or.inl rfl⟩
theorem xf23 : xFok (11, 251, 3, 11, "HatsDecide$Scene") := ⟨⟨by decide, by decide⟩, xw219, Or.inl rfl⟩
theorem xf24 : xFok (3, 52, 3, 12, "HatsDecide$Scene") := ⟨⟨by decide, by decide⟩, xw220, Or.inl rfl⟩
theorem xf25 : xFok (11, 254, 3, 12, "HatsDecide$Scene") := ⟨⟨by decide, by decide⟩, xw221, Or.inl rfl⟩
theorem xf26 : xFok (3, 55, 3, 13, "HatsDecide$Scene") := ⟨⟨by decide, by decide⟩, xw222, Or.inl rfl⟩
theorem xf27 : xFok (11, 257, 3, 13, "HatsDecide$Scene") := ⟨⟨by decide, by decide⟩, xw223, Or.inl rfl⟩
theorem xf28 : xFok (3, 58, 3, 14, "HatsDecide$Scene") := ⟨⟨by decide, by decide⟩, xw224, Or.inl rfl⟩
theorem xf29 : xFok (11, 281, 3, 14, "HatsDecide$Scene") := ⟨⟨by decide, by decide⟩, xw225, Or.inl rfl⟩
theorem xf30 : xFok (3, 61, 3, 15, "HatsDecide$Scene") := ⟨⟨by decide, by decide⟩, xw226, Or.inl rfl⟩
theorem xf31 : xFok (11, 284, 3, 15, "HatsDecide$Scene") := ⟨⟨by decide, by decide⟩, xw227, Or.inl rfl⟩
theorem xf32 : xFok (3, 64, 3, 16, "HatsDecide$Scene") := ⟨⟨by decide, by decide⟩, xw228, Or.inl rfl⟩
theorem xf33 : xFok (11, 287, 3, 16, "HatsDecide$Scene") := ⟨⟨by decide, by decide⟩, xw229, Or.inl rfl⟩
theorem xf34 : xFok (3, 67, 3, 17, "HatsDecide$Scene") := ⟨⟨by decide, by decide⟩, xw230, Or.inl rfl⟩
theorem xf35 : xFok (11, 187, 3, 17, "HatsDecide$Scene") := ⟨⟨by decide, by decide⟩, xw231, Or.inl rfl⟩
theorem xf36 : xFok (8, 9, 8, 0, "HatsDecide$Town") := ⟨⟨by decide, by decide⟩, xw232, Or.inl rfl⟩
theorem xf37 : xFok (8, 15, 8, 1, "HatsDecide$Town") := ⟨⟨by decide, by decide⟩, xw233, Or.inl rfl⟩
theorem xf38 : xFok (8, 19, 8, 2, "HatsDecide$Town") := ⟨⟨by decide, by decide⟩, xw234, Or.inl rfl⟩
theorem xf39 : xFok (8, 22, 8, 3, "HatsDecide$Town") := ⟨⟨by decide, by decide⟩, xw235, Or.inl rfl⟩
theorem xf40 : xFok (8, 25, 8, 4, "HatsDecide$Town") := ⟨⟨by decide, by decide⟩, xw236, Or.inl rfl⟩
theorem xf41 : xFok (8, 28, 8, 5, "HatsDecide$Town") := ⟨⟨by decide, by decide⟩, xw237, Or.inl rfl⟩
theorem xf42 : xFok (8, 31, 8, 6, "HatsDecide$Town") := ⟨⟨by decide, by decide⟩, xw238, Or.inl rfl⟩
theorem xf43 : xFok (8, 34, 8, 7, "HatsDecide$Town") := ⟨⟨by decide, by decide⟩, xw239, Or.inl rfl⟩
theorem xf44 : xFok (8, 41, 8, 8, "HatsDecide$Town") := ⟨⟨by decide, by decide⟩, xw240, Or.inl rfl⟩
theorem xf45 : xFok (8, 44, 8, 9, "HatsDecide$Town") := ⟨⟨by decide, by decide⟩, xw241, Or.inl rfl⟩
theorem xf46 : xFok (8, 47, 8, 10, "HatsDecide$Town") := ⟨⟨by decide, by decide⟩, xw242, Or.inl rfl⟩
theorem xf47 : xFok (8, 50, 8, 11, "HatsDecide$Town") := ⟨⟨by decide, by decide⟩, xw243, Or.inl rfl⟩
theorem xf48 : xFok (9, 9, 9, 0, "HatsDecide$Trace") := ⟨⟨by decide, by decide⟩, xw244, Or.inl rfl⟩
theorem xf49 : xFok (11, 322, 9, 0, "HatsDecide$Trace") := ⟨⟨by decide, by decide⟩, xw245, Or.inl rfl⟩
theorem xf50 : xFok (9, 15, 9, 1, "HatsDecide$Trace") := ⟨⟨by decide, by decide⟩, xw246, Or.inl rfl⟩
theorem xf51 : xFok (11, 319, 9, 1, "HatsDecide$Trace") := ⟨⟨by decide, by decide⟩, xw247, Or.inl rfl⟩
theorem xf52 : xFok (5, 11, 5, 0, "HatsDecide$Tape") := ⟨⟨by decide, by decide⟩, xw248, Or.inl rfl⟩
theorem xf53 : xFok (11, 293, 5, 0, "HatsDecide$Tape") := ⟨⟨by decide, by decide⟩, xw249, Or.inl rfl⟩
theorem xf54 : xFok (5, 15, 5, 1, "HatsDecide$Tape") := ⟨⟨by decide, by decide⟩, xw250, Or.inl rfl⟩
theorem xf55 : xFok (5, 18, 5, 2, "HatsDecide$Tape") := ⟨⟨by decide, by decide⟩, xw251, Or.inl rfl⟩
theorem xf56 : xFok (11, 299, 5, 2, "HatsDecide$Tape") := ⟨⟨by decide, by decide⟩, xw252, Or.inl rfl⟩
theorem xf57 : xFok (11, 14, 11, 0, "HatsDecide") := ⟨⟨by decide, by decide⟩, xw253, Or.inl rfl⟩
theorem xf58 : xFok (11, 18, 11, 1, "HatsDecide") := ⟨⟨by decide, by decide⟩, xw254, Or.inl rfl⟩
theorem xf59 : xFok (11, 21, 11, 2, "HatsDecide") := ⟨⟨by decide, by decide⟩, xw255, Or.inl rfl⟩
theorem xf60 : xFok (11, 25, 11, 3, "HatsDecide") := ⟨⟨by decide, by decide⟩, xw256, Or.inl rfl⟩
theorem xf61 : xFok (11, 29, 11, 4, "HatsDecide") := ⟨⟨by decide, by decide⟩, xw257, Or.inl rfl⟩
theorem xf62 : xFok (11, 35, 11, 5, "HatsDecide") := ⟨⟨by decide, by decide⟩, xw258, Or.inl rfl⟩
theorem xf63 : xFok (11, 40, 11, 6, "HatsDecide") := ⟨⟨by decide, by decide⟩, xw259, Or.inl rfl⟩
theorem xf64 : xFok (11, 44, 11, 7, "HatsDecide") := ⟨⟨by decide, by decide⟩, xw260, Or.inl rfl⟩
theorem xf65 : xFok (11, 50, 11, 8, "HatsDecide") := ⟨⟨by decide, by decide⟩, xw261, Or.inl rfl⟩
theorem xf66 : xFok (11, 56, 11, 9, "HatsDecide") := ⟨⟨by decide, by decide⟩, xw262, Or.inl rfl⟩
theorem xf67 : xFok (11, 68, 11, 10, "HatsDecide") := ⟨⟨by decide, by decide⟩, xw263, Or.inl rfl⟩
theorem xf68 : xFok (11, 72, 11, 11, "HatsDecide") := ⟨⟨by decide, by decide⟩, xw264, Or.inl rfl⟩
theorem xf69 : xFok (11, 75, 11, 12, "HatsDecide") := ⟨⟨by decide, by decide⟩, xw265, Or.inl rfl⟩
theorem xf70 : xFok (11, 78, 11, 13, "HatsDecide") := ⟨⟨by decide, by decide⟩, xw266, Or.inl rfl⟩
theorem xf71 : xFok (11, 81, 11, 14, "HatsDecide") := ⟨⟨by decide, by decide⟩, xw267, Or.inl rfl⟩
theorem xf72 : xFok (2, 7, 0, 0, "HatsDecide$Hat") := ⟨⟨by decide, by decide⟩, xw268, Or.inl rfl⟩
theorem xf73 : xFok (2, 7, 1, 0, "HatsDecide$Hat") := ⟨⟨by decide, by decide⟩, xw268, Or.inl rfl⟩
theorem xf74 : xFok (2, 7, 2, 0, "HatsDecide$Hat") := ⟨⟨by decide, by decide⟩, xw268, Or.inl rfl⟩
theorem xf75 : xFok (2, 7, 4, 0, "HatsDecide$Hat") := ⟨⟨by decide, by decide⟩, xw268, Or.inl rfl⟩
theorem xf76 : xFok (2, 7, 6, 0, "HatsDecide$Hat") := ⟨⟨by decide, by decide⟩, xw268, Or.inl rfl⟩
theorem xf77 : xFok (2, 7, 7, 0, "HatsDecide$Hat") := ⟨⟨by decide, by decide⟩, xw268, Or.inl rfl⟩
theorem xf78 : xFok (2, 7, 10, 0, "HatsDecide$Hat") := ⟨⟨by decide, by decide⟩, xw268, Or.inl rfl⟩
theorem xf79 : xFok (11, 154, 0, 0, "HatsDecide$Hat") := ⟨⟨by decide, by decide⟩, xw269, Or.inl rfl⟩
theorem xf80 : xFok (11, 154, 1, 0, "HatsDecide$Hat") := ⟨⟨by decide, by decide⟩, xw269, Or.inl rfl⟩
theorem xf81 : xFok (11, 154, 2, 0, "HatsDecide$Hat") := ⟨⟨by decide, by decide⟩, xw269, Or.inl rfl⟩
theorem xf82 : xFok (11, 154, 4, 0, "HatsDecide$Hat") := ⟨⟨by decide, by decide⟩, xw269, Or.inl rfl⟩
theorem xf83 : xFok (11, 154, 6, 0, "HatsDecide$Hat") := ⟨⟨by decide, by decide⟩, xw269, Or.inl rfl⟩
theorem xf84 : xFok (11, 154, 7, 0, "HatsDecide$Hat") := ⟨⟨by decide, by decide⟩, xw269, Or.inl rfl⟩
theorem xf85 : xFok (11, 154, 10, 0, "HatsDecide$Hat") := ⟨⟨by decide, by decide⟩, xw269, Or.inl rfl⟩
theorem xf86 : xFok (2, 13, 0, 1, "HatsDecide$Hat") := ⟨⟨by decide, by decide⟩, xw270, Or.inl rfl⟩
theorem xf87 : xFok (2, 13, 1, 1, "HatsDecide$Hat") := ⟨⟨by decide, by decide⟩, xw270, Or.inl rfl⟩
theorem xf88 : xFok (2, 13, 2, 1, "HatsDecide$Hat") := ⟨⟨by decide, by decide⟩, xw270, Or.inl rfl⟩
theorem xf89 : xFok (2, 13, 4, 1, "HatsDecide$Hat") := ⟨⟨by decide, by decide⟩, xw270, Or.inl rfl⟩
theorem xf90 : xFok (2, 13, 6, 1, "HatsDecide$Hat") := ⟨⟨by decide, by decide⟩, xw270, Or.inl rfl⟩
theorem xf91 : xFok (2, 13, 7, 1, "HatsDecide$Hat") := ⟨⟨by decide, by decide⟩, xw270, Or.inl rfl⟩
theorem xf92 : xFok (2, 13, 10, 1, "HatsDecide$Hat") := ⟨⟨by decide, by decide⟩, xw270, Or.inl rfl⟩
theorem xf93 : xFok (1, 33, 1, 1, "HatsDecide$Frayed") := ⟨⟨by decide, by decide⟩, xw271, Or.inr xw272⟩
theorem xf94 : xFok (2, 16, 0, 2, "HatsDecide$Hat") := ⟨⟨by decide, by decide⟩, xw273, Or.inl rfl⟩
theorem xf95 : xFok (2, 16, 1, 2, "HatsDecide$Hat") := ⟨⟨by decide, by decide⟩, xw273, Or.inl rfl⟩
theorem xf96 : xFok (2, 16, 2, 2, "HatsDecide$Hat") := ⟨⟨by decide, by decide⟩, xw273, Or.inl rfl⟩
theorem xf97 : xFok (2, 16, 4, 2, "HatsDecide$Hat") := ⟨⟨by decide, by decide⟩, xw273, Or.inl rfl⟩
theorem xf98 : xFok (2, 16, 6, 2, "HatsDecide$Hat") := ⟨⟨by decide, by decide⟩, xw273, Or.inl rfl⟩
theorem xf99 : xFok (2, 16, 7, 2, "HatsDecide$Hat") := ⟨⟨by decide, by decide⟩, xw273, Or.inl rfl⟩
theorem xf100 : xFok (2, 16, 10, 2, "HatsDecide$Hat") := ⟨⟨by decide, by decide⟩, xw273, Or.inl rfl⟩
theorem xf101 : xFok (0, 11, 0, 2, "HatsDecide$Crown") := ⟨⟨by decide, by decide⟩, xw274, Or.inr xw275⟩
theorem xf102 : xFok (0, 11, 7, 2, "HatsDecide$Crown") := ⟨⟨by decide, by decide⟩, xw274, Or.inr xw275⟩
theorem xf103 : xFok (1, 11, 1, 2, "HatsDecide$Frayed") := ⟨⟨by decide, by decide⟩, xw276, Or.inr xw277⟩
theorem xf104 : xFok (7, 30, 7, 2, "HatsDecide$Told") := ⟨⟨by decide, by decide⟩, xw278, Or.inr xw279⟩
theorem xf105 : xFok (11, 157, 0, 2, "HatsDecide$Hat") := ⟨⟨by decide, by decide⟩, xw280, Or.inl rfl⟩
theorem xf106 : xFok (11, 157, 1, 2, "HatsDecide$Hat") := ⟨⟨by decide, by decide⟩, xw280, Or.inl rfl⟩
theorem xf107 : xFok (11, 157, 2, 2, "HatsDecide$Hat") := ⟨⟨by decide, by decide⟩, xw280, Or.inl rfl⟩
theorem xf108 : xFok (11, 157, 4, 2, "HatsDecide$Hat") := ⟨⟨by decide, by decide⟩, xw280, Or.inl rfl⟩
theorem xf109 : xFok (11, 157, 6, 2, "HatsDecide$Hat") := ⟨⟨by decide, by decide⟩, xw280, Or.inl rfl⟩
theorem xf110 : xFok (11, 157, 7, 2, "HatsDecide$Hat") := ⟨⟨by decide, by decide⟩, xw280, Or.inl rfl⟩
theorem xf111 : xFok (11, 157, 10, 2, "HatsDecide$Hat") := ⟨⟨by decide, by decide⟩, xw280, Or.inl rfl⟩
theorem xf112 : xFok (2, 19, 0, 3, "HatsDecide$Hat") := ⟨⟨by decide, by decide⟩, xw281, Or.inl rfl⟩
theorem xf113 : xFok (2, 19, 1, 3, "HatsDecide$Hat") := ⟨⟨by decide, by decide⟩, xw281, Or.inl rfl⟩
theorem xf114 : xFok (2, 19, 2, 3, "HatsDecide$Hat") := ⟨⟨by decide, by decide⟩, xw281, Or.inl rfl⟩
theorem xf115 : xFok (2, 19, 4, 3, "HatsDecide$Hat") := ⟨⟨by decide, by decide⟩, xw281, Or.inl rfl⟩
theorem xf116 : xFok (2, 19, 6, 3, "HatsDecide$Hat") := ⟨⟨by decide, by decide⟩, xw281, Or.inl rfl⟩
theorem xf117 : xFok (2, 19, 7, 3, "HatsDecide$Hat") := ⟨⟨by decide, by decide⟩, xw281, Or.inl rfl⟩
theorem xf118 : xFok (2, 19, 10, 3, "HatsDecide$Hat") := ⟨⟨by decide, by decide⟩, xw281, Or.inl rfl⟩
theorem xf119 : xFok (11, 160, 0, 3, "HatsDecide$Hat") := ⟨⟨by decide, by decide⟩, xw282, Or.inl rfl⟩
theorem xf120 : xFok (11, 160, 1, 3, "HatsDecide$Hat") := ⟨⟨by decide, by decide⟩, xw282, Or.inl rfl⟩
theorem xf121 : xFok (11, 160, 2, 3, "HatsDecide$Hat") := ⟨⟨by decide, by decide⟩, xw282, Or.inl rfl⟩
theorem xf122 : xFok (11, 160, 4, 3, "HatsDecide$Hat") := ⟨⟨by decide, by decide⟩, xw282, Or.inl rfl⟩
theorem xf123 : xFok (11, 160, 6, 3, "HatsDecide$Hat") := ⟨⟨by decide, by decide⟩, xw282, Or.inl rfl⟩
theorem xf124 : xFok (11, 160, 7, 3, "HatsDecide$Hat") := ⟨⟨by decide, by decide⟩, xw282, Or.inl rfl⟩
theorem xf125 : xFok (11, 160, 10, 3, "HatsDecide$Hat") := ⟨⟨by decide, by decide⟩, xw282, Or.inl rfl⟩
theorem xf126 : xFok (2, 22, 0, 4, "HatsDecide$Hat") := ⟨⟨by decide, by decide⟩, xw283, Or.inl rfl⟩
theorem xf127 : xFok (2, 22, 1, 4, "HatsDecide$Hat") := ⟨⟨by decide, by decide⟩, xw283, Or.inl rfl⟩
theorem xf128 : xFok (2, 22, 2, 4, "HatsDecide$Hat") := ⟨⟨by decide, by decide⟩, xw283, Or.inl rfl⟩
theorem xf129 : xFok (2, 22, 4, 4, "HatsDecide$Hat") := ⟨⟨by decide, by decide⟩, xw283, Or.inl rfl⟩
theorem xf130 : xFok (2, 22, 6, 4, "HatsDecide$Hat") := ⟨⟨by decide, by decide⟩, xw283, Or.inl rfl⟩
theorem xf131 : xFok (2, 22, 7, 4, "HatsDecide$Hat") := ⟨⟨by decide, by decide⟩, xw283, Or.inl rfl⟩
theorem xf132 : xFok (2, 22, 10, 4, "HatsDecide$Hat") := ⟨⟨by decide, by decide⟩, xw283, Or.inl rfl⟩
theorem xf133 : xFok (11, 163, 0, 4, "HatsDecide$Hat") := ⟨⟨by decide, by decide⟩, xw284, Or.inl rfl⟩
theorem xf134 : xFok (11, 163, 1, 4, "HatsDecide$Hat") := ⟨⟨by decide, by decide⟩, xw284, Or.inl rfl⟩
theorem xf135 : xFok (11, 163, 2, 4, "HatsDecide$Hat") := ⟨⟨by decide, by decide⟩, xw284, Or.inl rfl⟩
theorem xf136 : xFok (11, 163, 4, 4, "HatsDecide$Hat") := ⟨⟨by decide, by decide⟩, xw284, Or.inl rfl⟩
theorem xf137 : xFok (11, 163, 6, 4, "HatsDecide$Hat") := ⟨⟨by decide, by decide⟩, xw284, Or.inl rfl⟩
theorem xf138 : xFok (11, 163, 7, 4, "HatsDecide$Hat") := ⟨⟨by decide, by decide⟩, xw284, Or.inl rfl⟩
theorem xf139 : xFok (11, 163, 10, 4, "HatsDecide$Hat") := ⟨⟨by decide, by decide⟩, xw284, Or.inl rfl⟩
theorem xf140 : xFok (2, 25, 0, 5, "HatsDecide$Hat") := ⟨⟨by decide, by decide⟩, xw285, Or.inl rfl⟩
theorem xf141 : xFok (2, 25, 1, 5, "HatsDecide$Hat") := ⟨⟨by decide, by decide⟩, xw285, Or.inl rfl⟩
theorem xf142 : xFok (2, 25, 2, 5, "HatsDecide$Hat") := ⟨⟨by decide, by decide⟩, xw285, Or.inl rfl⟩
theorem xf143 : xFok (2, 25, 4, 5, "HatsDecide$Hat") := ⟨⟨by decide, by decide⟩, xw285, Or.inl rfl⟩
theorem xf144 : xFok (2, 25, 6, 5, "HatsDecide$Hat") := ⟨⟨by decide, by decide⟩, xw285, Or.inl rfl⟩
theorem xf145 : xFok (2, 25, 7, 5, "HatsDecide$Hat") := ⟨⟨by decide, by decide⟩, xw285, Or.inl rfl⟩
theorem xf146 : xFok (2, 25, 10, 5, "HatsDecide$Hat") := ⟨⟨by decide, by decide⟩, xw285, Or.inl rfl⟩
theorem xf147 : xFok (10, 17, 10, 5, "HatsDecide$Worn") := ⟨⟨by decide, by decide⟩, xw286, Or.inr xw287⟩
theorem xf148 : xFok (10, 17, 1, 5, "HatsDecide$Worn") := ⟨⟨by decide, by decide⟩, xw286, Or.inr xw287⟩
theorem xf149 : xFok (4, 11, 4, 5, "HatsDecide$Stiff") := ⟨⟨by decide, by decide⟩, xw288, Or.inr xw289⟩
theorem xf150 : xFok (6, 17, 6, 5, "HatsDecide$Tight") := ⟨⟨by decide, by decide⟩, xw290, Or.inr xw291⟩
theorem xf151 : xFok (6, 17, 4, 5, "HatsDecide$Tight") := ⟨⟨by decide, by decide⟩, xw290, Or.inr xw291⟩
theorem xf152 : xFok (7, 11, 7, 5, "HatsDecide$Told") := ⟨⟨by decide, by decide⟩, xw292, Or.inr xw293⟩
theorem xf153 : xFok (0, 17, 0, 5, "HatsDecide$Crown") := ⟨⟨by decide, by decide⟩, xw294, Or.inr xw295⟩
theorem xf154 : xFok (0, 17, 7, 5, "HatsDecide$Crown") := ⟨⟨by decide, by decide⟩, xw294, Or.inr xw295⟩
theorem xf155 : xFok (1, 23, 1, 5, "HatsDecide$Frayed") := ⟨⟨by decide, by decide⟩, xw296, Or.inr xw297⟩
theorem xf156 : xFok (12, 7, 12, 0, "HatsDecideModel") := ⟨⟨by decide, by decide⟩, xw298, Or.inl rfl⟩
theorem xf157 : xFok (12, 13, 12, 1, "HatsDecideModel") := ⟨⟨by decide, by decide⟩, xw299, Or.inl rfl⟩
theorem xf158 : xFok (12, 16, 12, 2, "HatsDecideModel") := ⟨⟨by decide, by decide⟩, xw300, Or.inl rfl⟩
theorem xf159 : xFok (12, 19, 12, 3, "HatsDecideModel") := ⟨⟨by decide, by decide⟩, xw301, Or.inl rfl⟩
theorem xf160 : xFok (12, 23, 12, 4, "HatsDecideModel") := ⟨⟨by decide, by decide⟩, xw302, Or.inl rfl⟩
theorem xf161 : xFok (12, 26, 12, 5, "HatsDecideModel") := ⟨⟨by decide, by decide⟩, xw303, Or.inl rfl⟩
theorem xf162 : xFok (12, 29, 12, 6, "HatsDecideModel") := ⟨⟨by decide, by decide⟩, xw304, Or.inl rfl⟩
theorem xf163 : xFok (12, 32, 12, 7, "HatsDecideModel") := ⟨⟨by decide, by decide⟩, xw305, Or.inl rfl⟩
theorem xf164 : xFok (12, 35, 12, 8, "HatsDecideModel") := ⟨⟨by decide, by decide⟩, xw306, Or.inl rfl⟩
theorem xf165 : xFok (12, 38, 12, 9, "HatsDecideModel") := ⟨⟨by decide, by decide⟩, xw307, Or.inl rfl⟩
theorem xf166 : xFok (12, 41, 12, 10, "HatsDecideModel") := ⟨⟨by decide, by decide⟩, xw308, Or.inl rfl⟩
theorem xf167 : xFok (12, 44, 12, 11, "HatsDecideModel") := ⟨⟨by decide, by decide⟩, xw309, Or.inl rfl⟩
theorem xf168 : xFok (12, 47, 12, 12, "HatsDecideModel") := ⟨⟨by decide, by decide⟩, xw310, Or.inl rfl⟩
theorem xf169 : xFok (12, 50, 12, 13, "HatsDecideModel") := ⟨⟨by decide, by decide⟩, xw311, Or.inl rfl⟩
theorem xf170 : xFok (12, 53, 12, 14, "HatsDecideModel") := ⟨⟨by decide, by decide⟩, xw312, Or.inl rfl⟩
theorem xf171 : xFok (12, 56, 12, 15, "HatsDecideModel") := ⟨⟨by decide, by decide⟩, xw313, Or.inl rfl⟩
theorem xf172 : xFok (12, 59, 12, 16, "HatsDecideModel") := ⟨⟨by decide, by decide⟩, xw314, Or.inl rfl⟩
theorem xf173 : xFok (12, 62, 12, 17, "HatsDecideModel") := ⟨⟨by decide, by decide⟩, xw315, Or.inl rfl⟩
theorem xf174 : xFok (12, 65, 12, 18, "HatsDecideModel") := ⟨⟨by decide, by decide⟩, xw316, Or.inl rfl⟩
theorem xf175 : xFok (12, 68, 12, 19, "HatsDecideModel") := ⟨⟨by decide, by decide⟩, xw317, Or.inl rfl⟩
theorem xf176 : xFok (12, 71, 12, 20, "HatsDecideModel") := ⟨⟨by decide, by decide⟩, xw318, Or.inl rfl⟩
theorem xf177 : xFok (12, 74, 12, 21, "HatsDecideModel") := ⟨⟨by decide, by decide⟩, xw319, Or.inl rfl⟩
theorem xf178 : xFok (12, 77, 12, 22, "HatsDecideModel") := ⟨⟨by decide, by decide⟩, xw320, Or.inl rfl⟩
theorem xf179 : xFok (12, 80, 12, 23, "HatsDecideModel") := ⟨⟨by decide, by decide⟩, xw321, Or.inl rfl⟩
theorem xf180 : xFok (12, 83, 12, 24, "HatsDecideModel") := ⟨⟨by decide, by decide⟩, xw322, Or.inl rfl⟩
theorem xf181 : xFok (12, 86, 12, 25, "HatsDecideModel") := ⟨⟨by decide, by decide⟩, xw323, Or.inl rfl⟩
theorem xf182 : xFok (12, 89, 12, 26, "HatsDecideModel") := ⟨⟨by decide, by decide⟩, xw324, Or.inl rfl⟩
theorem xf183 : xFok (12, 92, 12, 27, "HatsDecideModel") := ⟨⟨by decide, by decide⟩, xw325, Or.inl rfl⟩
theorem xf184 : xFok (12, 95, 12, 28, "HatsDecideModel") := ⟨⟨by decide, by decide⟩, xw326, Or.inl rfl⟩
theorem xf185 : xFok (12, 98, 12, 29, "HatsDecideModel") := ⟨⟨by decide, by decide⟩, xw327, Or.inl rfl⟩
theorem xf186 : xFok (12, 101, 12, 30, "HatsDecideModel") := ⟨⟨by decide, by decide⟩, xw328, Or.inl rfl⟩
theorem xf187 : xFok (12, 104, 12, 31, "HatsDecideModel") := ⟨⟨by decide, by decide⟩, xw329, Or.inl rfl⟩
theorem xf188 : xFok (12, 107, 12, 32, "HatsDecideModel") := ⟨⟨by decide, by decide⟩, xw330, Or.inl rfl⟩
theorem xf189 : xFok (12, 111, 12, 33, "HatsDecideModel") := ⟨⟨by decide, by decide⟩, xw331, Or.inl rfl⟩
theorem xf190 : xFok (12, 114, 12, 34, "HatsDecideModel") := ⟨⟨by decide, by decide⟩, xw332, Or.inl rfl⟩
theorem xf191 : xFok (12, 117, 12, 35, "HatsDecideModel") := ⟨⟨by decide, by decide⟩, xw333, Or.inl rfl⟩
theorem xf192 : xFok (12, 120, 12, 36, "HatsDecideModel") := ⟨⟨by decide, by decide⟩, xw334, Or.inl rfl⟩
theorem xf193 : xFok (12, 123, 12, 37, "HatsDecideModel") := ⟨⟨by decide, by decide⟩, xw335, Or.inl rfl⟩
theorem xf194 : xFok (12, 126, 12, 38, "HatsDecideModel") := ⟨⟨by decide, by decide⟩, xw336, Or.inl rfl⟩
theorem xf195 : xFok (12, 129, 12, 39, "HatsDecideModel") := ⟨⟨by decide, by decide⟩, xw337, Or.inl rfl⟩
theorem xf196 : xFok (12, 132, 12, 40, "HatsDecideModel") := ⟨⟨by decide, by decide⟩, xw338, Or.inl rfl⟩
theorem xf197 : xFok (12, 135, 12, 41, "HatsDecideModel") := ⟨⟨by decide, by decide⟩, xw339, Or.inl rfl⟩
theorem xf198 : xFok (12, 138, 12, 42, "HatsDecideModel") := ⟨⟨by decide, by decide⟩, xw340, Or.inl rfl⟩
theorem xf199 : xFok (12, 141, 12, 43, "HatsDecideModel") := ⟨⟨by decide, by decide⟩, xw341, Or.inl rfl⟩
theorem xf200 : xFok (12, 144, 12, 44, "HatsDecideModel") := ⟨⟨by decide, by decide⟩, xw342, Or.inl rfl⟩
theorem xf201 : xFok (12, 147, 12, 45, "HatsDecideModel") := ⟨⟨by decide, by decide⟩, xw343, Or.inl rfl⟩
theorem xf202 : xFok (12, 150, 12, 46, "HatsDecideModel") := ⟨⟨by decide, by decide⟩, xw344, Or.inl rfl⟩
theorem xf203 : xFok (12, 153, 12, 47, "HatsDecideModel") := ⟨⟨by decide, by decide⟩, xw345, Or.inl rfl⟩
theorem xf204 : xFok (12, 156, 12, 48, "HatsDecideModel") := ⟨⟨by decide, by decide⟩, xw346, Or.inl rfl⟩
theorem xf205 : xFok (12, 159, 12, 49, "HatsDecideModel") := ⟨⟨by decide, by decide⟩, xw347, Or.inl rfl⟩
theorem xf206 : xFok (12, 162, 12, 50, "HatsDecideModel") := ⟨⟨by decide, by decide⟩, xw348, Or.inl rfl⟩
theorem xf207 : xFok (12, 166, 12, 51, "HatsDecideModel") := ⟨⟨by decide, by decide⟩, xw349, Or.inl rfl⟩
theorem xf208 : xFok (12, 169, 12, 52, "HatsDecideModel") := ⟨⟨by decide, by decide⟩, xw350, Or.inl rfl⟩
theorem xf209 : xFok (12, 172, 12, 53, "HatsDecideModel") := ⟨⟨by decide, by decide⟩, xw351, Or.inl rfl⟩
theorem xf210 : xFok (12, 175, 12, 54, "HatsDecideModel") := ⟨⟨by decide, by decide⟩, xw352, Or.inl rfl⟩
theorem xf211 : xFok (12, 178, 12, 55, "HatsDecideModel") := ⟨⟨by decide, by decide⟩, xw353, Or.inl rfl⟩
theorem xf212 : xFok (12, 181, 12, 56, "HatsDecideModel") := ⟨⟨by decide, by decide⟩, xw354, Or.inl rfl⟩
theorem xf213 : xFok (12, 184, 12, 57, "HatsDecideModel") := ⟨⟨by decide, by decide⟩, xw355, Or.inl rfl⟩
theorem xf214 : xFok (12, 187, 12, 58, "HatsDecideModel") := ⟨⟨by decide, by decide⟩, xw356, Or.inl rfl⟩
theorem xf215 : xFok (12, 190, 12, 59, "HatsDecideModel") := ⟨⟨by decide, by decide⟩, xw357, Or.inl rfl⟩
theorem xf216 : xFok (12, 193, 12, 60, "HatsDecideModel") := ⟨⟨by decide, by decide⟩, xw358, Or.inl rfl⟩
theorem xf217 : xFok (12, 196, 12, 61, "HatsDecideModel") := ⟨⟨by decide, by decide⟩, xw359, Or.inl rfl⟩
theorem xf218 : xFok (12, 199, 12, 62, "HatsDecideModel") := ⟨⟨by decide, by decide⟩, xw360, Or.inl rfl⟩
theorem xf219 : xFok (12, 202, 12, 63, "HatsDecideModel") := ⟨⟨by decide, by decide⟩, xw361, Or.inl rfl⟩
theorem xf220 : xFok (12, 205, 12, 64, "HatsDecideModel") := ⟨⟨by decide, by decide⟩, xw362, Or.inl rfl⟩
theorem xf221 : xFok (12, 208, 12, 65, "HatsDecideModel") := ⟨⟨by decide, by decide⟩, xw363, Or.inl rfl⟩
theorem xf222 : xFok (12, 211, 12, 66, "HatsDecideModel") := ⟨⟨by decide, by decide⟩, xw364, Or.inl rfl⟩
theorem xf223 : xFok (12, 214, 12, 67, "HatsDecideModel") := ⟨⟨by decide, by decide⟩, xw365, Or.inl rfl⟩
theorem xf224 : xFok (12, 217, 12, 68, "HatsDecideModel") := ⟨⟨by decide, by decide⟩, xw366, Or.inl rfl⟩
theorem xf225 : xFok (12, 220, 12, 69, "HatsDecideModel") := ⟨⟨by decide, by decide⟩, xw367, Or.inl rfl⟩
theorem xf226 : xFok (12, 223, 12, 70, "HatsDecideModel") := ⟨⟨by decide, by decide⟩, xw368, Or.inl rfl⟩
theorem xf227 : xFok (12, 226, 12, 71, "HatsDecideModel") := ⟨⟨by decide, by decide⟩, xw369, Or.inl rfl⟩
theorem xf228 : xFok (12, 229, 12, 72, "HatsDecideModel") := ⟨⟨by decide, by decide⟩, xw370, Or.inl rfl⟩
theorem xf229 : xFok (12, 232, 12, 73, "HatsDecideModel") := ⟨⟨by decide, by decide⟩, xw371, Or.inl rfl⟩
theorem xf230 : xFok (12, 235, 12, 74, "HatsDecideModel") := ⟨⟨by decide, by decide⟩, xw372, Or.inl rfl⟩
theorem xf231 : xFok (12, 238, 12, 75, "HatsDecideModel") := ⟨⟨by decide, by decide⟩, xw373, Or.inl rfl⟩
theorem xf232 : xFok (12, 241, 12, 76, "HatsDecideModel") := ⟨⟨by decide, by decide⟩, xw374, Or.inl rfl⟩
theorem xf233 : xFok (12, 245, 12, 77, "HatsDecideModel") := ⟨⟨by decide, by decide⟩, xw375, Or.inl rfl⟩
def xFt_0 : List xFe := [(3, 9, 3, 0, "HatsDecide$Scene"), (11, 89, 3, 0, "HatsDecide$Scene"), (3, 15, 3, 1, "HatsDecide$Scene"), (11, 92, 3, 1, "HatsDecide$Scene"), (3, 19, 3, 2, "HatsDecide$Scene"), (11, 95, 3, 2, "HatsDecide$Scene"), (3, 22, 3, 3, "HatsDecide$Scene"), (11, 98, 3, 3, "HatsDecide$Scene"), (3, 25, 3, 4, "HatsDecide$Scene"), (11, 108, 3, 4, "HatsDecide$Scene"), (3, 30, 3, 5, "HatsDecide$Scene"), (11, 111, 3, 5, "HatsDecide$Scene"), (3, 34, 3, 6, "HatsDecide$Scene"), (11, 119, 3, 6, "HatsDecide$Scene"), (3, 37, 3, 7, "HatsDecide$Scene"), (11, 122, 3, 7, "HatsDecide$Scene"), (3, 40, 3, 8, "HatsDecide$Scene"), (11, 125, 3, 8, "HatsDecide$Scene"), (3, 43, 3, 9, "HatsDecide$Scene"), (11, 190, 3, 9, "HatsDecide$Scene"), (3, 46, 3, 10, "HatsDecide$Scene"), (11, 200, 3, 10, "HatsDecide$Scene"), (3, 49, 3, 11, "HatsDecide$Scene"), (11, 251, 3, 11, "HatsDecide$Scene"), (3, 52, 3, 12, "HatsDecide$Scene"), (11, 254, 3, 12, "HatsDecide$Scene"), (3, 55, 3, 13, "HatsDecide$Scene"), (11, 257, 3, 13, "HatsDecide$Scene"), (3, 58, 3, 14, "HatsDecide$Scene"), (11, 281, 3, 14, "HatsDecide$Scene"), (3, 61, 3, 15, "HatsDecide$Scene"), (11, 284, 3, 15, "HatsDecide$Scene")]
theorem xFt_k0 : ∀ e ∈ xFt_0, xFok e := List.forall_mem_cons.mpr ⟨xf0, List.forall_mem_cons.mpr ⟨xf1, List.forall_mem_cons.mpr ⟨xf2, List.forall_mem_cons.mpr ⟨xf3, List.forall_mem_cons.mpr ⟨xf4, List.forall_mem_cons.mpr ⟨xf5, List.forall_mem_cons.mpr ⟨xf6, List.forall_mem_cons.mpr ⟨xf7, List.forall_mem_cons.mpr ⟨xf8, List.forall_mem_cons.mpr ⟨xf9, List.forall_mem_cons.mpr ⟨xf10, List.forall_mem_cons.mpr ⟨xf11, List.forall_mem_cons.mpr ⟨xf12, List.forall_mem_cons.mpr ⟨xf13, List.forall_mem_cons.mpr ⟨xf14, List.forall_mem_cons.mpr ⟨xf15, List.forall_mem_cons.mpr ⟨xf16, List.forall_mem_cons.mpr ⟨xf17, List.forall_mem_cons.mpr ⟨xf18, List.forall_mem_cons.mpr ⟨xf19, List.forall_mem_cons.mpr ⟨xf20, List.forall_mem_cons.mpr ⟨xf21, List.forall_mem_cons.mpr ⟨xf22, List.forall_mem_cons.mpr ⟨xf23, List.forall_mem_cons.mpr ⟨xf24, List.forall_mem_cons.mpr ⟨xf25, List.forall_mem_cons.mpr ⟨xf26, List.forall_mem_cons.mpr ⟨xf27, List.forall_mem_cons.mpr ⟨xf28, List.forall_mem_cons.mpr ⟨xf29, List.forall_mem_cons.mpr ⟨xf30, List.forall_mem_cons.mpr ⟨xf31, fun _ h => absurd h List.not_mem_nil⟩⟩⟩⟩⟩⟩⟩⟩⟩⟩⟩⟩⟩⟩⟩⟩⟩⟩⟩⟩⟩⟩⟩⟩⟩⟩⟩⟩⟩⟩⟩⟩
def xFt_1 : List xFe := [(3, 64, 3, 16, "HatsDecide$Scene"), (11, 287, 3, 16, "HatsDecide$Scene"), (3, 67, 3, 17, "HatsDecide$Scene"), (11, 187, 3, 17, "HatsDecide$Scene"), (8, 9, 8, 0, "HatsDecide$Town"), (8, 15, 8, 1, "HatsDecide$Town"), (8, 19, 8, 2, "HatsDecide$Town"), (8, 22, 8, 3, "HatsDecide$Town"), (8, 25, 8, 4, "HatsDecide$Town"), (8, 28, 8, 5, "HatsDecide$Town"), (8, 31, 8, 6, "HatsDecide$Town"), (8, 34, 8, 7, "HatsDecide$Town"), (8, 41, 8, 8, "HatsDecide$Town"), (8, 44, 8, 9, "HatsDecide$Town"), (8, 47, 8, 10, "HatsDecide$Town"), (8, 50, 8, 11, "HatsDecide$Town"), (9, 9, 9, 0, "HatsDecide$Trace"), (11, 322, 9, 0, "HatsDecide$Trace"), (9, 15, 9, 1, "HatsDecide$Trace"), (11, 319, 9, 1, "HatsDecide$Trace"), (5, 11, 5, 0, "HatsDecide$Tape"), (11, 293, 5, 0, "HatsDecide$Tape"), (5, 15, 5, 1, "HatsDecide$Tape"), (5, 18, 5, 2, "HatsDecide$Tape"), (11, 299, 5, 2, "HatsDecide$Tape"), (11, 14, 11, 0, "HatsDecide"), (11, 18, 11, 1, "HatsDecide"), (11, 21, 11, 2, "HatsDecide"), (11, 25, 11, 3, "HatsDecide"), (11, 29, 11, 4, "HatsDecide"), (11, 35, 11, 5, "HatsDecide"), (11, 40, 11, 6, "HatsDecide")]
theorem xFt_k1 : ∀ e ∈ xFt_1, xFok e := List.forall_mem_cons.mpr ⟨xf32, List.forall_mem_cons.mpr ⟨xf33, List.forall_mem_cons.mpr ⟨xf34, List.forall_mem_cons.mpr ⟨xf35, List.forall_mem_cons.mpr ⟨xf36, List.forall_mem_cons.mpr ⟨xf37, List.forall_mem_cons.mpr ⟨xf38, List.forall_mem_cons.mpr ⟨xf39, List.forall_mem_cons.mpr ⟨xf40, List.forall_mem_cons.mpr ⟨xf41, List.forall_mem_cons.mpr ⟨xf42, List.forall_mem_cons.mpr ⟨xf43, List.forall_mem_cons.mpr ⟨xf44, List.forall_mem_cons.mpr ⟨xf45, List.forall_mem_cons.mpr ⟨xf46, List.forall_mem_cons.mpr ⟨xf47, List.forall_mem_cons.mpr ⟨xf48, List.forall_mem_cons.mpr ⟨xf49, List.forall_mem_cons.mpr ⟨xf50, List.forall_mem_cons.mpr ⟨xf51, List.forall_mem_cons.mpr ⟨xf52, List.forall_mem_cons.mpr ⟨xf53, List.forall_mem_cons.mpr ⟨xf54, List.forall_mem_cons.mpr ⟨xf55, List.forall_mem_cons.mpr ⟨xf56, List.forall_mem_cons.mpr ⟨xf57, List.forall_mem_cons.mpr ⟨xf58, List.forall_mem_cons.mpr ⟨xf59, List.forall_mem_cons.mpr ⟨xf60, List.forall_mem_cons.mpr ⟨xf61, List.forall_mem_cons.mpr ⟨xf62, List.forall_mem_cons.mpr ⟨xf63, fun _ h => absurd h List.not_mem_nil⟩⟩⟩⟩⟩⟩⟩⟩⟩⟩⟩⟩⟩⟩⟩⟩⟩⟩⟩⟩⟩⟩⟩⟩⟩⟩⟩⟩⟩⟩⟩⟩
def xFt_2 : List xFe := [(11, 44, 11, 7, "HatsDecide"), (11, 50, 11, 8, "HatsDecide"), (11, 56, 11, 9, "HatsDecide"), (11, 68, 11, 10, "HatsDecide"), (11, 72, 11, 11, "HatsDecide"), (11, 75, 11, 12, "HatsDecide"), (11, 78, 11, 13, "HatsDecide"), (11, 81, 11, 14, "HatsDecide"), (2, 7, 0, 0, "HatsDecide$Hat"), (2, 7, 1, 0, "HatsDecide$Hat"), (2, 7, 2, 0, "HatsDecide$Hat"), (2, 7, 4, 0, "HatsDecide$Hat"), (2, 7, 6, 0, "HatsDecide$Hat"), (2, 7, 7, 0, "HatsDecide$Hat"), (2, 7, 10, 0, "HatsDecide$Hat"), (11, 154, 0, 0, "HatsDecide$Hat"), (11, 154, 1, 0, "HatsDecide$Hat"), (11, 154, 2, 0, "HatsDecide$Hat"), (11, 154, 4, 0, "HatsDecide$Hat"), (11, 154, 6, 0, "HatsDecide$Hat"), (11, 154, 7, 0, "HatsDecide$Hat"), (11, 154, 10, 0, "HatsDecide$Hat"), (2, 13, 0, 1, "HatsDecide$Hat"), (2, 13, 1, 1, "HatsDecide$Hat"), (2, 13, 2, 1, "HatsDecide$Hat"), (2, 13, 4, 1, "HatsDecide$Hat"), (2, 13, 6, 1, "HatsDecide$Hat"), (2, 13, 7, 1, "HatsDecide$Hat"), (2, 13, 10, 1, "HatsDecide$Hat"), (1, 33, 1, 1, "HatsDecide$Frayed"), (2, 16, 0, 2, "HatsDecide$Hat"), (2, 16, 1, 2, "HatsDecide$Hat")]
theorem xFt_k2 : ∀ e ∈ xFt_2, xFok e := List.forall_mem_cons.mpr ⟨xf64, List.forall_mem_cons.mpr ⟨xf65, List.forall_mem_cons.mpr ⟨xf66, List.forall_mem_cons.mpr ⟨xf67, List.forall_mem_cons.mpr ⟨xf68, List.forall_mem_cons.mpr ⟨xf69, List.forall_mem_cons.mpr ⟨xf70, List.forall_mem_cons.mpr ⟨xf71, List.forall_mem_cons.mpr ⟨xf72, List.forall_mem_cons.mpr ⟨xf73, List.forall_mem_cons.mpr ⟨xf74, List.forall_mem_cons.mpr ⟨xf75, List.forall_mem_cons.mpr ⟨xf76, List.forall_mem_cons.mpr ⟨xf77, List.forall_mem_cons.mpr ⟨xf78, List.forall_mem_cons.mpr ⟨xf79, List.forall_mem_cons.mpr ⟨xf80, List.forall_mem_cons.mpr ⟨xf81, List.forall_mem_cons.mpr ⟨xf82, List.forall_mem_cons.mpr ⟨xf83, List.forall_mem_cons.mpr ⟨xf84, List.forall_mem_cons.mpr ⟨xf85, List.forall_mem_cons.mpr ⟨xf86, List.forall_mem_cons.mpr ⟨xf87, List.forall_mem_cons.mpr ⟨xf88, List.forall_mem_cons.mpr ⟨xf89, List.forall_mem_cons.mpr ⟨xf90, List.forall_mem_cons.mpr ⟨xf91, List.forall_mem_cons.mpr ⟨xf92, List.forall_mem_cons.mpr ⟨xf93, List.forall_mem_cons.mpr ⟨xf94, List.forall_mem_cons.mpr ⟨xf95, fun _ h => absurd h List.not_mem_nil⟩⟩⟩⟩⟩⟩⟩⟩⟩⟩⟩⟩⟩⟩⟩⟩⟩⟩⟩⟩⟩⟩⟩⟩⟩⟩⟩⟩⟩⟩⟩⟩
def xFt_3 : List xFe := [(2, 16, 2, 2, "HatsDecide$Hat"), (2, 16, 4, 2, "HatsDecide$Hat"), (2, 16, 6, 2, "HatsDecide$Hat"), (2, 16, 7, 2, "HatsDecide$Hat"), (2, 16, 10, 2, "HatsDecide$Hat"), (0, 11, 0, 2, "HatsDecide$Crown"), (0, 11, 7, 2, "HatsDecide$Crown"), (1, 11, 1, 2, "HatsDecide$Frayed"), (7, 30, 7, 2, "HatsDecide$Told"), (11, 157, 0, 2, "HatsDecide$Hat"), (11, 157, 1, 2, "HatsDecide$Hat"), (11, 157, 2, 2, "HatsDecide$Hat"), (11, 157, 4, 2, "HatsDecide$Hat"), (11, 157, 6, 2, "HatsDecide$Hat"), (11, 157, 7, 2, "HatsDecide$Hat"), (11, 157, 10, 2, "HatsDecide$Hat"), (2, 19, 0, 3, "HatsDecide$Hat"), (2, 19, 1, 3, "HatsDecide$Hat"), (2, 19, 2, 3, "HatsDecide$Hat"), (2, 19, 4, 3, "HatsDecide$Hat"), (2, 19, 6, 3, "HatsDecide$Hat"), (2, 19, 7, 3, "HatsDecide$Hat"), (2, 19, 10, 3, "HatsDecide$Hat"), (11, 160, 0, 3, "HatsDecide$Hat"), (11, 160, 1, 3, "HatsDecide$Hat"), (11, 160, 2, 3, "HatsDecide$Hat"), (11, 160, 4, 3, "HatsDecide$Hat"), (11, 160, 6, 3, "HatsDecide$Hat"), (11, 160, 7, 3, "HatsDecide$Hat"), (11, 160, 10, 3, "HatsDecide$Hat"), (2, 22, 0, 4, "HatsDecide$Hat"), (2, 22, 1, 4, "HatsDecide$Hat")]
theorem xFt_k3 : ∀ e ∈ xFt_3, xFok e := List.forall_mem_cons.mpr ⟨xf96, List.forall_mem_cons.mpr ⟨xf97, List.forall_mem_cons.mpr ⟨xf98, List.forall_mem_cons.mpr ⟨xf99, List.forall_mem_cons.mpr ⟨xf100, List.forall_mem_cons.mpr ⟨xf101, List.forall_mem_cons.mpr ⟨xf102, List.forall_mem_cons.mpr ⟨xf103, List.forall_mem_cons.mpr ⟨xf104, List.forall_mem_cons.mpr ⟨xf105, List.forall_mem_cons.mpr ⟨xf106, List.forall_mem_cons.mpr ⟨xf107, List.forall_mem_cons.mpr ⟨xf108, List.forall_mem_cons.mpr ⟨xf109, List.forall_mem_cons.mpr ⟨xf110, List.forall_mem_cons.mpr ⟨xf111, List.forall_mem_cons.mpr ⟨xf112, List.forall_mem_cons.mpr ⟨xf113, List.forall_mem_cons.mpr ⟨xf114, List.forall_mem_cons.mpr ⟨xf115, List.forall_mem_cons.mpr ⟨xf116, List.forall_mem_cons.mpr ⟨xf117, List.forall_mem_cons.mpr ⟨xf118, List.forall_mem_cons.mpr ⟨xf119, List.forall_mem_cons.mpr ⟨xf120, List.forall_mem_cons.mpr ⟨xf121, List.forall_mem_cons.mpr ⟨xf122, List.forall_mem_cons.mpr ⟨xf123, List.forall_mem_cons.mpr ⟨xf124, List.forall_mem_cons.mpr ⟨xf125, List.forall_mem_cons.mpr ⟨xf126, List.forall_mem_cons.mpr ⟨xf127, fun _ h => absurd h List.not_mem_nil⟩⟩⟩⟩⟩⟩⟩⟩⟩⟩⟩⟩⟩⟩⟩⟩⟩⟩⟩⟩⟩⟩⟩⟩⟩⟩⟩⟩⟩⟩⟩⟩
def xFt_4 : List xFe := [(2, 22, 2, 4, "HatsDecide$Hat"), (2, 22, 4, 4, "HatsDecide$Hat"), (2, 22, 6, 4, "HatsDecide$Hat"), (2, 22, 7, 4, "HatsDecide$Hat"), (2, 22, 10, 4, "HatsDecide$Hat"), (11, 163, 0, 4, "HatsDecide$Hat"), (11, 163, 1, 4, "HatsDecide$Hat"), (11, 163, 2, 4, "HatsDecide$Hat"), (11, 163, 4, 4, "HatsDecide$Hat"), (11, 163, 6, 4, "HatsDecide$Hat"), (11, 163, 7, 4, "HatsDecide$Hat"), (11, 163, 10, 4, "HatsDecide$Hat"), (2, 25, 0, 5, "HatsDecide$Hat"), (2, 25, 1, 5, "HatsDecide$Hat"), (2, 25, 2, 5, "HatsDecide$Hat"), (2, 25, 4, 5, "HatsDecide$Hat"), (2, 25, 6, 5, "HatsDecide$Hat"), (2, 25, 7, 5, "HatsDecide$Hat"), (2, 25, 10, 5, "HatsDecide$Hat"), (10, 17, 10, 5, "HatsDecide$Worn"), (10, 17, 1, 5, "HatsDecide$Worn"), (4, 11, 4, 5, "HatsDecide$Stiff"), (6, 17, 6, 5, "HatsDecide$Tight"), (6, 17, 4, 5, "HatsDecide$Tight"), (7, 11, 7, 5, "HatsDecide$Told"), (0, 17, 0, 5, "HatsDecide$Crown"), (0, 17, 7, 5, "HatsDecide$Crown"), (1, 23, 1, 5, "HatsDecide$Frayed"), (12, 7, 12, 0, "HatsDecideModel"), (12, 13, 12, 1, "HatsDecideModel"), (12, 16, 12, 2, "HatsDecideModel"), (12, 19, 12, 3, "HatsDecideModel")]
theorem xFt_k4 : ∀ e ∈ xFt_4, xFok e := List.forall_mem_cons.mpr ⟨xf128, List.forall_mem_cons.mpr ⟨xf129, List.forall_mem_cons.mpr ⟨xf130, List.forall_mem_cons.mpr ⟨xf131, List.forall_mem_cons.mpr ⟨xf132, List.forall_mem_cons.mpr ⟨xf133, List.forall_mem_cons.mpr ⟨xf134, List.forall_mem_cons.mpr ⟨xf135, List.forall_mem_cons.mpr ⟨xf136, List.forall_mem_cons.mpr ⟨xf137, List.forall_mem_cons.mpr ⟨xf138, List.forall_mem_cons.mpr ⟨xf139, List.forall_mem_cons.mpr ⟨xf140, List.forall_mem_cons.mpr ⟨xf141, List.forall_mem_cons.mpr ⟨xf142, List.forall_mem_cons.mpr ⟨xf143, List.forall_mem_cons.mpr ⟨xf144, List.forall_mem_cons.mpr ⟨xf145, List.forall_mem_cons.mpr ⟨xf146, List.forall_mem_cons.mpr ⟨xf147, List.forall_mem_cons.mpr ⟨xf148, List.forall_mem_cons.mpr ⟨xf149, List.forall_mem_cons.mpr ⟨xf150, List.forall_mem_cons.mpr ⟨xf151, List.forall_mem_cons.mpr ⟨xf152, List.forall_mem_cons.mpr ⟨xf153, List.forall_mem_cons.mpr ⟨xf154, List.forall_mem_cons.mpr ⟨xf155, List.forall_mem_cons.mpr ⟨xf156, List.forall_mem_cons.mpr ⟨xf157, List.forall_mem_cons.mpr ⟨xf158, List.forall_mem_cons.mpr ⟨xf159, fun _ h => absurd h List.not_mem_nil⟩⟩⟩⟩⟩⟩⟩⟩⟩⟩⟩⟩⟩⟩⟩⟩⟩⟩⟩⟩⟩⟩⟩⟩⟩⟩⟩⟩⟩⟩⟩⟩
def xFt_5 : List xFe := [(12, 23, 12, 4, "HatsDecideModel"), (12, 26, 12, 5, "HatsDecideModel"), (12, 29, 12, 6, "HatsDecideModel"), (12, 32, 12, 7, "HatsDecideModel"), (12, 35, 12, 8, "HatsDecideModel"), (12, 38, 12, 9, "HatsDecideModel"), (12, 41, 12, 10, "HatsDecideModel"), (12, 44, 12, 11, "HatsDecideModel"), (12, 47, 12, 12, "HatsDecideModel"), (12, 50, 12, 13, "HatsDecideModel"), (12, 53, 12, 14, "HatsDecideModel"), (12, 56, 12, 15, "HatsDecideModel"), (12, 59, 12, 16, "HatsDecideModel"), (12, 62, 12, 17, "HatsDecideModel"), (12, 65, 12, 18, "HatsDecideModel"), (12, 68, 12, 19, "HatsDecideModel"), (12, 71, 12, 20, "HatsDecideModel"), (12, 74, 12, 21, "HatsDecideModel"), (12, 77, 12, 22, "HatsDecideModel"), (12, 80, 12, 23, "HatsDecideModel"), (12, 83, 12, 24, "HatsDecideModel"), (12, 86, 12, 25, "HatsDecideModel"), (12, 89, 12, 26, "HatsDecideModel"), (12, 92, 12, 27, "HatsDecideModel"), (12, 95, 12, 28, "HatsDecideModel"), (12, 98, 12, 29, "HatsDecideModel"), (12, 101, 12, 30, "HatsDecideModel"), (12, 104, 12, 31, "HatsDecideModel"), (12, 107, 12, 32, "HatsDecideModel"), (12, 111, 12, 33, "HatsDecideModel"), (12, 114, 12, 34, "HatsDecideModel"), (12, 117, 12, 35, "HatsDecideModel")]
theorem xFt_k5 : ∀ e ∈ xFt_5, xFok e := List.forall_mem_cons.mpr ⟨xf160, List.forall_mem_cons.mpr ⟨xf161, List.forall_mem_cons.mpr ⟨xf162, List.forall_mem_cons.mpr ⟨xf163, List.forall_mem_cons.mpr ⟨xf164, List.forall_mem_cons.mpr ⟨xf165, List.forall_mem_cons.mpr ⟨xf166, List.forall_mem_cons.mpr ⟨xf167, List.forall_mem_cons.mpr ⟨xf168, List.forall_mem_cons.mpr ⟨xf169, List.forall_mem_cons.mpr ⟨xf170, List.forall_mem_cons.mpr ⟨xf171, List.forall_mem_cons.mpr ⟨xf172, List.forall_mem_cons.mpr ⟨xf173, List.forall_mem_cons.mpr ⟨xf174, List.forall_mem_cons.mpr ⟨xf175, List.forall_mem_cons.mpr ⟨xf176, List.forall_mem_cons.mpr ⟨xf177, List.forall_mem_cons.mpr ⟨xf178, List.forall_mem_cons.mpr ⟨xf179, List.forall_mem_cons.mpr ⟨xf180, List.forall_mem_cons.mpr ⟨xf181, List.forall_mem_cons.mpr ⟨xf182, List.forall_mem_cons.mpr ⟨xf183, List.forall_mem_cons.mpr ⟨xf184, List.forall_mem_cons.mpr ⟨xf185, List.forall_mem_cons.mpr ⟨xf186, List.forall_mem_cons.mpr ⟨xf187, List.forall_mem_cons.mpr ⟨xf188, List.forall_mem_cons.mpr ⟨xf189, List.forall_mem_cons.mpr ⟨xf190, List.forall_mem_cons.mpr ⟨xf191, fun _ h => absurd h List.not_mem_nil⟩⟩⟩⟩⟩⟩⟩⟩⟩⟩⟩⟩⟩⟩⟩⟩⟩⟩⟩⟩⟩⟩⟩⟩⟩⟩⟩⟩⟩⟩⟩⟩
def xFt_6 : List xFe := [(12, 120, 12, 36, "HatsDecideModel"), (12, 123, 12, 37, "HatsDecideModel"), (12, 126, 12, 38, "HatsDecideModel"), (12, 129, 12, 39, "HatsDecideModel"), (12, 132, 12, 40, "HatsDecideModel"), (12, 135, 12, 41, "HatsDecideModel"), (12, 138, 12, 42, "HatsDecideModel"), (12, 141, 12, 43, "HatsDecideModel"), (12, 144, 12, 44, "HatsDecideModel"), (12, 147, 12, 45, "HatsDecideModel"), (12, 150, 12, 46, "HatsDecideModel"), (12, 153, 12, 47, "HatsDecideModel"), (12, 156, 12, 48, "HatsDecideModel"), (12, 159, 12, 49, "HatsDecideModel"), (12, 162, 12, 50, "HatsDecideModel"), (12, 166, 12, 51, "HatsDecideModel"), (12, 169, 12, 52, "HatsDecideModel"), (12, 172, 12, 53, "HatsDecideModel"), (12, 175, 12, 54, "HatsDecideModel"), (12, 178, 12, 55, "HatsDecideModel"), (12, 181, 12, 56, "HatsDecideModel"), (12, 184, 12, 57, "HatsDecideModel"), (12, 187, 12, 58, "HatsDecideModel"), (12, 190, 12, 59, "HatsDecideModel"), (12, 193, 12, 60, "HatsDecideModel"), (12, 196, 12, 61, "HatsDecideModel"), (12, 199, 12, 62, "HatsDecideModel"), (12, 202, 12, 63, "HatsDecideModel"), (12, 205, 12, 64, "HatsDecideModel"), (12, 208, 12, 65, "HatsDecideModel"), (12, 211, 12, 66, "HatsDecideModel"), (12, 214, 12, 67, "HatsDecideModel")]
theorem xFt_k6 : ∀ e ∈ xFt_6, xFok e := List.forall_mem_cons.mpr ⟨xf192, List.forall_mem_cons.mpr ⟨xf193, List.forall_mem_cons.mpr ⟨xf194, List.forall_mem_cons.mpr ⟨xf195, List.forall_mem_cons.mpr ⟨xf196, List.forall_mem_cons.mpr ⟨xf197, List.forall_mem_cons.mpr ⟨xf198, List.forall_mem_cons.mpr ⟨xf199, List.forall_mem_cons.mpr ⟨xf200, List.forall_mem_cons.mpr ⟨xf201, List.forall_mem_cons.mpr ⟨xf202, List.forall_mem_cons.mpr ⟨xf203, List.forall_mem_cons.mpr ⟨xf204, List.forall_mem_cons.mpr ⟨xf205, List.forall_mem_cons.mpr ⟨xf206, List.forall_mem_cons.mpr ⟨xf207, List.forall_mem_cons.mpr ⟨xf208, List.forall_mem_cons.mpr ⟨xf209, List.forall_mem_cons.mpr ⟨xf210, List.forall_mem_cons.mpr ⟨xf211, List.forall_mem_cons.mpr ⟨xf212, List.forall_mem_cons.mpr ⟨xf213, List.forall_mem_cons.mpr ⟨xf214, List.forall_mem_cons.mpr ⟨xf215, List.forall_mem_cons.mpr ⟨xf216, List.forall_mem_cons.mpr ⟨xf217, List.forall_mem_cons.mpr ⟨xf218, List.forall_mem_cons.mpr ⟨xf219, List.forall_mem_cons.mpr ⟨xf220, List.forall_mem_cons.mpr ⟨xf221, List.forall_mem_cons.mpr ⟨xf222, List.forall_mem_cons.mpr ⟨xf223, fun _ h => absurd h List.not_mem_nil⟩⟩⟩⟩⟩⟩⟩⟩⟩⟩⟩⟩⟩⟩⟩⟩⟩⟩⟩⟩⟩⟩⟩⟩⟩⟩⟩⟩⟩⟩⟩⟩
def xFt_7 : List xFe := [(12, 217, 12, 68, "HatsDecideModel"), (12, 220, 12, 69, "HatsDecideModel"), (12, 223, 12, 70, "HatsDecideModel"), (12, 226, 12, 71, "HatsDecideModel"), (12, 229, 12, 72, "HatsDecideModel"), (12, 232, 12, 73, "HatsDecideModel"), (12, 235, 12, 74, "HatsDecideModel"), (12, 238, 12, 75, "HatsDecideModel"), (12, 241, 12, 76, "HatsDecideModel"), (12, 245, 12, 77, "HatsDecideModel")]
theorem xFt_k7 : ∀ e ∈ xFt_7, xFok e := List.forall_mem_cons.mpr ⟨xf224, List.forall_mem_cons.mpr ⟨xf225, List.forall_mem_cons.mpr ⟨xf226, List.forall_mem_cons.mpr ⟨xf227, List.forall_mem_cons.mpr ⟨xf228, List.forall_mem_cons.mpr ⟨xf229, List.forall_mem_cons.mpr ⟨xf230, List.forall_mem_cons.mpr ⟨xf231, List.forall_mem_cons.mpr ⟨xf232, List.forall_mem_cons.mpr ⟨xf233, fun _ h => absurd h List.not_mem_nil⟩⟩⟩⟩⟩⟩⟩⟩⟩⟩
def xFt : List xFe := xFt_0 ++ (xFt_1 ++ (xFt_2 ++ (xFt_3 ++ (xFt_4 ++ (xFt_5 ++ (xFt_6 ++ (xFt_7)))))))
theorem xFt_ok : ∀ e ∈ xFt, xFok e := List.forall_mem_append.mpr ⟨xFt_k0, List.forall_mem_append.mpr ⟨xFt_k1, List.forall_mem_append.mpr ⟨xFt_k2, List.forall_mem_append.mpr ⟨xFt_k3, List.forall_mem_append.mpr ⟨xFt_k4, List.forall_mem_append.mpr ⟨xFt_k5, List.forall_mem_append.mpr ⟨xFt_k6, xFt_k7⟩⟩⟩⟩⟩⟩⟩
abbrev xMe : Type := Nat × MethodName × ByteArray × Nat × Option FieldType
def xMok (e : xMe) : Prop := e.2.1.cls = xR e.1 ∧ plainName e.2.1.cls = true ∧ Cond.code e.2.1 e.2.2.1 e.2.2.2.1 e.2.2.2.2 ∈ xW ∧ Cond.initialized e.2.1.cls ∈ xW ∧ (e.2.1.cls ≠ "java/lang/invoke/MethodHandle" ∧ e.2.1.cls ≠ "java/lang/invoke/VarHandle") ∧ e.2.2.2.1 ≤ 80
theorem xpn0 : plainName "HatsDecide" = true := by decide +kernel
theorem xpn1 : plainName "HatsDecide$Crown" = true := by decide +kernel
theorem xpn2 : plainName "HatsDecide$Frayed" = true := by decide +kernel
theorem xpn3 : plainName "HatsDecide$Hat" = true := by decide +kernel
theorem xpn4 : plainName "HatsDecide$Scene" = true := by decide +kernel
theorem xpn5 : plainName "HatsDecide$Stiff" = true := by decide +kernel
theorem xpn6 : plainName "HatsDecide$Tape" = true := by decide +kernel
theorem xpn7 : plainName "HatsDecide$Tight" = true := by decide +kernel
theorem xpn8 : plainName "HatsDecide$Told" = true := by decide +kernel
theorem xpn9 : plainName "HatsDecide$Town" = true := by decide +kernel
theorem xpn10 : plainName "HatsDecide$Trace" = true := by decide +kernel
theorem xpn11 : plainName "HatsDecide$Worn" = true := by decide +kernel
theorem xpn12 : plainName "HatsDecideModel" = true := by decide +kernel
theorem xpn13 : plainName "java/lang/Integer" = true := by decide +kernel
theorem xpn14 : plainName "java/lang/String" = true := by decide +kernel
theorem xpn15 : plainName "java/lang/StringLatin1" = true := by decide +kernel
theorem xpn16 : plainName "java/util/Arrays" = true := by decide +kernel
theorem xpn17 : plainName "jdk/internal/util/Preconditions" = true := by decide +kernel
theorem xw376 : Cond.code ⟨"HatsDecide$Crown", "<init>", "(IIIIILHatsDecide$Trace;)V"⟩ prog_2_method_1_code 7 (Option.none : Option Jvm.ClassFile.FieldType) ∈ xW := xin (xt2 (i := 101) rfl) rfl
theorem xm0 : xMok (0, yX0_init, cX0_init, 7, (Option.none : Option Jvm.ClassFile.FieldType)) := ⟨rfl, xpn1, xw376, xw7, xnh1, by decide⟩
theorem xw377 : Cond.code ⟨"HatsDecide$Crown", "deed", "(IIII)I"⟩ prog_2_method_2_code 5 (Option.some Jvm.ClassFile.FieldType.int) ∈ xW := xin (xt2 (i := 215) rfl) rfl
theorem xm1 : xMok (0, yX0_deed, cX0_deed, 5, (Option.some Jvm.ClassFile.FieldType.int)) := ⟨rfl, xpn1, xw377, xw7, xnh1, by decide⟩
theorem xw378 : Cond.code ⟨"HatsDecide$Crown", "tells", "(I)I"⟩ prog_2_method_3_code 2 (Option.some Jvm.ClassFile.FieldType.int) ∈ xW := xin (xt4 (i := 164) rfl) rfl
theorem xm2 : xMok (0, yX0_tells, cX0_tells, 2, (Option.some Jvm.ClassFile.FieldType.int)) := ⟨rfl, xpn1, xw378, xw7, xnh1, by decide⟩
theorem xw379 : Cond.code ⟨"HatsDecide$Frayed", "<init>", "(IIIIILHatsDecide$Trace;)V"⟩ prog_3_method_1_code 7 (Option.none : Option Jvm.ClassFile.FieldType) ∈ xW := xin (xt2 (i := 127) rfl) rfl
theorem xm3 : xMok (1, yX1_init, cX1_init, 7, (Option.none : Option Jvm.ClassFile.FieldType)) := ⟨rfl, xpn2, xw379, xw15, xnh2, by decide⟩
theorem xw380 : Cond.code ⟨"HatsDecide$Frayed", "deed", "(IIII)I"⟩ prog_3_method_2_code 5 (Option.some Jvm.ClassFile.FieldType.int) ∈ xW := xin (xt2 (i := 219) rfl) rfl
theorem xm4 : xMok (1, yX1_deed, cX1_deed, 5, (Option.some Jvm.ClassFile.FieldType.int)) := ⟨rfl, xpn2, xw380, xw15, xnh2, by decide⟩
theorem xw381 : Cond.code ⟨"HatsDecide$Frayed", "tells", "(I)I"⟩ prog_3_method_3_code 2 (Option.some Jvm.ClassFile.FieldType.int) ∈ xW := xin (xt4 (i := 172) rfl) rfl
theorem xm5 : xMok (1, yX1_tells, cX1_tells, 2, (Option.some Jvm.ClassFile.FieldType.int)) := ⟨rfl, xpn2, xw381, xw15, xnh2, by decide⟩
theorem xw382 : Cond.code ⟨"HatsDecide$Hat", "<init>", "(IIIIILHatsDecide$Trace;)V"⟩ prog_4_method_1_code 7 (Option.none : Option Jvm.ClassFile.FieldType) ∈ xW := xin (xt2 (i := 39) rfl) rfl
theorem xm6 : xMok (2, yX2_init, cX2_init, 7, (Option.none : Option Jvm.ClassFile.FieldType)) := ⟨rfl, xpn3, xw382, xw23, xnh3, by decide⟩
theorem xw383 : Cond.code ⟨"HatsDecide$Hat", "deed", "(IIII)I"⟩ prog_4_method_2_code 5 (Option.some Jvm.ClassFile.FieldType.int) ∈ xW := xin (xt3 (i := 2) rfl) rfl
theorem xm7 : xMok (2, yX2_deed, cX2_deed, 5, (Option.some Jvm.ClassFile.FieldType.int)) := ⟨rfl, xpn3, xw383, xw23, xnh3, by decide⟩
theorem xw384 : Cond.code ⟨"HatsDecide$Hat", "sits", "(I)I"⟩ prog_4_method_3_code 2 (Option.some Jvm.ClassFile.FieldType.int) ∈ xW := xin (xt4 (i := 132) rfl) rfl
theorem xm8 : xMok (2, yX2_sits, cX2_sits, 2, (Option.some Jvm.ClassFile.FieldType.int)) := ⟨rfl, xpn3, xw384, xw23, xnh3, by decide⟩
theorem xw385 : Cond.code ⟨"HatsDecide$Hat", "does", "(I)I"⟩ prog_4_method_4_code 2 (Option.some Jvm.ClassFile.FieldType.int) ∈ xW := xin (xt4 (i := 156) rfl) rfl
theorem xm9 : xMok (2, yX2_does, cX2_does, 2, (Option.some Jvm.ClassFile.FieldType.int)) := ⟨rfl, xpn3, xw385, xw23, xnh3, by decide⟩
theorem xw386 : Cond.code ⟨"HatsDecide$Hat", "tells", "(I)I"⟩ prog_4_method_5_code 2 (Option.some Jvm.ClassFile.FieldType.int) ∈ xW := xin (xt4 (i := 181) rfl) rfl
theorem xm10 : xMok (2, yX2_tells, cX2_tells, 2, (Option.some Jvm.ClassFile.FieldType.int)) := ⟨rfl, xpn3, xw386, xw23, xnh3, by decide⟩
theorem xw387 : Cond.code ⟨"HatsDecide$Scene", "<init>", "()V"⟩ prog_5_method_1_code 1 (Option.none : Option Jvm.ClassFile.FieldType) ∈ xW := xin (xt1 (i := 34) rfl) rfl
theorem xm11 : xMok (3, yX3_init, cX3_init, 1, (Option.none : Option Jvm.ClassFile.FieldType)) := ⟨rfl, xpn4, xw387, xw43, xnh4, by decide⟩
theorem xw388 : Cond.code ⟨"HatsDecide$Scene", "isHead", "(I)Z"⟩ prog_5_method_2_code 2 (Option.some Jvm.ClassFile.FieldType.boolean) ∈ xW := xin (xt2 (i := 177) rfl) rfl
theorem xm12 : xMok (3, yX3_isHead, cX3_isHead, 2, (Option.some Jvm.ClassFile.FieldType.boolean)) := ⟨rfl, xpn4, xw388, xw43, xnh4, by decide⟩
theorem xw389 : Cond.code ⟨"HatsDecide$Scene", "isHat", "(I)Z"⟩ prog_5_method_3_code 2 (Option.some Jvm.ClassFile.FieldType.boolean) ∈ xW := xin (xt2 (i := 166) rfl) rfl
theorem xm13 : xMok (3, yX3_isHat, cX3_isHat, 2, (Option.some Jvm.ClassFile.FieldType.boolean)) := ⟨rfl, xpn4, xw389, xw43, xnh4, by decide⟩
theorem xw390 : Cond.code ⟨"HatsDecide$Scene", "wearer", "(I)I"⟩ prog_5_method_4_code 3 (Option.some Jvm.ClassFile.FieldType.int) ∈ xW := xin (xt2 (i := 170) rfl) rfl
theorem xm14 : xMok (3, yX3_wearer, cX3_wearer, 3, (Option.some Jvm.ClassFile.FieldType.int)) := ⟨rfl, xpn4, xw390, xw43, xnh4, by decide⟩
theorem xw391 : Cond.code ⟨"HatsDecide$Scene", "become", "(LHatsDecide$Scene;)V"⟩ prog_5_method_5_code 3 (Option.none : Option Jvm.ClassFile.FieldType) ∈ xW := xin (xt4 (i := 86) rfl) rfl
theorem xm15 : xMok (3, yX3_become, cX3_become, 3, (Option.none : Option Jvm.ClassFile.FieldType)) := ⟨rfl, xpn4, xw391, xw43, xnh4, by decide⟩
theorem xw392 : Cond.code ⟨"HatsDecide$Scene", "copy", "([I[I)V"⟩ prog_5_method_6_code 2 (Option.none : Option Jvm.ClassFile.FieldType) ∈ xW := xin (xt4 (i := 89) rfl) rfl
theorem xm16 : xMok (3, yX3_copy, cX3_copy, 2, (Option.none : Option Jvm.ClassFile.FieldType)) := ⟨rfl, xpn4, xw392, xw43, xnh4, by decide⟩
theorem xw393 : Cond.code ⟨"HatsDecide$Stiff", "<init>", "(IIIIILHatsDecide$Trace;)V"⟩ prog_6_method_1_code 7 (Option.none : Option Jvm.ClassFile.FieldType) ∈ xW := xin (xt2 (i := 114) rfl) rfl
theorem xm17 : xMok (4, yX4_init, cX4_init, 7, (Option.none : Option Jvm.ClassFile.FieldType)) := ⟨rfl, xpn5, xw393, xw51, xnh5, by decide⟩
theorem xw394 : Cond.code ⟨"HatsDecide$Stiff", "deed", "(IIII)I"⟩ prog_6_method_2_code 5 (Option.some Jvm.ClassFile.FieldType.int) ∈ xW := xin (xt2 (i := 230) rfl) rfl
theorem xm18 : xMok (4, yX4_deed, cX4_deed, 5, (Option.some Jvm.ClassFile.FieldType.int)) := ⟨rfl, xpn5, xw394, xw51, xnh5, by decide⟩
theorem xw395 : Cond.code ⟨"HatsDecide$Stiff", "sits", "(I)I"⟩ prog_6_method_3_code 2 (Option.some Jvm.ClassFile.FieldType.int) ∈ xW := xin (xt4 (i := 119) rfl) rfl
theorem xm19 : xMok (4, yX4_sits, cX4_sits, 2, (Option.some Jvm.ClassFile.FieldType.int)) := ⟨rfl, xpn5, xw395, xw51, xnh5, by decide⟩
theorem xw396 : Cond.code ⟨"HatsDecide$Stiff", "does", "(I)I"⟩ prog_6_method_4_code 2 (Option.some Jvm.ClassFile.FieldType.int) ∈ xW := xin (xt4 (i := 142) rfl) rfl
theorem xm20 : xMok (4, yX4_does, cX4_does, 2, (Option.some Jvm.ClassFile.FieldType.int)) := ⟨rfl, xpn5, xw396, xw51, xnh5, by decide⟩
theorem xw397 : Cond.code ⟨"HatsDecide$Tape", "<init>", "()V"⟩ prog_7_method_1_code 1 (Option.none : Option Jvm.ClassFile.FieldType) ∈ xW := xin (xt1 (i := 190) rfl) rfl
theorem xm21 : xMok (5, yX5_init, cX5_init, 1, (Option.none : Option Jvm.ClassFile.FieldType)) := ⟨rfl, xpn6, xw397, xw56, xnh6, by decide⟩
theorem xw398 : Cond.code ⟨"HatsDecide$Tape", "begin", "(II)V"⟩ prog_7_method_2_code 3 (Option.none : Option Jvm.ClassFile.FieldType) ∈ xW := xin (xt4 (i := 205) rfl) rfl
theorem xm22 : xMok (5, yX5_begin, cX5_begin, 3, (Option.none : Option Jvm.ClassFile.FieldType)) := ⟨rfl, xpn6, xw398, xw56, xnh6, by decide⟩
theorem xw399 : Cond.code ⟨"HatsDecide$Tape", "spans", "(II)Z"⟩ prog_7_method_3_code 3 (Option.some Jvm.ClassFile.FieldType.boolean) ∈ xW := xin (xt4 (i := 78) rfl) rfl
theorem xm23 : xMok (5, yX5_spans, cX5_spans, 3, (Option.some Jvm.ClassFile.FieldType.boolean)) := ⟨rfl, xpn6, xw399, xw56, xnh6, by decide⟩
theorem xw400 : Cond.code ⟨"HatsDecide$Tape", "asItem", "(J)J"⟩ prog_7_method_4_code 3 (Option.some Jvm.ClassFile.FieldType.long) ∈ xW := xin (xt4 (i := 216) rfl) rfl
theorem xm24 : xMok (5, yX5_asItem, cX5_asItem, 3, (Option.some Jvm.ClassFile.FieldType.long)) := ⟨rfl, xpn6, xw400, xw56, xnh6, by decide⟩
theorem xw401 : Cond.code ⟨"HatsDecide$Tight", "<init>", "(IIIIILHatsDecide$Trace;)V"⟩ prog_8_method_1_code 7 (Option.none : Option Jvm.ClassFile.FieldType) ∈ xW := xin (xt2 (i := 36) rfl) rfl
theorem xm25 : xMok (6, yX6_init, cX6_init, 7, (Option.none : Option Jvm.ClassFile.FieldType)) := ⟨rfl, xpn7, xw401, xw64, xnh7, by decide⟩
theorem xw402 : Cond.code ⟨"HatsDecide$Tight", "deed", "(IIII)I"⟩ prog_8_method_2_code 5 (Option.some Jvm.ClassFile.FieldType.int) ∈ xW := xin (xt2 (i := 233) rfl) rfl
theorem xm26 : xMok (6, yX6_deed, cX6_deed, 5, (Option.some Jvm.ClassFile.FieldType.int)) := ⟨rfl, xpn7, xw402, xw64, xnh7, by decide⟩
theorem xw403 : Cond.code ⟨"HatsDecide$Tight", "does", "(I)I"⟩ prog_8_method_3_code 2 (Option.some Jvm.ClassFile.FieldType.int) ∈ xW := xin (xt4 (i := 145) rfl) rfl
theorem xm27 : xMok (6, yX6_does, cX6_does, 2, (Option.some Jvm.ClassFile.FieldType.int)) := ⟨rfl, xpn7, xw403, xw64, xnh7, by decide⟩
theorem xw404 : Cond.code ⟨"HatsDecide$Told", "<init>", "(IIIIILHatsDecide$Trace;)V"⟩ prog_9_method_1_code 7 (Option.none : Option Jvm.ClassFile.FieldType) ∈ xW := xin (xt2 (i := 140) rfl) rfl
theorem xm28 : xMok (7, yX7_init, cX7_init, 7, (Option.none : Option Jvm.ClassFile.FieldType)) := ⟨rfl, xpn8, xw404, xw72, xnh8, by decide⟩
theorem xw405 : Cond.code ⟨"HatsDecide$Told", "deed", "(IIII)I"⟩ prog_9_method_2_code 5 (Option.some Jvm.ClassFile.FieldType.int) ∈ xW := xin (xt2 (i := 239) rfl) rfl
theorem xm29 : xMok (7, yX7_deed, cX7_deed, 5, (Option.some Jvm.ClassFile.FieldType.int)) := ⟨rfl, xpn8, xw405, xw72, xnh8, by decide⟩
theorem xw406 : Cond.code ⟨"HatsDecide$Told", "does", "(I)I"⟩ prog_9_method_3_code 2 (Option.some Jvm.ClassFile.FieldType.int) ∈ xW := xin (xt4 (i := 151) rfl) rfl
theorem xm30 : xMok (7, yX7_does, cX7_does, 2, (Option.some Jvm.ClassFile.FieldType.int)) := ⟨rfl, xpn8, xw406, xw72, xnh8, by decide⟩
theorem xw407 : Cond.code ⟨"HatsDecide$Told", "sits", "(I)I"⟩ prog_9_method_4_code 2 (Option.some Jvm.ClassFile.FieldType.int) ∈ xW := xin (xt4 (i := 127) rfl) rfl
theorem xm31 : xMok (7, yX7_sits, cX7_sits, 2, (Option.some Jvm.ClassFile.FieldType.int)) := ⟨rfl, xpn8, xw407, xw72, xnh8, by decide⟩
theorem xw408 : Cond.code ⟨"HatsDecide$Town", "<init>", "()V"⟩ prog_10_method_1_code 1 (Option.none : Option Jvm.ClassFile.FieldType) ∈ xW := xin (xt1 (i := 117) rfl) rfl
theorem xm32 : xMok (8, yX8_init, cX8_init, 1, (Option.none : Option Jvm.ClassFile.FieldType)) := ⟨rfl, xpn9, xw408, xw86, xnh9, by decide⟩
theorem xw409 : Cond.code ⟨"HatsDecide$Town", "moth", "()I"⟩ prog_10_method_2_code 3 (Option.some Jvm.ClassFile.FieldType.int) ∈ xW := xin (xt2 (i := 192) rfl) rfl
theorem xm33 : xMok (8, yX8_moth, cX8_moth, 3, (Option.some Jvm.ClassFile.FieldType.int)) := ⟨rfl, xpn9, xw409, xw86, xnh9, by decide⟩
theorem xw410 : Cond.code ⟨"HatsDecide$Town", "work", "(I)I"⟩ prog_10_method_3_code 4 (Option.some Jvm.ClassFile.FieldType.int) ∈ xW := xin (xt3 (i := 128) rfl) rfl
theorem xm34 : xMok (8, yX8_work, cX8_work, 4, (Option.some Jvm.ClassFile.FieldType.int)) := ⟨rfl, xpn9, xw410, xw86, xnh9, by decide⟩
theorem xw411 : Cond.code ⟨"HatsDecide$Town", "fits", "([I)I"⟩ prog_10_method_4_code 4 (Option.some Jvm.ClassFile.FieldType.int) ∈ xW := xin (xt2 (i := 196) rfl) rfl
theorem xm35 : xMok (8, yX8_fits, cX8_fits, 4, (Option.some Jvm.ClassFile.FieldType.int)) := ⟨rfl, xpn9, xw411, xw86, xnh9, by decide⟩
theorem xw412 : Cond.code ⟨"HatsDecide$Town", "holds", "(I[I)Z"⟩ prog_10_method_5_code 5 (Option.some Jvm.ClassFile.FieldType.boolean) ∈ xW := xin (xt2 (i := 200) rfl) rfl
theorem xm36 : xMok (8, yX8_holds, cX8_holds, 5, (Option.some Jvm.ClassFile.FieldType.boolean)) := ⟨rfl, xpn9, xw412, xw86, xnh9, by decide⟩
theorem xw413 : Cond.code ⟨"HatsDecide$Town", "codeOf", "(III)I"⟩ prog_10_method_6_code 3 (Option.some Jvm.ClassFile.FieldType.int) ∈ xW := xin (xt3 (i := 120) rfl) rfl
theorem xm37 : xMok (8, yX8_codeOf, cX8_codeOf, 3, (Option.some Jvm.ClassFile.FieldType.int)) := ⟨rfl, xpn9, xw413, xw86, xnh9, by decide⟩
theorem xw414 : Cond.code ⟨"HatsDecide$Town", "isTrue", "(I[I)Z"⟩ prog_10_method_7_code 4 (Option.some Jvm.ClassFile.FieldType.boolean) ∈ xW := xin (xt2 (i := 203) rfl) rfl
theorem xm38 : xMok (8, yX8_isTrue, cX8_isTrue, 4, (Option.some Jvm.ClassFile.FieldType.boolean)) := ⟨rfl, xpn9, xw414, xw86, xnh9, by decide⟩
theorem xw415 : Cond.code ⟨"HatsDecide$Town", "parse", "([BI)I"⟩ prog_10_method_8_code 4 (Option.some Jvm.ClassFile.FieldType.int) ∈ xW := xin (xt3 (i := 39) rfl) rfl
theorem xm39 : xMok (8, yX8_parse, cX8_parse, 4, (Option.some Jvm.ClassFile.FieldType.int)) := ⟨rfl, xpn9, xw415, xw86, xnh9, by decide⟩
theorem xw416 : Cond.code ⟨"HatsDecide$Town", "parseClause", "(I)V"⟩ prog_10_method_9_code 3 (Option.none : Option Jvm.ClassFile.FieldType) ∈ xW := xin (xt3 (i := 54) rfl) rfl
theorem xm40 : xMok (8, yX8_parseClause, cX8_parseClause, 3, (Option.none : Option Jvm.ClassFile.FieldType)) := ⟨rfl, xpn9, xw416, xw86, xnh9, by decide⟩
theorem xw417 : Cond.code ⟨"HatsDecide$Town", "parseEither", "(I)V"⟩ prog_10_method_10_code 4 (Option.none : Option Jvm.ClassFile.FieldType) ∈ xW := xin (xt3 (i := 108) rfl) rfl
theorem xm41 : xMok (8, yX8_parseEither, cX8_parseEither, 4, (Option.none : Option Jvm.ClassFile.FieldType)) := ⟨rfl, xpn9, xw417, xw86, xnh9, by decide⟩
theorem xw418 : Cond.code ⟨"HatsDecide$Town", "parsePart", "(I)V"⟩ prog_10_method_11_code 4 (Option.none : Option Jvm.ClassFile.FieldType) ∈ xW := xin (xt3 (i := 112) rfl) rfl
theorem xm42 : xMok (8, yX8_parsePart, cX8_parsePart, 4, (Option.none : Option Jvm.ClassFile.FieldType)) := ⟨rfl, xpn9, xw418, xw86, xnh9, by decide⟩
theorem xw419 : Cond.code ⟨"HatsDecide$Town", "parseNumber", "()I"⟩ prog_10_method_12_code 3 (Option.some Jvm.ClassFile.FieldType.int) ∈ xW := xin (xt3 (i := 102) rfl) rfl
theorem xm43 : xMok (8, yX8_parseNumber, cX8_parseNumber, 3, (Option.some Jvm.ClassFile.FieldType.int)) := ⟨rfl, xpn9, xw419, xw86, xnh9, by decide⟩
theorem xw420 : Cond.code ⟨"HatsDecide$Town", "addCode", "(I)V"⟩ prog_10_method_13_code 2 (Option.none : Option Jvm.ClassFile.FieldType) ∈ xW := xin (xt3 (i := 116) rfl) rfl
theorem xm44 : xMok (8, yX8_addCode, cX8_addCode, 2, (Option.none : Option Jvm.ClassFile.FieldType)) := ⟨rfl, xpn9, xw420, xw86, xnh9, by decide⟩
theorem xw421 : Cond.code ⟨"HatsDecide$Town", "isNext", "(C)Z"⟩ prog_10_method_14_code 2 (Option.some Jvm.ClassFile.FieldType.boolean) ∈ xW := xin (xt3 (i := 50) rfl) rfl
theorem xm45 : xMok (8, yX8_isNext, cX8_isNext, 2, (Option.some Jvm.ClassFile.FieldType.boolean)) := ⟨rfl, xpn9, xw421, xw86, xnh9, by decide⟩
theorem xw422 : Cond.code ⟨"HatsDecide$Town", "expect", "(C)V"⟩ prog_10_method_15_code 2 (Option.none : Option Jvm.ClassFile.FieldType) ∈ xW := xin (xt3 (i := 46) rfl) rfl
theorem xm46 : xMok (8, yX8_expect, cX8_expect, 2, (Option.none : Option Jvm.ClassFile.FieldType)) := ⟨rfl, xpn9, xw422, xw86, xnh9, by decide⟩
theorem xw423 : Cond.code ⟨"HatsDecide$Town", "oneOf", "(Ljava/lang/String;)I"⟩ prog_10_method_16_code 3 (Option.some Jvm.ClassFile.FieldType.int) ∈ xW := xin (xt3 (i := 59) rfl) rfl
theorem xm47 : xMok (8, yX8_oneOf, cX8_oneOf, 3, (Option.some Jvm.ClassFile.FieldType.int)) := ⟨rfl, xpn9, xw423, xw86, xnh9, by decide⟩
theorem xw424 : Cond.code ⟨"HatsDecide$Trace", "<init>", "()V"⟩ prog_11_method_1_code 1 (Option.none : Option Jvm.ClassFile.FieldType) ∈ xW := xin (xt1 (i := 163) rfl) rfl
theorem xm48 : xMok (9, yX9_init, cX9_init, 1, (Option.none : Option Jvm.ClassFile.FieldType)) := ⟨rfl, xpn10, xw424, xw90, xnh10, by decide⟩
theorem xw425 : Cond.code ⟨"HatsDecide$Trace", "clear", "()V"⟩ prog_11_method_2_code 1 (Option.none : Option Jvm.ClassFile.FieldType) ∈ xW := xin (xt4 (i := 103) rfl) rfl
theorem xm49 : xMok (9, yX9_clear, cX9_clear, 1, (Option.none : Option Jvm.ClassFile.FieldType)) := ⟨rfl, xpn10, xw425, xw90, xnh10, by decide⟩
theorem xw426 : Cond.code ⟨"HatsDecide$Trace", "note", "(I)V"⟩ prog_11_method_3_code 2 (Option.none : Option Jvm.ClassFile.FieldType) ∈ xW := xin (xt4 (i := 115) rfl) rfl
theorem xm50 : xMok (9, yX9_note, cX9_note, 2, (Option.none : Option Jvm.ClassFile.FieldType)) := ⟨rfl, xpn10, xw426, xw90, xnh10, by decide⟩
theorem xw427 : Cond.code ⟨"HatsDecide$Worn", "<init>", "(IIIIILHatsDecide$Trace;)V"⟩ prog_12_method_1_code 7 (Option.none : Option Jvm.ClassFile.FieldType) ∈ xW := xin (xt2 (i := 88) rfl) rfl
theorem xm51 : xMok (10, yX10_init, cX10_init, 7, (Option.none : Option Jvm.ClassFile.FieldType)) := ⟨rfl, xpn11, xw427, xw98, xnh11, by decide⟩
theorem xw428 : Cond.code ⟨"HatsDecide$Worn", "deed", "(IIII)I"⟩ prog_12_method_2_code 5 (Option.some Jvm.ClassFile.FieldType.int) ∈ xW := xin (xt2 (i := 222) rfl) rfl
theorem xm52 : xMok (10, yX10_deed, cX10_deed, 5, (Option.some Jvm.ClassFile.FieldType.int)) := ⟨rfl, xpn11, xw428, xw98, xnh11, by decide⟩
theorem xw429 : Cond.code ⟨"HatsDecide$Worn", "sits", "(I)I"⟩ prog_12_method_3_code 2 (Option.some Jvm.ClassFile.FieldType.int) ∈ xW := xin (xt4 (i := 111) rfl) rfl
theorem xm53 : xMok (10, yX10_sits, cX10_sits, 2, (Option.some Jvm.ClassFile.FieldType.int)) := ⟨rfl, xpn11, xw429, xw98, xnh11, by decide⟩
theorem xw430 : Cond.code ⟨"HatsDecide", "<init>", "()V"⟩ prog_1_method_1_code 2 (Option.none : Option Jvm.ClassFile.FieldType) ∈ xW := xin (xt1 (i := 26) rfl) rfl
theorem xm54 : xMok (11, yX11_init, cX11_init, 2, (Option.none : Option Jvm.ClassFile.FieldType)) := ⟨rfl, xpn0, xw430, xw115, xnh0, by decide⟩
theorem xw431 : Cond.code ⟨"HatsDecide", "head", "(I)I"⟩ prog_1_method_2_code 3 (Option.some Jvm.ClassFile.FieldType.int) ∈ xW := xin (xt2 (i := 14) rfl) rfl
theorem xm55 : xMok (11, yX11_head, cX11_head, 3, (Option.some Jvm.ClassFile.FieldType.int)) := ⟨rfl, xpn0, xw431, xw115, xnh0, by decide⟩
theorem xw432 : Cond.code ⟨"HatsDecide", "hat", "(IIIII)I"⟩ prog_1_method_3_code 8 (Option.some Jvm.ClassFile.FieldType.int) ∈ xW := xin (xt2 (i := 24) rfl) rfl
theorem xm56 : xMok (11, yX11_hat, cX11_hat, 8, (Option.some Jvm.ClassFile.FieldType.int)) := ⟨rfl, xpn0, xw432, xw115, xnh0, by decide⟩
theorem xw433 : Cond.code ⟨"HatsDecide", "newHat", "(IIIII)LHatsDecide$Hat;"⟩ prog_1_method_4_code 6 (Option.some (Jvm.ClassFile.FieldType.object "HatsDecide$Hat")) ∈ xW := xin (xt2 (i := 31) rfl) rfl
theorem xm57 : xMok (11, yX11_newHat, cX11_newHat, 6, (Option.some (Jvm.ClassFile.FieldType.object "HatsDecide$Hat"))) := ⟨rfl, xpn0, xw433, xw115, xnh0, by decide⟩
theorem xw434 : Cond.code ⟨"HatsDecide", "of", "(II)I"⟩ prog_1_method_5_code 4 (Option.some Jvm.ClassFile.FieldType.int) ∈ xW := xin (xt2 (i := 162) rfl) rfl
theorem xm58 : xMok (11, yX11_of, cX11_of, 4, (Option.some Jvm.ClassFile.FieldType.int)) := ⟨rfl, xpn0, xw434, xw115, xnh0, by decide⟩
theorem xw435 : Cond.code ⟨"HatsDecide", "at", "(II)I"⟩ prog_1_method_6_code 3 (Option.some Jvm.ClassFile.FieldType.int) ∈ xW := xin (xt3 (i := 7) rfl) rfl
theorem xm59 : xMok (11, yX11_at, cX11_at, 3, (Option.some Jvm.ClassFile.FieldType.int)) := ⟨rfl, xpn0, xw435, xw115, xnh0, by decide⟩
theorem xw436 : Cond.code ⟨"HatsDecide", "row", "(III)I"⟩ prog_1_method_7_code 6 (Option.some Jvm.ClassFile.FieldType.int) ∈ xW := xin (xt3 (i := 11) rfl) rfl
theorem xm60 : xMok (11, yX11_row, cX11_row, 6, (Option.some Jvm.ClassFile.FieldType.int)) := ⟨rfl, xpn0, xw436, xw115, xnh0, by decide⟩
theorem xw437 : Cond.code ⟨"HatsDecide", "put", "(II)I"⟩ prog_1_method_8_code 4 (Option.some Jvm.ClassFile.FieldType.int) ∈ xW := xin (xt3 (i := 15) rfl) rfl
theorem xm61 : xMok (11, yX11_put, cX11_put, 4, (Option.some Jvm.ClassFile.FieldType.int)) := ⟨rfl, xpn0, xw437, xw115, xnh0, by decide⟩
theorem xw438 : Cond.code ⟨"HatsDecide", "own", "(II)I"⟩ prog_1_method_9_code 4 (Option.some Jvm.ClassFile.FieldType.int) ∈ xW := xin (xt3 (i := 23) rfl) rfl
theorem xm62 : xMok (11, yX11_own, cX11_own, 4, (Option.some Jvm.ClassFile.FieldType.int)) := ⟨rfl, xpn0, xw438, xw115, xnh0, by decide⟩
theorem xw439 : Cond.code ⟨"HatsDecide", "skill", "(II)I"⟩ prog_1_method_10_code 4 (Option.some Jvm.ClassFile.FieldType.int) ∈ xW := xin (xt3 (i := 27) rfl) rfl
theorem xm63 : xMok (11, yX11_skill, cX11_skill, 4, (Option.some Jvm.ClassFile.FieldType.int)) := ⟨rfl, xpn0, xw439, xw115, xnh0, by decide⟩
theorem xw440 : Cond.code ⟨"HatsDecide", "feed", "(I)I"⟩ prog_1_method_11_code 2 (Option.some Jvm.ClassFile.FieldType.int) ∈ xW := xin (xt3 (i := 31) rfl) rfl
theorem xm64 : xMok (11, yX11_feed, cX11_feed, 2, (Option.some Jvm.ClassFile.FieldType.int)) := ⟨rfl, xpn0, xw440, xw115, xnh0, by decide⟩
theorem xw441 : Cond.code ⟨"HatsDecide", "town", "()I"⟩ prog_1_method_12_code 2 (Option.some Jvm.ClassFile.FieldType.int) ∈ xW := xin (xt3 (i := 35) rfl) rfl
theorem xm65 : xMok (11, yX11_town, cX11_town, 2, (Option.some Jvm.ClassFile.FieldType.int)) := ⟨rfl, xpn0, xw441, xw115, xnh0, by decide⟩
theorem xw442 : Cond.code ⟨"HatsDecide", "told", "(I)I"⟩ prog_1_method_13_code 2 (Option.some Jvm.ClassFile.FieldType.int) ∈ xW := xin (xt3 (i := 124) rfl) rfl
theorem xm66 : xMok (11, yX11_told, cX11_told, 2, (Option.some Jvm.ClassFile.FieldType.int)) := ⟨rfl, xpn0, xw442, xw115, xnh0, by decide⟩
theorem xw443 : Cond.code ⟨"HatsDecide", "day", "()I"⟩ prog_1_method_14_code 4 (Option.some Jvm.ClassFile.FieldType.int) ∈ xW := xin (xt3 (i := 132) rfl) rfl
theorem xm67 : xMok (11, yX11_day, cX11_day, 4, (Option.some Jvm.ClassFile.FieldType.int)) := ⟨rfl, xpn0, xw443, xw115, xnh0, by decide⟩
theorem xw444 : Cond.code ⟨"HatsDecide", "gust", "(I)I"⟩ prog_1_method_15_code 4 (Option.some Jvm.ClassFile.FieldType.int) ∈ xW := xin (xt3 (i := 142) rfl) rfl
theorem xm68 : xMok (11, yX11_gust, cX11_gust, 4, (Option.some Jvm.ClassFile.FieldType.int)) := ⟨rfl, xpn0, xw444, xw115, xnh0, by decide⟩
theorem xw445 : Cond.code ⟨"HatsDecide", "change", "(II)I"⟩ prog_1_method_16_code 4 (Option.some Jvm.ClassFile.FieldType.int) ∈ xW := xin (xt3 (i := 152) rfl) rfl
theorem xm69 : xMok (11, yX11_change, cX11_change, 4, (Option.some Jvm.ClassFile.FieldType.int)) := ⟨rfl, xpn0, xw445, xw115, xnh0, by decide⟩
theorem xw446 : Cond.code ⟨"HatsDecide", "today", "(I)I"⟩ prog_1_method_17_code 2 (Option.some Jvm.ClassFile.FieldType.int) ∈ xW := xin (xt3 (i := 156) rfl) rfl
theorem xm70 : xMok (11, yX11_today, cX11_today, 2, (Option.some Jvm.ClassFile.FieldType.int)) := ⟨rfl, xpn0, xw446, xw115, xnh0, by decide⟩
theorem xw447 : Cond.code ⟨"HatsDecide", "enough", "()I"⟩ prog_1_method_18_code 3 (Option.some Jvm.ClassFile.FieldType.int) ∈ xW := xin (xt3 (i := 160) rfl) rfl
theorem xm71 : xMok (11, yX11_enough, cX11_enough, 3, (Option.some Jvm.ClassFile.FieldType.int)) := ⟨rfl, xpn0, xw447, xw115, xnh0, by decide⟩
theorem xw448 : Cond.code ⟨"HatsDecide", "best", "(I)I"⟩ prog_1_method_19_code 6 (Option.some Jvm.ClassFile.FieldType.int) ∈ xW := xin (xt3 (i := 168) rfl) rfl
theorem xm72 : xMok (11, yX11_best, cX11_best, 6, (Option.some Jvm.ClassFile.FieldType.int)) := ⟨rfl, xpn0, xw448, xw115, xnh0, by decide⟩
theorem xw449 : Cond.code ⟨"HatsDecide", "on", "(II)I"⟩ prog_1_method_20_code 5 (Option.some Jvm.ClassFile.FieldType.int) ∈ xW := xin (xt3 (i := 172) rfl) rfl
theorem xm73 : xMok (11, yX11_on, cX11_on, 5, (Option.some Jvm.ClassFile.FieldType.int)) := ⟨rfl, xpn0, xw449, xw115, xnh0, by decide⟩
theorem xw450 : Cond.code ⟨"HatsDecide", "lasts", "(I)I"⟩ prog_1_method_21_code 3 (Option.some Jvm.ClassFile.FieldType.int) ∈ xW := xin (xt3 (i := 176) rfl) rfl
theorem xm74 : xMok (11, yX11_lasts, cX11_lasts, 3, (Option.some Jvm.ClassFile.FieldType.int)) := ⟨rfl, xpn0, xw450, xw115, xnh0, by decide⟩
theorem xw451 : Cond.code ⟨"HatsDecide", "by", "(I)I"⟩ prog_1_method_22_code 2 (Option.some Jvm.ClassFile.FieldType.int) ∈ xW := xin (xt3 (i := 180) rfl) rfl
theorem xm75 : xMok (11, yX11_by, cX11_by, 2, (Option.some Jvm.ClassFile.FieldType.int)) := ⟨rfl, xpn0, xw451, xw115, xnh0, by decide⟩
theorem xw452 : Cond.code ⟨"HatsDecide", "can", "()I"⟩ prog_1_method_23_code 3 (Option.some Jvm.ClassFile.FieldType.int) ∈ xW := xin (xt3 (i := 219) rfl) rfl
theorem xm76 : xMok (11, yX11_can, cX11_can, 3, (Option.some Jvm.ClassFile.FieldType.int)) := ⟨rfl, xpn0, xw452, xw115, xnh0, by decide⟩
theorem xw453 : Cond.code ⟨"HatsDecide", "back", "()I"⟩ prog_1_method_24_code 5 (Option.some Jvm.ClassFile.FieldType.int) ∈ xW := xin (xt3 (i := 227) rfl) rfl
theorem xm77 : xMok (11, yX11_back, cX11_back, 5, (Option.some Jvm.ClassFile.FieldType.int)) := ⟨rfl, xpn0, xw453, xw115, xnh0, by decide⟩
theorem xw454 : Cond.code ⟨"HatsDecide", "gusted", "(I)I"⟩ prog_1_method_25_code 2 (Option.some Jvm.ClassFile.FieldType.int) ∈ xW := xin (xt3 (i := 239) rfl) rfl
theorem xm78 : xMok (11, yX11_gusted, cX11_gusted, 2, (Option.some Jvm.ClassFile.FieldType.int)) := ⟨rfl, xpn0, xw454, xw115, xnh0, by decide⟩
theorem xw455 : Cond.code ⟨"HatsDecide", "lucky", "()I"⟩ prog_1_method_26_code 5 (Option.some Jvm.ClassFile.FieldType.int) ∈ xW := xin (xt4 (i := 3) rfl) rfl
theorem xm79 : xMok (11, yX11_lucky, cX11_lucky, 5, (Option.some Jvm.ClassFile.FieldType.int)) := ⟨rfl, xpn0, xw455, xw115, xnh0, by decide⟩
theorem xw456 : Cond.code ⟨"HatsDecide", "swap", "()I"⟩ prog_1_method_27_code 6 (Option.some Jvm.ClassFile.FieldType.int) ∈ xW := xin (xt4 (i := 7) rfl) rfl
theorem xm80 : xMok (11, yX11_swap, cX11_swap, 6, (Option.some Jvm.ClassFile.FieldType.int)) := ⟨rfl, xpn0, xw456, xw115, xnh0, by decide⟩
theorem xw457 : Cond.code ⟨"HatsDecide", "quarrel", "(III)I"⟩ prog_1_method_28_code 4 (Option.some Jvm.ClassFile.FieldType.int) ∈ xW := xin (xt4 (i := 11) rfl) rfl
theorem xm81 : xMok (11, yX11_quarrel, cX11_quarrel, 4, (Option.some Jvm.ClassFile.FieldType.int)) := ⟨rfl, xpn0, xw457, xw115, xnh0, by decide⟩
theorem xw458 : Cond.code ⟨"HatsDecide", "how", "(I)I"⟩ prog_1_method_29_code 6 (Option.some Jvm.ClassFile.FieldType.int) ∈ xW := xin (xt4 (i := 15) rfl) rfl
theorem xm82 : xMok (11, yX11_how, cX11_how, 6, (Option.some Jvm.ClassFile.FieldType.int)) := ⟨rfl, xpn0, xw458, xw115, xnh0, by decide⟩
theorem xw459 : Cond.code ⟨"HatsDecide", "see", "(II)I"⟩ prog_1_method_30_code 3 (Option.some Jvm.ClassFile.FieldType.int) ∈ xW := xin (xt4 (i := 19) rfl) rfl
theorem xm83 : xMok (11, yX11_see, cX11_see, 3, (Option.some Jvm.ClassFile.FieldType.int)) := ⟨rfl, xpn0, xw459, xw115, xnh0, by decide⟩
theorem xw460 : Cond.code ⟨"HatsDecide", "wore", "(I)I"⟩ prog_1_method_31_code 2 (Option.some Jvm.ClassFile.FieldType.int) ∈ xW := xin (xt4 (i := 23) rfl) rfl
theorem xm84 : xMok (11, yX11_wore, cX11_wore, 2, (Option.some Jvm.ClassFile.FieldType.int)) := ⟨rfl, xpn0, xw460, xw115, xnh0, by decide⟩
theorem xw461 : Cond.code ⟨"HatsDecide", "who", "()I"⟩ prog_1_method_32_code 3 (Option.some Jvm.ClassFile.FieldType.int) ∈ xW := xin (xt4 (i := 35) rfl) rfl
theorem xm85 : xMok (11, yX11_who, cX11_who, 3, (Option.some Jvm.ClassFile.FieldType.int)) := ⟨rfl, xpn0, xw461, xw115, xnh0, by decide⟩
theorem xw462 : Cond.code ⟨"HatsDecide", "odds", "(II)J"⟩ prog_1_method_33_code 5 (Option.some Jvm.ClassFile.FieldType.long) ∈ xW := xin (xt4 (i := 50) rfl) rfl
theorem xm86 : xMok (11, yX11_odds, cX11_odds, 5, (Option.some Jvm.ClassFile.FieldType.long)) := ⟨rfl, xpn0, xw462, xw115, xnh0, by decide⟩
theorem xw463 : Cond.code ⟨"HatsDecide", "mean", "(II)J"⟩ prog_1_method_34_code 5 (Option.some Jvm.ClassFile.FieldType.long) ∈ xW := xin (xt4 (i := 59) rfl) rfl
theorem xm87 : xMok (11, yX11_mean, cX11_mean, 5, (Option.some Jvm.ClassFile.FieldType.long)) := ⟨rfl, xpn0, xw463, xw115, xnh0, by decide⟩
theorem xw464 : Cond.code ⟨"HatsDecide", "book", "(II)I"⟩ prog_1_method_35_code 3 (Option.some Jvm.ClassFile.FieldType.int) ∈ xW := xin (xt4 (i := 63) rfl) rfl
theorem xm88 : xMok (11, yX11_book, cX11_book, 3, (Option.some Jvm.ClassFile.FieldType.int)) := ⟨rfl, xpn0, xw464, xw115, xnh0, by decide⟩
theorem xw465 : Cond.code ⟨"HatsDecide", "looked", "()I"⟩ prog_1_method_36_code 2 (Option.some Jvm.ClassFile.FieldType.int) ∈ xW := xin (xt4 (i := 67) rfl) rfl
theorem xm89 : xMok (11, yX11_looked, cX11_looked, 2, (Option.some Jvm.ClassFile.FieldType.int)) := ⟨rfl, xpn0, xw465, xw115, xnh0, by decide⟩
theorem xw466 : Cond.code ⟨"HatsDecide", "judge", "(II)I"⟩ prog_1_method_37_code 5 (Option.some Jvm.ClassFile.FieldType.int) ∈ xW := xin (xt4 (i := 71) rfl) rfl
theorem xm90 : xMok (11, yX11_judge, cX11_judge, 5, (Option.some Jvm.ClassFile.FieldType.int)) := ⟨rfl, xpn0, xw466, xw115, xnh0, by decide⟩
theorem xw467 : Cond.code ⟨"HatsDecide", "image", "()I"⟩ prog_1_method_38_code 1 (Option.some Jvm.ClassFile.FieldType.int) ∈ xW := xin (xt4 (i := 82) rfl) rfl
theorem xm91 : xMok (11, yX11_image, cX11_image, 1, (Option.some Jvm.ClassFile.FieldType.int)) := ⟨rfl, xpn0, xw467, xw115, xnh0, by decide⟩
theorem xw468 : Cond.code ⟨"HatsDecide", "undo", "()I"⟩ prog_1_method_39_code 1 (Option.some Jvm.ClassFile.FieldType.int) ∈ xW := xin (xt4 (i := 95) rfl) rfl
theorem xm92 : xMok (11, yX11_undo, cX11_undo, 1, (Option.some Jvm.ClassFile.FieldType.int)) := ⟨rfl, xpn0, xw468, xw115, xnh0, by decide⟩
theorem xw469 : Cond.code ⟨"HatsDecide", "act", "(III)I"⟩ prog_1_method_40_code 4 (Option.some Jvm.ClassFile.FieldType.int) ∈ xW := xin (xt4 (i := 99) rfl) rfl
theorem xm93 : xMok (11, yX11_act, cX11_act, 4, (Option.some Jvm.ClassFile.FieldType.int)) := ⟨rfl, xpn0, xw469, xw115, xnh0, by decide⟩
theorem xw470 : Cond.code ⟨"HatsDecide", "trace", "(I)I"⟩ prog_1_method_41_code 2 (Option.some Jvm.ClassFile.FieldType.int) ∈ xW := xin (xt4 (i := 186) rfl) rfl
theorem xm94 : xMok (11, yX11_trace, cX11_trace, 2, (Option.some Jvm.ClassFile.FieldType.int)) := ⟨rfl, xpn0, xw470, xw115, xnh0, by decide⟩
theorem xw471 : Cond.code ⟨"HatsDecide", "taken", "(II)I"⟩ prog_1_method_42_code 3 (Option.some Jvm.ClassFile.FieldType.int) ∈ xW := xin (xt4 (i := 190) rfl) rfl
theorem xm95 : xMok (11, yX11_taken, cX11_taken, 3, (Option.some Jvm.ClassFile.FieldType.int)) := ⟨rfl, xpn0, xw471, xw115, xnh0, by decide⟩
theorem xw472 : Cond.code ⟨"HatsDecide", "count", "(I)I"⟩ prog_1_method_43_code 2 (Option.some Jvm.ClassFile.FieldType.int) ∈ xW := xin (xt4 (i := 197) rfl) rfl
theorem xm96 : xMok (11, yX11_count, cX11_count, 2, (Option.some Jvm.ClassFile.FieldType.int)) := ⟨rfl, xpn0, xw472, xw115, xnh0, by decide⟩
theorem xw473 : Cond.code ⟨"HatsDecide", "tape", "(III)I"⟩ prog_1_method_44_code 4 (Option.some Jvm.ClassFile.FieldType.int) ∈ xW := xin (xt4 (i := 201) rfl) rfl
theorem xm97 : xMok (11, yX11_tape, cX11_tape, 4, (Option.some Jvm.ClassFile.FieldType.int)) := ⟨rfl, xpn0, xw473, xw115, xnh0, by decide⟩
theorem xw474 : Cond.code ⟨"HatsDecide", "item", "(IIJ)I"⟩ prog_1_method_45_code 6 (Option.some Jvm.ClassFile.FieldType.int) ∈ xW := xin (xt4 (i := 212) rfl) rfl
theorem xm98 : xMok (11, yX11_item, cX11_item, 6, (Option.some Jvm.ClassFile.FieldType.int)) := ⟨rfl, xpn0, xw474, xw115, xnh0, by decide⟩
theorem xw475 : Cond.code ⟨"HatsDecide", "read", "(II)J"⟩ prog_1_method_46_code 3 (Option.some Jvm.ClassFile.FieldType.long) ∈ xW := xin (xt4 (i := 220) rfl) rfl
theorem xm99 : xMok (11, yX11_read, cX11_read, 3, (Option.some Jvm.ClassFile.FieldType.long)) := ⟨rfl, xpn0, xw475, xw115, xnh0, by decide⟩
theorem xw476 : Cond.code ⟨"HatsDecide", "shift", "(IIIII)I"⟩ prog_1_method_47_code 8 (Option.some Jvm.ClassFile.FieldType.int) ∈ xW := xin (xt4 (i := 224) rfl) rfl
theorem xm100 : xMok (11, yX11_shift, cX11_shift, 8, (Option.some Jvm.ClassFile.FieldType.int)) := ⟨rfl, xpn0, xw476, xw115, xnh0, by decide⟩
theorem xw477 : Cond.code ⟨"HatsDecide", "within", "(III)Z"⟩ prog_1_method_48_code 3 (Option.some Jvm.ClassFile.FieldType.boolean) ∈ xW := xin (xt2 (i := 20) rfl) rfl
theorem xm101 : xMok (11, yX11_within, cX11_within, 3, (Option.some Jvm.ClassFile.FieldType.boolean)) := ⟨rfl, xpn0, xw477, xw115, xnh0, by decide⟩
theorem xw478 : Cond.code ⟨"HatsDecide", "isDigit", "(I)Z"⟩ prog_1_method_49_code 1 (Option.some Jvm.ClassFile.FieldType.boolean) ∈ xW := xin (xt2 (i := 17) rfl) rfl
theorem xm102 : xMok (11, yX11_isDigit, cX11_isDigit, 1, (Option.some Jvm.ClassFile.FieldType.boolean)) := ⟨rfl, xpn0, xw478, xw115, xnh0, by decide⟩
theorem xw479 : Cond.code ⟨"HatsDecide", "isTrade", "(I)Z"⟩ prog_1_method_50_code 1 (Option.some Jvm.ClassFile.FieldType.boolean) ∈ xW := xin (xt2 (i := 27) rfl) rfl
theorem xm103 : xMok (11, yX11_isTrade, cX11_isTrade, 1, (Option.some Jvm.ClassFile.FieldType.boolean)) := ⟨rfl, xpn0, xw479, xw115, xnh0, by decide⟩
theorem xw480 : Cond.code ⟨"HatsDecide", "isGust", "(I)Z"⟩ prog_1_method_51_code 1 (Option.some Jvm.ClassFile.FieldType.boolean) ∈ xW := xin (xt3 (i := 145) rfl) rfl
theorem xm104 : xMok (11, yX11_isGust, cX11_isGust, 1, (Option.some Jvm.ClassFile.FieldType.boolean)) := ⟨rfl, xpn0, xw480, xw115, xnh0, by decide⟩
theorem xw481 : Cond.code ⟨"HatsDecide", "isTape", "(I)Z"⟩ prog_1_method_52_code 1 (Option.some Jvm.ClassFile.FieldType.boolean) ∈ xW := xin (xt4 (i := 74) rfl) rfl
theorem xm105 : xMok (11, yX11_isTape, cX11_isTape, 1, (Option.some Jvm.ClassFile.FieldType.boolean)) := ⟨rfl, xpn0, xw481, xw115, xnh0, by decide⟩
theorem xw482 : Cond.code ⟨"HatsDecide", "isHeadOrEmpty", "(I)Z"⟩ prog_1_method_53_code 2 (Option.some Jvm.ClassFile.FieldType.boolean) ∈ xW := xin (xt3 (i := 19) rfl) rfl
theorem xm106 : xMok (11, yX11_isHeadOrEmpty, cX11_isHeadOrEmpty, 2, (Option.some Jvm.ClassFile.FieldType.boolean)) := ⟨rfl, xpn0, xw482, xw115, xnh0, by decide⟩
theorem xw483 : Cond.code ⟨"HatsDecide", "orNotAny", "(I)I"⟩ prog_1_method_54_code 1 (Option.some Jvm.ClassFile.FieldType.int) ∈ xW := xin (xt2 (i := 173) rfl) rfl
theorem xm107 : xMok (11, yX11_orNotAny, cX11_orNotAny, 1, (Option.some Jvm.ClassFile.FieldType.int)) := ⟨rfl, xpn0, xw483, xw115, xnh0, by decide⟩
theorem xw484 : Cond.code ⟨"HatsDecide", "isOfKind", "(LHatsDecide$Hat;I)Z"⟩ prog_1_method_55_code 2 (Option.some Jvm.ClassFile.FieldType.boolean) ∈ xW := xin (xt4 (i := 193) rfl) rfl
theorem xm108 : xMok (11, yX11_isOfKind, cX11_isOfKind, 2, (Option.some Jvm.ClassFile.FieldType.boolean)) := ⟨rfl, xpn0, xw484, xw115, xnh0, by decide⟩
theorem xw485 : Cond.code ⟨"HatsDecide", "holding", "()LHatsDecide$Town;"⟩ prog_1_method_56_code 1 (Option.some (Jvm.ClassFile.FieldType.object "HatsDecide$Town")) ∈ xW := xin (xt2 (i := 185) rfl) rfl
theorem xm109 : xMok (11, yX11_holding, cX11_holding, 1, (Option.some (Jvm.ClassFile.FieldType.object "HatsDecide$Town"))) := ⟨rfl, xpn0, xw485, xw115, xnh0, by decide⟩
theorem xw486 : Cond.code ⟨"HatsDecide", "deedOn", "(III)I"⟩ prog_1_method_57_code 11 (Option.some Jvm.ClassFile.FieldType.int) ∈ xW := xin (xt2 (i := 181) rfl) rfl
theorem xm110 : xMok (11, yX11_deedOn, cX11_deedOn, 11, (Option.some Jvm.ClassFile.FieldType.int)) := ⟨rfl, xpn0, xw486, xw115, xnh0, by decide⟩
theorem xw487 : Cond.code ⟨"HatsDecide", "total", "(III)I"⟩ prog_1_method_58_code 7 (Option.some Jvm.ClassFile.FieldType.int) ∈ xW := xin (xt3 (i := 136) rfl) rfl
theorem xm111 : xMok (11, yX11_total, cX11_total, 7, (Option.some Jvm.ClassFile.FieldType.int)) := ⟨rfl, xpn0, xw487, xw115, xnh0, by decide⟩
theorem xw488 : Cond.code ⟨"HatsDecide", "isEnough", "(III)Z"⟩ prog_1_method_59_code 4 (Option.some Jvm.ClassFile.FieldType.boolean) ∈ xW := xin (xt3 (i := 164) rfl) rfl
theorem xm112 : xMok (11, yX11_isEnough, cX11_isEnough, 4, (Option.some Jvm.ClassFile.FieldType.boolean)) := ⟨rfl, xpn0, xw488, xw115, xnh0, by decide⟩
theorem xw489 : Cond.code ⟨"HatsDecide", "noteDeeds", "()V"⟩ prog_1_method_60_code 3 (Option.none : Option Jvm.ClassFile.FieldType) ∈ xW := xin (xt3 (i := 184) rfl) rfl
theorem xm113 : xMok (11, yX11_noteDeeds, cX11_noteDeeds, 3, (Option.none : Option Jvm.ClassFile.FieldType)) := ⟨rfl, xpn0, xw489, xw115, xnh0, by decide⟩
theorem xw490 : Cond.code ⟨"HatsDecide", "noted", "(II)I"⟩ prog_1_method_61_code 3 (Option.some Jvm.ClassFile.FieldType.int) ∈ xW := xin (xt3 (i := 206) rfl) rfl
theorem xm114 : xMok (11, yX11_noted, cX11_noted, 3, (Option.some Jvm.ClassFile.FieldType.int)) := ⟨rfl, xpn0, xw490, xw115, xnh0, by decide⟩
theorem xw491 : Cond.code ⟨"HatsDecide", "hatsOf", "(I)I"⟩ prog_1_method_62_code 4 (Option.some Jvm.ClassFile.FieldType.int) ∈ xW := xin (xt3 (i := 223) rfl) rfl
theorem xm115 : xMok (11, yX11_hatsOf, cX11_hatsOf, 4, (Option.some Jvm.ClassFile.FieldType.int)) := ⟨rfl, xpn0, xw491, xw115, xnh0, by decide⟩
theorem xw492 : Cond.code ⟨"HatsDecide", "weighWays", "(I)V"⟩ prog_1_method_63_code 5 (Option.none : Option Jvm.ClassFile.FieldType) ∈ xW := xin (xt3 (i := 188) rfl) rfl
theorem xm116 : xMok (11, yX11_weighWays, cX11_weighWays, 5, (Option.none : Option Jvm.ClassFile.FieldType)) := ⟨rfl, xpn0, xw492, xw115, xnh0, by decide⟩
theorem xw493 : Cond.code ⟨"HatsDecide", "mostFrom", "(III)I"⟩ prog_1_method_64_code 6 (Option.some Jvm.ClassFile.FieldType.int) ∈ xW := xin (xt3 (i := 198) rfl) rfl
theorem xm117 : xMok (11, yX11_mostFrom, cX11_mostFrom, 6, (Option.some Jvm.ClassFile.FieldType.int)) := ⟨rfl, xpn0, xw493, xw115, xnh0, by decide⟩
theorem xw494 : Cond.code ⟨"HatsDecide", "mostWith", "(III)I"⟩ prog_1_method_65_code 5 (Option.some Jvm.ClassFile.FieldType.int) ∈ xW := xin (xt3 (i := 202) rfl) rfl
theorem xm118 : xMok (11, yX11_mostWith, cX11_mostWith, 5, (Option.some Jvm.ClassFile.FieldType.int)) := ⟨rfl, xpn0, xw494, xw115, xnh0, by decide⟩
theorem xw495 : Cond.code ⟨"HatsDecide", "wornByBestWay", "(I)I"⟩ prog_1_method_66_code 5 (Option.some Jvm.ClassFile.FieldType.int) ∈ xW := xin (xt3 (i := 211) rfl) rfl
theorem xm119 : xMok (11, yX11_wornByBestWay, cX11_wornByBestWay, 5, (Option.some Jvm.ClassFile.FieldType.int)) := ⟨rfl, xpn0, xw495, xw115, xnh0, by decide⟩
theorem xw496 : Cond.code ⟨"HatsDecide", "firstOfBest", "(II)I"⟩ prog_1_method_67_code 5 (Option.some Jvm.ClassFile.FieldType.int) ∈ xW := xin (xt3 (i := 215) rfl) rfl
theorem xm120 : xMok (11, yX11_firstOfBest, cX11_firstOfBest, 5, (Option.some Jvm.ClassFile.FieldType.int)) := ⟨rfl, xpn0, xw496, xw115, xnh0, by decide⟩
theorem xw497 : Cond.code ⟨"HatsDecide", "isOwnedBelow", "(II)Z"⟩ prog_1_method_68_code 4 (Option.some Jvm.ClassFile.FieldType.boolean) ∈ xW := xin (xt3 (i := 231) rfl) rfl
theorem xm121 : xMok (11, yX11_isOwnedBelow, cX11_isOwnedBelow, 4, (Option.some Jvm.ClassFile.FieldType.boolean)) := ⟨rfl, xpn0, xw497, xw115, xnh0, by decide⟩
theorem xw498 : Cond.code ⟨"HatsDecide", "joinGroups", "(II)Z"⟩ prog_1_method_69_code 4 (Option.some Jvm.ClassFile.FieldType.boolean) ∈ xW := xin (xt3 (i := 235) rfl) rfl
theorem xm122 : xMok (11, yX11_joinGroups, cX11_joinGroups, 4, (Option.some Jvm.ClassFile.FieldType.boolean)) := ⟨rfl, xpn0, xw498, xw115, xnh0, by decide⟩
theorem xw499 : Cond.code ⟨"HatsDecide", "isSeen", "(I)Z"⟩ prog_1_method_70_code 3 (Option.some Jvm.ClassFile.FieldType.boolean) ∈ xW := xin (xt4 (i := 42) rfl) rfl
theorem xm123 : xMok (11, yX11_isSeen, cX11_isSeen, 3, (Option.some Jvm.ClassFile.FieldType.boolean)) := ⟨rfl, xpn0, xw499, xw115, xnh0, by decide⟩
theorem xw500 : Cond.code ⟨"HatsDecide", "isAsSeen", "(II)Z"⟩ prog_1_method_71_code 4 (Option.some Jvm.ClassFile.FieldType.boolean) ∈ xW := xin (xt4 (i := 31) rfl) rfl
theorem xm124 : xMok (11, yX11_isAsSeen, cX11_isAsSeen, 4, (Option.some Jvm.ClassFile.FieldType.boolean)) := ⟨rfl, xpn0, xw500, xw115, xnh0, by decide⟩
theorem xw501 : Cond.code ⟨"HatsDecide", "wearers", "(I)I"⟩ prog_1_method_72_code 4 (Option.some Jvm.ClassFile.FieldType.int) ∈ xW := xin (xt4 (i := 27) rfl) rfl
theorem xm125 : xMok (11, yX11_wearers, cX11_wearers, 4, (Option.some Jvm.ClassFile.FieldType.int)) := ⟨rfl, xpn0, xw501, xw115, xnh0, by decide⟩
theorem xw502 : Cond.code ⟨"HatsDecide", "addHatToWays", "(I)V"⟩ prog_1_method_73_code 5 (Option.none : Option Jvm.ClassFile.FieldType) ∈ xW := xin (xt4 (i := 46) rfl) rfl
theorem xm126 : xMok (11, yX11_addHatToWays, cX11_addHatToWays, 5, (Option.none : Option Jvm.ClassFile.FieldType)) := ⟨rfl, xpn0, xw502, xw115, xnh0, by decide⟩
theorem xw503 : Cond.code ⟨"HatsDecide", "perHeads", "(II)J"⟩ prog_1_method_74_code 4 (Option.some Jvm.ClassFile.FieldType.long) ∈ xW := xin (xt4 (i := 55) rfl) rfl
theorem xm127 : xMok (11, yX11_perHeads, cX11_perHeads, 4, (Option.some Jvm.ClassFile.FieldType.long)) := ⟨rfl, xpn0, xw503, xw115, xnh0, by decide⟩
theorem xw504 : Cond.code ⟨"HatsDecideModel", "<init>", "()V"⟩ prog_14_method_1_code 1 (Option.none : Option Jvm.ClassFile.FieldType) ∈ xW := xin (xt4 (i := 229) rfl) rfl
theorem xm128 : xMok (12, yX12_init, cX12_init, 1, (Option.none : Option Jvm.ClassFile.FieldType)) := ⟨rfl, xpn12, xw504, xw195, xnh12, by decide⟩
theorem xw505 : Cond.code ⟨"HatsDecideModel", "in", "(III)Z"⟩ prog_14_method_2_code 4 (Option.some Jvm.ClassFile.FieldType.boolean) ∈ xW := xin (xt5 (i := 234) rfl) rfl
theorem xm129 : xMok (12, yX12_in, cX12_in, 4, (Option.some Jvm.ClassFile.FieldType.boolean)) := ⟨rfl, xpn12, xw505, xw195, xnh12, by decide⟩
theorem xw506 : Cond.code ⟨"HatsDecideModel", "has", "(II)Z"⟩ prog_14_method_3_code 3 (Option.some Jvm.ClassFile.FieldType.boolean) ∈ xW := xin (xt6 (i := 232) rfl) rfl
theorem xm130 : xMok (12, yX12_has, cX12_has, 3, (Option.some Jvm.ClassFile.FieldType.boolean)) := ⟨rfl, xpn12, xw506, xw195, xnh12, by decide⟩
theorem xw507 : Cond.code ⟨"HatsDecideModel", "most", "(II)I"⟩ prog_14_method_4_code 3 (Option.some Jvm.ClassFile.FieldType.int) ∈ xW := xin (xt6 (i := 130) rfl) rfl
theorem xm131 : xMok (12, yX12_most, cX12_most, 3, (Option.some Jvm.ClassFile.FieldType.int)) := ⟨rfl, xpn12, xw507, xw195, xnh12, by decide⟩
theorem xw508 : Cond.code ⟨"HatsDecideModel", "isHead", "(I)Z"⟩ prog_14_method_5_code 2 (Option.some Jvm.ClassFile.FieldType.boolean) ∈ xW := xin (xt6 (i := 18) rfl) rfl
theorem xm132 : xMok (12, yX12_isHead, cX12_isHead, 2, (Option.some Jvm.ClassFile.FieldType.boolean)) := ⟨rfl, xpn12, xw508, xw195, xnh12, by decide⟩
theorem xw509 : Cond.code ⟨"HatsDecideModel", "isHat", "(I)Z"⟩ prog_14_method_6_code 2 (Option.some Jvm.ClassFile.FieldType.boolean) ∈ xW := xin (xt6 (i := 10) rfl) rfl
theorem xm133 : xMok (12, yX12_isHat, cX12_isHat, 2, (Option.some Jvm.ClassFile.FieldType.boolean)) := ⟨rfl, xpn12, xw509, xw195, xnh12, by decide⟩
theorem xw510 : Cond.code ⟨"HatsDecideModel", "isTrade", "(I)Z"⟩ prog_14_method_7_code 2 (Option.some Jvm.ClassFile.FieldType.boolean) ∈ xW := xin (xt6 (i := 2) rfl) rfl
theorem xm134 : xMok (12, yX12_isTrade, cX12_isTrade, 2, (Option.some Jvm.ClassFile.FieldType.boolean)) := ⟨rfl, xpn12, xw510, xw195, xnh12, by decide⟩
theorem xw511 : Cond.code ⟨"HatsDecideModel", "orNone", "(I)I"⟩ prog_14_method_8_code 2 (Option.some Jvm.ClassFile.FieldType.int) ∈ xW := xin (xt6 (i := 30) rfl) rfl
theorem xm135 : xMok (12, yX12_orNone, cX12_orNone, 2, (Option.some Jvm.ClassFile.FieldType.int)) := ⟨rfl, xpn12, xw511, xw195, xnh12, by decide⟩
theorem xw512 : Cond.code ⟨"HatsDecideModel", "head", "(I)I"⟩ prog_14_method_9_code 2 (Option.some Jvm.ClassFile.FieldType.int) ∈ xW := xin (xt5 (i := 230) rfl) rfl
theorem xm136 : xMok (12, yX12_head, cX12_head, 2, (Option.some Jvm.ClassFile.FieldType.int)) := ⟨rfl, xpn12, xw512, xw195, xnh12, by decide⟩
theorem xw513 : Cond.code ⟨"HatsDecideModel", "hat", "(IIIII)I"⟩ prog_14_method_10_code 7 (Option.some Jvm.ClassFile.FieldType.int) ∈ xW := xin (xt5 (i := 238) rfl) rfl
theorem xm137 : xMok (12, yX12_hat, cX12_hat, 7, (Option.some Jvm.ClassFile.FieldType.int)) := ⟨rfl, xpn12, xw513, xw195, xnh12, by decide⟩
theorem xw514 : Cond.code ⟨"HatsDecideModel", "headOf", "(I)I"⟩ prog_14_method_11_code 3 (Option.some Jvm.ClassFile.FieldType.int) ∈ xW := xin (xt6 (i := 22) rfl) rfl
theorem xm138 : xMok (12, yX12_headOf, cX12_headOf, 3, (Option.some Jvm.ClassFile.FieldType.int)) := ⟨rfl, xpn12, xw514, xw195, xnh12, by decide⟩
theorem xw515 : Cond.code ⟨"HatsDecideModel", "row", "(III)I"⟩ prog_14_method_12_code 5 (Option.some Jvm.ClassFile.FieldType.int) ∈ xW := xin (xt6 (i := 6) rfl) rfl
theorem xm139 : xMok (12, yX12_row, cX12_row, 5, (Option.some Jvm.ClassFile.FieldType.int)) := ⟨rfl, xpn12, xw515, xw195, xnh12, by decide⟩
theorem xw516 : Cond.code ⟨"HatsDecideModel", "put", "(II)I"⟩ prog_14_method_13_code 4 (Option.some Jvm.ClassFile.FieldType.int) ∈ xW := xin (xt6 (i := 14) rfl) rfl
theorem xm140 : xMok (12, yX12_put, cX12_put, 4, (Option.some Jvm.ClassFile.FieldType.int)) := ⟨rfl, xpn12, xw516, xw195, xnh12, by decide⟩
theorem xw517 : Cond.code ⟨"HatsDecideModel", "own", "(II)I"⟩ prog_14_method_14_code 4 (Option.some Jvm.ClassFile.FieldType.int) ∈ xW := xin (xt6 (i := 26) rfl) rfl
theorem xm141 : xMok (12, yX12_own, cX12_own, 4, (Option.some Jvm.ClassFile.FieldType.int)) := ⟨rfl, xpn12, xw517, xw195, xnh12, by decide⟩
theorem xw518 : Cond.code ⟨"HatsDecideModel", "skill", "(II)I"⟩ prog_14_method_15_code 4 (Option.some Jvm.ClassFile.FieldType.int) ∈ xW := xin (xt6 (i := 34) rfl) rfl
theorem xm142 : xMok (12, yX12_skill, cX12_skill, 4, (Option.some Jvm.ClassFile.FieldType.int)) := ⟨rfl, xpn12, xw518, xw195, xnh12, by decide⟩
theorem xw519 : Cond.code ⟨"HatsDecideModel", "feed", "(I)I"⟩ prog_14_method_16_code 2 (Option.some Jvm.ClassFile.FieldType.int) ∈ xW := xin (xt6 (i := 38) rfl) rfl
theorem xm143 : xMok (12, yX12_feed, cX12_feed, 2, (Option.some Jvm.ClassFile.FieldType.int)) := ⟨rfl, xpn12, xw519, xw195, xnh12, by decide⟩
theorem xw520 : Cond.code ⟨"HatsDecideModel", "next", "()I"⟩ prog_14_method_17_code 1 (Option.some Jvm.ClassFile.FieldType.int) ∈ xW := xin (xt6 (i := 58) rfl) rfl
theorem xm144 : xMok (12, yX12_next, cX12_next, 1, (Option.some Jvm.ClassFile.FieldType.int)) := ⟨rfl, xpn12, xw520, xw195, xnh12, by decide⟩
theorem xw521 : Cond.code ⟨"HatsDecideModel", "takes", "(I)Z"⟩ prog_14_method_18_code 2 (Option.some Jvm.ClassFile.FieldType.boolean) ∈ xW := xin (xt6 (i := 66) rfl) rfl
theorem xm145 : xMok (12, yX12_takes, cX12_takes, 2, (Option.some Jvm.ClassFile.FieldType.boolean)) := ⟨rfl, xpn12, xw521, xw195, xnh12, by decide⟩
theorem xw522 : Cond.code ⟨"HatsDecideModel", "takesWord", "(II)Z"⟩ prog_14_method_19_code 4 (Option.some Jvm.ClassFile.FieldType.boolean) ∈ xW := xin (xt6 (i := 62) rfl) rfl
theorem xm146 : xMok (12, yX12_takesWord, cX12_takesWord, 4, (Option.some Jvm.ClassFile.FieldType.boolean)) := ⟨rfl, xpn12, xw522, xw195, xnh12, by decide⟩
theorem xw523 : Cond.code ⟨"HatsDecideModel", "isDigit", "()Z"⟩ prog_14_method_20_code 1 (Option.some Jvm.ClassFile.FieldType.boolean) ∈ xW := xin (xt6 (i := 74) rfl) rfl
theorem xm147 : xMok (12, yX12_isDigit, cX12_isDigit, 1, (Option.some Jvm.ClassFile.FieldType.boolean)) := ⟨rfl, xpn12, xw523, xw195, xnh12, by decide⟩
theorem xw524 : Cond.code ⟨"HatsDecideModel", "takesNumber", "()Z"⟩ prog_14_method_21_code 2 (Option.some Jvm.ClassFile.FieldType.boolean) ∈ xW := xin (xt6 (i := 70) rfl) rfl
theorem xm148 : xMok (12, yX12_takesNumber, cX12_takesNumber, 2, (Option.some Jvm.ClassFile.FieldType.boolean)) := ⟨rfl, xpn12, xw524, xw195, xnh12, by decide⟩
theorem xw525 : Cond.code ⟨"HatsDecideModel", "emits", "(I)V"⟩ prog_14_method_22_code 2 (Option.none : Option Jvm.ClassFile.FieldType) ∈ xW := xin (xt6 (i := 90) rfl) rfl
theorem xm149 : xMok (12, yX12_emits, cX12_emits, 2, (Option.none : Option Jvm.ClassFile.FieldType)) := ⟨rfl, xpn12, xw525, xw195, xnh12, by decide⟩
theorem xw526 : Cond.code ⟨"HatsDecideModel", "whole", "()V"⟩ prog_14_method_23_code 1 (Option.none : Option Jvm.ClassFile.FieldType) ∈ xW := xin (xt6 (i := 94) rfl) rfl
theorem xm150 : xMok (12, yX12_whole, cX12_whole, 1, (Option.none : Option Jvm.ClassFile.FieldType)) := ⟨rfl, xpn12, xw526, xw195, xnh12, by decide⟩
theorem xw527 : Cond.code ⟨"HatsDecideModel", "settle", "(I)V"⟩ prog_14_method_24_code 2 (Option.none : Option Jvm.ClassFile.FieldType) ∈ xW := xin (xt6 (i := 98) rfl) rfl
theorem xm151 : xMok (12, yX12_settle, cX12_settle, 2, (Option.none : Option Jvm.ClassFile.FieldType)) := ⟨rfl, xpn12, xw527, xw195, xnh12, by decide⟩
theorem xw528 : Cond.code ⟨"HatsDecideModel", "place", "(I)I"⟩ prog_14_method_25_code 2 (Option.some Jvm.ClassFile.FieldType.int) ∈ xW := xin (xt6 (i := 86) rfl) rfl
theorem xm152 : xMok (12, yX12_place, cX12_place, 2, (Option.some Jvm.ClassFile.FieldType.int)) := ⟨rfl, xpn12, xw528, xw195, xnh12, by decide⟩
theorem xw529 : Cond.code ⟨"HatsDecideModel", "takesTest", "()Z"⟩ prog_14_method_26_code 3 (Option.some Jvm.ClassFile.FieldType.boolean) ∈ xW := xin (xt6 (i := 82) rfl) rfl
theorem xm153 : xMok (12, yX12_takesTest, cX12_takesTest, 3, (Option.some Jvm.ClassFile.FieldType.boolean)) := ⟨rfl, xpn12, xw529, xw195, xnh12, by decide⟩
theorem xw530 : Cond.code ⟨"HatsDecideModel", "takesE", "(I)Z"⟩ prog_14_method_27_code 4 (Option.some Jvm.ClassFile.FieldType.boolean) ∈ xW := xin (xt6 (i := 78) rfl) rfl
theorem xm154 : xMok (12, yX12_takesE, cX12_takesE, 4, (Option.some Jvm.ClassFile.FieldType.boolean)) := ⟨rfl, xpn12, xw530, xw195, xnh12, by decide⟩
theorem xw531 : Cond.code ⟨"HatsDecideModel", "takesHead", "(I)Z"⟩ prog_14_method_28_code 2 (Option.some Jvm.ClassFile.FieldType.boolean) ∈ xW := xin (xt6 (i := 54) rfl) rfl
theorem xm155 : xMok (12, yX12_takesHead, cX12_takesHead, 2, (Option.some Jvm.ClassFile.FieldType.boolean)) := ⟨rfl, xpn12, xw531, xw195, xnh12, by decide⟩
theorem xw532 : Cond.code ⟨"HatsDecideModel", "takesClause", "(I)Z"⟩ prog_14_method_29_code 2 (Option.some Jvm.ClassFile.FieldType.boolean) ∈ xW := xin (xt6 (i := 50) rfl) rfl
theorem xm156 : xMok (12, yX12_takesClause, cX12_takesClause, 2, (Option.some Jvm.ClassFile.FieldType.boolean)) := ⟨rfl, xpn12, xw532, xw195, xnh12, by decide⟩
theorem xw533 : Cond.code ⟨"HatsDecideModel", "goesText", "(I)Z"⟩ prog_14_method_30_code 3 (Option.some Jvm.ClassFile.FieldType.boolean) ∈ xW := xin (xt6 (i := 46) rfl) rfl
theorem xm157 : xMok (12, yX12_goesText, cX12_goesText, 3, (Option.some Jvm.ClassFile.FieldType.boolean)) := ⟨rfl, xpn12, xw533, xw195, xnh12, by decide⟩
theorem xw534 : Cond.code ⟨"HatsDecideModel", "town", "()I"⟩ prog_14_method_31_code 2 (Option.some Jvm.ClassFile.FieldType.int) ∈ xW := xin (xt6 (i := 42) rfl) rfl
theorem xm158 : xMok (12, yX12_town, cX12_town, 2, (Option.some Jvm.ClassFile.FieldType.int)) := ⟨rfl, xpn12, xw534, xw195, xnh12, by decide⟩
theorem xw535 : Cond.code ⟨"HatsDecideModel", "begin", "()I"⟩ prog_14_method_32_code 1 (Option.some Jvm.ClassFile.FieldType.int) ∈ xW := xin (xt6 (i := 114) rfl) rfl
theorem xm159 : xMok (12, yX12_begin, cX12_begin, 1, (Option.some Jvm.ClassFile.FieldType.int)) := ⟨rfl, xpn12, xw535, xw195, xnh12, by decide⟩
theorem xw536 : Cond.code ⟨"HatsDecideModel", "behind", "()I"⟩ prog_14_method_33_code 1 (Option.some Jvm.ClassFile.FieldType.int) ∈ xW := xin (xt6 (i := 118) rfl) rfl
theorem xm160 : xMok (12, yX12_behind, cX12_behind, 1, (Option.some Jvm.ClassFile.FieldType.int)) := ⟨rfl, xpn12, xw536, xw195, xnh12, by decide⟩
theorem xw537 : Cond.code ⟨"HatsDecideModel", "moth", "()I"⟩ prog_14_method_34_code 3 (Option.some Jvm.ClassFile.FieldType.int) ∈ xW := xin (xt6 (i := 138) rfl) rfl
theorem xm161 : xMok (12, yX12_moth, cX12_moth, 3, (Option.some Jvm.ClassFile.FieldType.int)) := ⟨rfl, xpn12, xw537, xw195, xnh12, by decide⟩
theorem xw538 : Cond.code ⟨"HatsDecideModel", "work", "(I)I"⟩ prog_14_method_35_code 4 (Option.some Jvm.ClassFile.FieldType.int) ∈ xW := xin (xt6 (i := 150) rfl) rfl
theorem xm162 : xMok (12, yX12_work, cX12_work, 4, (Option.some Jvm.ClassFile.FieldType.int)) := ⟨rfl, xpn12, xw538, xw195, xnh12, by decide⟩
theorem xw539 : Cond.code ⟨"HatsDecideModel", "factOf", "(III)I"⟩ prog_14_method_36_code 4 (Option.some Jvm.ClassFile.FieldType.int) ∈ xW := xin (xt6 (i := 126) rfl) rfl
theorem xm163 : xMok (12, yX12_factOf, cX12_factOf, 4, (Option.some Jvm.ClassFile.FieldType.int)) := ⟨rfl, xpn12, xw539, xw195, xnh12, by decide⟩
theorem xw540 : Cond.code ⟨"HatsDecideModel", "holds", "(III)Z"⟩ prog_14_method_37_code 9 (Option.some Jvm.ClassFile.FieldType.boolean) ∈ xW := xin (xt6 (i := 122) rfl) rfl
theorem xm164 : xMok (12, yX12_holds, cX12_holds, 9, (Option.some Jvm.ClassFile.FieldType.boolean)) := ⟨rfl, xpn12, xw540, xw195, xnh12, by decide⟩
theorem xw541 : Cond.code ⟨"HatsDecideModel", "fits", "(II)I"⟩ prog_14_method_38_code 5 (Option.some Jvm.ClassFile.FieldType.int) ∈ xW := xin (xt6 (i := 110) rfl) rfl
theorem xm165 : xMok (12, yX12_fits, cX12_fits, 5, (Option.some Jvm.ClassFile.FieldType.int)) := ⟨rfl, xpn12, xw541, xw195, xnh12, by decide⟩
theorem xw542 : Cond.code ⟨"HatsDecideModel", "apart", "(II)I"⟩ prog_14_method_39_code 3 (Option.some Jvm.ClassFile.FieldType.int) ∈ xW := xin (xt6 (i := 134) rfl) rfl
theorem xm166 : xMok (12, yX12_apart, cX12_apart, 3, (Option.some Jvm.ClassFile.FieldType.int)) := ⟨rfl, xpn12, xw542, xw195, xnh12, by decide⟩
theorem xw543 : Cond.code ⟨"HatsDecideModel", "deed", "(II)I"⟩ prog_14_method_40_code 4 (Option.some Jvm.ClassFile.FieldType.int) ∈ xW := xin (xt6 (i := 106) rfl) rfl
theorem xm167 : xMok (12, yX12_deed, cX12_deed, 4, (Option.some Jvm.ClassFile.FieldType.int)) := ⟨rfl, xpn12, xw543, xw195, xnh12, by decide⟩
theorem xw544 : Cond.code ⟨"HatsDecideModel", "of", "(II)I"⟩ prog_14_method_41_code 3 (Option.some Jvm.ClassFile.FieldType.int) ∈ xW := xin (xt6 (i := 102) rfl) rfl
theorem xm168 : xMok (12, yX12_of, cX12_of, 3, (Option.some Jvm.ClassFile.FieldType.int)) := ⟨rfl, xpn12, xw544, xw195, xnh12, by decide⟩
theorem xw545 : Cond.code ⟨"HatsDecideModel", "at", "(II)I"⟩ prog_14_method_42_code 3 (Option.some Jvm.ClassFile.FieldType.int) ∈ xW := xin (xt6 (i := 142) rfl) rfl
theorem xm169 : xMok (12, yX12_at, cX12_at, 3, (Option.some Jvm.ClassFile.FieldType.int)) := ⟨rfl, xpn12, xw545, xw195, xnh12, by decide⟩
theorem xw546 : Cond.code ⟨"HatsDecideModel", "told", "(I)I"⟩ prog_14_method_43_code 2 (Option.some Jvm.ClassFile.FieldType.int) ∈ xW := xin (xt6 (i := 146) rfl) rfl
theorem xm170 : xMok (12, yX12_told, cX12_told, 2, (Option.some Jvm.ClassFile.FieldType.int)) := ⟨rfl, xpn12, xw546, xw195, xnh12, by decide⟩
theorem xw547 : Cond.code ⟨"HatsDecideModel", "todayOf", "(I)I"⟩ prog_14_method_44_code 4 (Option.some Jvm.ClassFile.FieldType.int) ∈ xW := xin (xt6 (i := 158) rfl) rfl
theorem xm171 : xMok (12, yX12_todayOf, cX12_todayOf, 4, (Option.some Jvm.ClassFile.FieldType.int)) := ⟨rfl, xpn12, xw547, xw195, xnh12, by decide⟩
theorem xw548 : Cond.code ⟨"HatsDecideModel", "goDay", "()V"⟩ prog_14_method_45_code 2 (Option.none : Option Jvm.ClassFile.FieldType) ∈ xW := xin (xt6 (i := 163) rfl) rfl
theorem xm172 : xMok (12, yX12_goDay, cX12_goDay, 2, (Option.none : Option Jvm.ClassFile.FieldType)) := ⟨rfl, xpn12, xw548, xw195, xnh12, by decide⟩
theorem xw549 : Cond.code ⟨"HatsDecideModel", "day", "()I"⟩ prog_14_method_46_code 4 (Option.some Jvm.ClassFile.FieldType.int) ∈ xW := xin (xt6 (i := 154) rfl) rfl
theorem xm173 : xMok (12, yX12_day, cX12_day, 4, (Option.some Jvm.ClassFile.FieldType.int)) := ⟨rfl, xpn12, xw549, xw195, xnh12, by decide⟩
theorem xw550 : Cond.code ⟨"HatsDecideModel", "goGust", "(I)I"⟩ prog_14_method_47_code 4 (Option.some Jvm.ClassFile.FieldType.int) ∈ xW := xin (xt6 (i := 171) rfl) rfl
theorem xm174 : xMok (12, yX12_goGust, cX12_goGust, 4, (Option.some Jvm.ClassFile.FieldType.int)) := ⟨rfl, xpn12, xw550, xw195, xnh12, by decide⟩
theorem xw551 : Cond.code ⟨"HatsDecideModel", "gust", "(I)I"⟩ prog_14_method_48_code 2 (Option.some Jvm.ClassFile.FieldType.int) ∈ xW := xin (xt6 (i := 167) rfl) rfl
theorem xm175 : xMok (12, yX12_gust, cX12_gust, 2, (Option.some Jvm.ClassFile.FieldType.int)) := ⟨rfl, xpn12, xw551, xw195, xnh12, by decide⟩
theorem xw552 : Cond.code ⟨"HatsDecideModel", "swaps", "(II)V"⟩ prog_14_method_49_code 4 (Option.none : Option Jvm.ClassFile.FieldType) ∈ xW := xin (xt6 (i := 179) rfl) rfl
theorem xm176 : xMok (12, yX12_swaps, cX12_swaps, 4, (Option.none : Option Jvm.ClassFile.FieldType)) := ⟨rfl, xpn12, xw552, xw195, xnh12, by decide⟩
theorem xw553 : Cond.code ⟨"HatsDecideModel", "change", "(II)I"⟩ prog_14_method_50_code 3 (Option.some Jvm.ClassFile.FieldType.int) ∈ xW := xin (xt6 (i := 175) rfl) rfl
theorem xm177 : xMok (12, yX12_change, cX12_change, 3, (Option.some Jvm.ClassFile.FieldType.int)) := ⟨rfl, xpn12, xw553, xw195, xnh12, by decide⟩
theorem xw554 : Cond.code ⟨"HatsDecideModel", "today", "(I)I"⟩ prog_14_method_51_code 2 (Option.some Jvm.ClassFile.FieldType.int) ∈ xW := xin (xt6 (i := 183) rfl) rfl
theorem xm178 : xMok (12, yX12_today, cX12_today, 2, (Option.some Jvm.ClassFile.FieldType.int)) := ⟨rfl, xpn12, xw554, xw195, xnh12, by decide⟩
theorem xw555 : Cond.code ⟨"HatsDecideModel", "enough", "()I"⟩ prog_14_method_52_code 3 (Option.some Jvm.ClassFile.FieldType.int) ∈ xW := xin (xt6 (i := 187) rfl) rfl
theorem xm179 : xMok (12, yX12_enough, cX12_enough, 3, (Option.some Jvm.ClassFile.FieldType.int)) := ⟨rfl, xpn12, xw555, xw195, xnh12, by decide⟩
theorem xw556 : Cond.code ⟨"HatsDecideModel", "best", "(I)I"⟩ prog_14_method_53_code 6 (Option.some Jvm.ClassFile.FieldType.int) ∈ xW := xin (xt6 (i := 191) rfl) rfl
theorem xm180 : xMok (12, yX12_best, cX12_best, 6, (Option.some Jvm.ClassFile.FieldType.int)) := ⟨rfl, xpn12, xw556, xw195, xnh12, by decide⟩
theorem xw557 : Cond.code ⟨"HatsDecideModel", "save", "()V"⟩ prog_14_method_54_code 2 (Option.none : Option Jvm.ClassFile.FieldType) ∈ xW := xin (xt6 (i := 199) rfl) rfl
theorem xm181 : xMok (12, yX12_save, cX12_save, 2, (Option.none : Option Jvm.ClassFile.FieldType)) := ⟨rfl, xpn12, xw557, xw195, xnh12, by decide⟩
theorem xw558 : Cond.code ⟨"HatsDecideModel", "putBack", "()V"⟩ prog_14_method_55_code 2 (Option.none : Option Jvm.ClassFile.FieldType) ∈ xW := xin (xt6 (i := 204) rfl) rfl
theorem xm182 : xMok (12, yX12_putBack, cX12_putBack, 2, (Option.none : Option Jvm.ClassFile.FieldType)) := ⟨rfl, xpn12, xw558, xw195, xnh12, by decide⟩
theorem xw559 : Cond.code ⟨"HatsDecideModel", "on", "(II)I"⟩ prog_14_method_56_code 5 (Option.some Jvm.ClassFile.FieldType.int) ∈ xW := xin (xt6 (i := 195) rfl) rfl
theorem xm183 : xMok (12, yX12_on, cX12_on, 5, (Option.some Jvm.ClassFile.FieldType.int)) := ⟨rfl, xpn12, xw559, xw195, xnh12, by decide⟩
theorem xw560 : Cond.code ⟨"HatsDecideModel", "lasts", "(I)I"⟩ prog_14_method_57_code 3 (Option.some Jvm.ClassFile.FieldType.int) ∈ xW := xin (xt6 (i := 208) rfl) rfl
theorem xm184 : xMok (12, yX12_lasts, cX12_lasts, 3, (Option.some Jvm.ClassFile.FieldType.int)) := ⟨rfl, xpn12, xw560, xw195, xnh12, by decide⟩
theorem xw561 : Cond.code ⟨"HatsDecideModel", "layDeeds", "()V"⟩ prog_14_method_58_code 3 (Option.none : Option Jvm.ClassFile.FieldType) ∈ xW := xin (xt6 (i := 220) rfl) rfl
theorem xm185 : xMok (12, yX12_layDeeds, cX12_layDeeds, 3, (Option.none : Option Jvm.ClassFile.FieldType)) := ⟨rfl, xpn12, xw561, xw195, xnh12, by decide⟩
theorem xw562 : Cond.code ⟨"HatsDecideModel", "ones", "(I)I"⟩ prog_14_method_59_code 4 (Option.some Jvm.ClassFile.FieldType.int) ∈ xW := xin (xt6 (i := 224) rfl) rfl
theorem xm186 : xMok (12, yX12_ones, cX12_ones, 4, (Option.some Jvm.ClassFile.FieldType.int)) := ⟨rfl, xpn12, xw562, xw195, xnh12, by decide⟩
theorem xw563 : Cond.code ⟨"HatsDecideModel", "onwardBy", "(III)I"⟩ prog_14_method_60_code 5 (Option.some Jvm.ClassFile.FieldType.int) ∈ xW := xin (xt6 (i := 228) rfl) rfl
theorem xm187 : xMok (12, yX12_onwardBy, cX12_onwardBy, 5, (Option.some Jvm.ClassFile.FieldType.int)) := ⟨rfl, xpn12, xw563, xw195, xnh12, by decide⟩
theorem xw564 : Cond.code ⟨"HatsDecideModel", "layBest", "()V"⟩ prog_14_method_61_code 6 (Option.none : Option Jvm.ClassFile.FieldType) ∈ xW := xin (xt6 (i := 216) rfl) rfl
theorem xm188 : xMok (12, yX12_layBest, cX12_layBest, 6, (Option.none : Option Jvm.ClassFile.FieldType)) := ⟨rfl, xpn12, xw564, xw195, xnh12, by decide⟩
theorem xw565 : Cond.code ⟨"HatsDecideModel", "by", "(I)I"⟩ prog_14_method_62_code 2 (Option.some Jvm.ClassFile.FieldType.int) ∈ xW := xin (xt6 (i := 212) rfl) rfl
theorem xm189 : xMok (12, yX12_by, cX12_by, 2, (Option.some Jvm.ClassFile.FieldType.int)) := ⟨rfl, xpn12, xw565, xw195, xnh12, by decide⟩
theorem xw566 : Cond.code ⟨"HatsDecideModel", "mostOf", "(I)I"⟩ prog_14_method_63_code 6 (Option.some Jvm.ClassFile.FieldType.int) ∈ xW := xin (xt7 (i := 0) rfl) rfl
theorem xm190 : xMok (12, yX12_mostOf, cX12_mostOf, 6, (Option.some Jvm.ClassFile.FieldType.int)) := ⟨rfl, xpn12, xw566, xw195, xnh12, by decide⟩
theorem xw567 : Cond.code ⟨"HatsDecideModel", "can", "()I"⟩ prog_14_method_64_code 3 (Option.some Jvm.ClassFile.FieldType.int) ∈ xW := xin (xt6 (i := 236) rfl) rfl
theorem xm191 : xMok (12, yX12_can, cX12_can, 3, (Option.some Jvm.ClassFile.FieldType.int)) := ⟨rfl, xpn12, xw567, xw195, xnh12, by decide⟩
theorem xw568 : Cond.code ⟨"HatsDecideModel", "isClash", "()Z"⟩ prog_14_method_65_code 3 (Option.some Jvm.ClassFile.FieldType.boolean) ∈ xW := xin (xt7 (i := 8) rfl) rfl
theorem xm192 : xMok (12, yX12_isClash, cX12_isClash, 3, (Option.some Jvm.ClassFile.FieldType.boolean)) := ⟨rfl, xpn12, xw568, xw195, xnh12, by decide⟩
theorem xw569 : Cond.code ⟨"HatsDecideModel", "dueFor", "(I)I"⟩ prog_14_method_66_code 3 (Option.some Jvm.ClassFile.FieldType.int) ∈ xW := xin (xt7 (i := 12) rfl) rfl
theorem xm193 : xMok (12, yX12_dueFor, cX12_dueFor, 3, (Option.some Jvm.ClassFile.FieldType.int)) := ⟨rfl, xpn12, xw569, xw195, xnh12, by decide⟩
theorem xw570 : Cond.code ⟨"HatsDecideModel", "isRing", "(I)Z"⟩ prog_14_method_67_code 3 (Option.some Jvm.ClassFile.FieldType.boolean) ∈ xW := xin (xt7 (i := 16) rfl) rfl
theorem xm194 : xMok (12, yX12_isRing, cX12_isRing, 3, (Option.some Jvm.ClassFile.FieldType.boolean)) := ⟨rfl, xpn12, xw570, xw195, xnh12, by decide⟩
theorem xw571 : Cond.code ⟨"HatsDecideModel", "back", "()I"⟩ prog_14_method_68_code 3 (Option.some Jvm.ClassFile.FieldType.int) ∈ xW := xin (xt7 (i := 4) rfl) rfl
theorem xm195 : xMok (12, yX12_back, cX12_back, 3, (Option.some Jvm.ClassFile.FieldType.int)) := ⟨rfl, xpn12, xw571, xw195, xnh12, by decide⟩
theorem xw572 : Cond.code ⟨"HatsDecideModel", "gustedBy", "(I)I"⟩ prog_14_method_69_code 4 (Option.some Jvm.ClassFile.FieldType.int) ∈ xW := xin (xt7 (i := 24) rfl) rfl
theorem xm196 : xMok (12, yX12_gustedBy, cX12_gustedBy, 4, (Option.some Jvm.ClassFile.FieldType.int)) := ⟨rfl, xpn12, xw572, xw195, xnh12, by decide⟩
theorem xw573 : Cond.code ⟨"HatsDecideModel", "gusted", "(I)I"⟩ prog_14_method_70_code 2 (Option.some Jvm.ClassFile.FieldType.int) ∈ xW := xin (xt7 (i := 20) rfl) rfl
theorem xm197 : xMok (12, yX12_gusted, cX12_gusted, 2, (Option.some Jvm.ClassFile.FieldType.int)) := ⟨rfl, xpn12, xw573, xw195, xnh12, by decide⟩
theorem xw574 : Cond.code ⟨"HatsDecideModel", "lucky", "()I"⟩ prog_14_method_71_code 5 (Option.some Jvm.ClassFile.FieldType.int) ∈ xW := xin (xt7 (i := 28) rfl) rfl
theorem xm198 : xMok (12, yX12_lucky, cX12_lucky, 5, (Option.some Jvm.ClassFile.FieldType.int)) := ⟨rfl, xpn12, xw574, xw195, xnh12, by decide⟩
theorem xw575 : Cond.code ⟨"HatsDecideModel", "swap", "()I"⟩ prog_14_method_72_code 6 (Option.some Jvm.ClassFile.FieldType.int) ∈ xW := xin (xt7 (i := 32) rfl) rfl
theorem xm199 : xMok (12, yX12_swap, cX12_swap, 6, (Option.some Jvm.ClassFile.FieldType.int)) := ⟨rfl, xpn12, xw575, xw195, xnh12, by decide⟩
theorem xw576 : Cond.code ⟨"HatsDecideModel", "quarrel", "(III)I"⟩ prog_14_method_73_code 4 (Option.some Jvm.ClassFile.FieldType.int) ∈ xW := xin (xt7 (i := 36) rfl) rfl
theorem xm200 : xMok (12, yX12_quarrel, cX12_quarrel, 4, (Option.some Jvm.ClassFile.FieldType.int)) := ⟨rfl, xpn12, xw576, xw195, xnh12, by decide⟩
theorem xw577 : Cond.code ⟨"HatsDecideModel", "how", "(I)I"⟩ prog_14_method_74_code 5 (Option.some Jvm.ClassFile.FieldType.int) ∈ xW := xin (xt7 (i := 40) rfl) rfl
theorem xm201 : xMok (12, yX12_how, cX12_how, 5, (Option.some Jvm.ClassFile.FieldType.int)) := ⟨rfl, xpn12, xw577, xw195, xnh12, by decide⟩
theorem xw578 : Cond.code ⟨"HatsDecideModel", "see", "(II)I"⟩ prog_14_method_75_code 3 (Option.some Jvm.ClassFile.FieldType.int) ∈ xW := xin (xt7 (i := 44) rfl) rfl
theorem xm202 : xMok (12, yX12_see, cX12_see, 3, (Option.some Jvm.ClassFile.FieldType.int)) := ⟨rfl, xpn12, xw578, xw195, xnh12, by decide⟩
theorem xw579 : Cond.code ⟨"HatsDecideModel", "woreOn", "(I)I"⟩ prog_14_method_76_code 7 (Option.some Jvm.ClassFile.FieldType.int) ∈ xW := xin (xt7 (i := 52) rfl) rfl
theorem xm203 : xMok (12, yX12_woreOn, cX12_woreOn, 7, (Option.some Jvm.ClassFile.FieldType.int)) := ⟨rfl, xpn12, xw579, xw195, xnh12, by decide⟩
theorem xw580 : Cond.code ⟨"HatsDecideModel", "wore", "(I)I"⟩ prog_14_method_77_code 2 (Option.some Jvm.ClassFile.FieldType.int) ∈ xW := xin (xt7 (i := 48) rfl) rfl
theorem xm204 : xMok (12, yX12_wore, cX12_wore, 2, (Option.some Jvm.ClassFile.FieldType.int)) := ⟨rfl, xpn12, xw580, xw195, xnh12, by decide⟩
theorem xw581 : Cond.code ⟨"HatsDecideModel", "who", "()I"⟩ prog_14_method_78_code 7 (Option.some Jvm.ClassFile.FieldType.int) ∈ xW := xin (xt7 (i := 56) rfl) rfl
theorem xm205 : xMok (12, yX12_who, cX12_who, 7, (Option.some Jvm.ClassFile.FieldType.int)) := ⟨rfl, xpn12, xw581, xw195, xnh12, by decide⟩
theorem xw582 : Cond.code ⟨"HatsDecideModel", "divisor", "(II)I"⟩ prog_14_method_79_code 6 (Option.some Jvm.ClassFile.FieldType.int) ∈ xW := xin (xt7 (i := 69) rfl) rfl
theorem xm206 : xMok (12, yX12_divisor, cX12_divisor, 6, (Option.some Jvm.ClassFile.FieldType.int)) := ⟨rfl, xpn12, xw582, xw195, xnh12, by decide⟩
theorem xw583 : Cond.code ⟨"HatsDecideModel", "lowest", "(III)J"⟩ prog_14_method_80_code 5 (Option.some Jvm.ClassFile.FieldType.long) ∈ xW := xin (xt7 (i := 65) rfl) rfl
theorem xm207 : xMok (12, yX12_lowest, cX12_lowest, 5, (Option.some Jvm.ClassFile.FieldType.long)) := ⟨rfl, xpn12, xw583, xw195, xnh12, by decide⟩
theorem xw584 : Cond.code ⟨"HatsDecideModel", "odds", "(II)J"⟩ prog_14_method_81_code 6 (Option.some Jvm.ClassFile.FieldType.long) ∈ xW := xin (xt7 (i := 60) rfl) rfl
theorem xm208 : xMok (12, yX12_odds, cX12_odds, 6, (Option.some Jvm.ClassFile.FieldType.long)) := ⟨rfl, xpn12, xw584, xw195, xnh12, by decide⟩
theorem xw585 : Cond.code ⟨"HatsDecideModel", "mean", "(II)J"⟩ prog_14_method_82_code 5 (Option.some Jvm.ClassFile.FieldType.long) ∈ xW := xin (xt7 (i := 73) rfl) rfl
theorem xm209 : xMok (12, yX12_mean, cX12_mean, 5, (Option.some Jvm.ClassFile.FieldType.long)) := ⟨rfl, xpn12, xw585, xw195, xnh12, by decide⟩
theorem xw586 : Cond.code ⟨"HatsDecideModel", "book", "(II)I"⟩ prog_14_method_83_code 3 (Option.some Jvm.ClassFile.FieldType.int) ∈ xW := xin (xt7 (i := 77) rfl) rfl
theorem xm210 : xMok (12, yX12_book, cX12_book, 3, (Option.some Jvm.ClassFile.FieldType.int)) := ⟨rfl, xpn12, xw586, xw195, xnh12, by decide⟩
theorem xw587 : Cond.code ⟨"HatsDecideModel", "looked", "()I"⟩ prog_14_method_84_code 2 (Option.some Jvm.ClassFile.FieldType.int) ∈ xW := xin (xt7 (i := 81) rfl) rfl
theorem xm211 : xMok (12, yX12_looked, cX12_looked, 2, (Option.some Jvm.ClassFile.FieldType.int)) := ⟨rfl, xpn12, xw587, xw195, xnh12, by decide⟩
theorem xw588 : Cond.code ⟨"HatsDecideModel", "judge", "(II)I"⟩ prog_14_method_85_code 4 (Option.some Jvm.ClassFile.FieldType.int) ∈ xW := xin (xt7 (i := 85) rfl) rfl
theorem xm212 : xMok (12, yX12_judge, cX12_judge, 4, (Option.some Jvm.ClassFile.FieldType.int)) := ⟨rfl, xpn12, xw588, xw195, xnh12, by decide⟩
theorem xw589 : Cond.code ⟨"HatsDecideModel", "image", "()I"⟩ prog_14_method_86_code 2 (Option.some Jvm.ClassFile.FieldType.int) ∈ xW := xin (xt7 (i := 93) rfl) rfl
theorem xm213 : xMok (12, yX12_image, cX12_image, 2, (Option.some Jvm.ClassFile.FieldType.int)) := ⟨rfl, xpn12, xw589, xw195, xnh12, by decide⟩
theorem xw590 : Cond.code ⟨"HatsDecideModel", "undo", "()I"⟩ prog_14_method_87_code 2 (Option.some Jvm.ClassFile.FieldType.int) ∈ xW := xin (xt7 (i := 97) rfl) rfl
theorem xm214 : xMok (12, yX12_undo, cX12_undo, 2, (Option.some Jvm.ClassFile.FieldType.int)) := ⟨rfl, xpn12, xw590, xw195, xnh12, by decide⟩
theorem xw591 : Cond.code ⟨"HatsDecideModel", "body", "(I)V"⟩ prog_14_method_88_code 2 (Option.none : Option Jvm.ClassFile.FieldType) ∈ xW := xin (xt7 (i := 109) rfl) rfl
theorem xm215 : xMok (12, yX12_body, cX12_body, 2, (Option.none : Option Jvm.ClassFile.FieldType)) := ⟨rfl, xpn12, xw591, xw195, xnh12, by decide⟩
theorem xw592 : Cond.code ⟨"HatsDecideModel", "hatSits", "(II)I"⟩ prog_14_method_89_code 3 (Option.some Jvm.ClassFile.FieldType.int) ∈ xW := xin (xt7 (i := 113) rfl) rfl
theorem xm216 : xMok (12, yX12_hatSits, cX12_hatSits, 3, (Option.some Jvm.ClassFile.FieldType.int)) := ⟨rfl, xpn12, xw592, xw195, xnh12, by decide⟩
theorem xw593 : Cond.code ⟨"HatsDecideModel", "sitsAct", "(II)I"⟩ prog_14_method_90_code 3 (Option.some Jvm.ClassFile.FieldType.int) ∈ xW := xin (xt7 (i := 105) rfl) rfl
theorem xm217 : xMok (12, yX12_sitsAct, cX12_sitsAct, 3, (Option.some Jvm.ClassFile.FieldType.int)) := ⟨rfl, xpn12, xw593, xw195, xnh12, by decide⟩
theorem xw594 : Cond.code ⟨"HatsDecideModel", "hatDoes", "(II)I"⟩ prog_14_method_91_code 3 (Option.some Jvm.ClassFile.FieldType.int) ∈ xW := xin (xt7 (i := 125) rfl) rfl
theorem xm218 : xMok (12, yX12_hatDoes, cX12_hatDoes, 3, (Option.some Jvm.ClassFile.FieldType.int)) := ⟨rfl, xpn12, xw594, xw195, xnh12, by decide⟩
theorem xw595 : Cond.code ⟨"HatsDecideModel", "tightDoes", "(II)I"⟩ prog_14_method_92_code 3 (Option.some Jvm.ClassFile.FieldType.int) ∈ xW := xin (xt7 (i := 121) rfl) rfl
theorem xm219 : xMok (12, yX12_tightDoes, cX12_tightDoes, 3, (Option.some Jvm.ClassFile.FieldType.int)) := ⟨rfl, xpn12, xw595, xw195, xnh12, by decide⟩
theorem xw596 : Cond.code ⟨"HatsDecideModel", "doesAct", "(II)I"⟩ prog_14_method_93_code 4 (Option.some Jvm.ClassFile.FieldType.int) ∈ xW := xin (xt7 (i := 117) rfl) rfl
theorem xm220 : xMok (12, yX12_doesAct, cX12_doesAct, 4, (Option.some Jvm.ClassFile.FieldType.int)) := ⟨rfl, xpn12, xw596, xw195, xnh12, by decide⟩
theorem xw597 : Cond.code ⟨"HatsDecideModel", "hatTells", "(II)I"⟩ prog_14_method_94_code 3 (Option.some Jvm.ClassFile.FieldType.int) ∈ xW := xin (xt7 (i := 133) rfl) rfl
theorem xm221 : xMok (12, yX12_hatTells, cX12_hatTells, 3, (Option.some Jvm.ClassFile.FieldType.int)) := ⟨rfl, xpn12, xw597, xw195, xnh12, by decide⟩
theorem xw598 : Cond.code ⟨"HatsDecideModel", "tellsAct", "(II)I"⟩ prog_14_method_95_code 4 (Option.some Jvm.ClassFile.FieldType.int) ∈ xW := xin (xt7 (i := 129) rfl) rfl
theorem xm222 : xMok (12, yX12_tellsAct, cX12_tellsAct, 4, (Option.some Jvm.ClassFile.FieldType.int)) := ⟨rfl, xpn12, xw598, xw195, xnh12, by decide⟩
theorem xw599 : Cond.code ⟨"HatsDecideModel", "act", "(III)I"⟩ prog_14_method_96_code 4 (Option.some Jvm.ClassFile.FieldType.int) ∈ xW := xin (xt7 (i := 101) rfl) rfl
theorem xm223 : xMok (12, yX12_act, cX12_act, 4, (Option.some Jvm.ClassFile.FieldType.int)) := ⟨rfl, xpn12, xw599, xw195, xnh12, by decide⟩
theorem xw600 : Cond.code ⟨"HatsDecideModel", "trace", "(I)I"⟩ prog_14_method_97_code 2 (Option.some Jvm.ClassFile.FieldType.int) ∈ xW := xin (xt7 (i := 137) rfl) rfl
theorem xm224 : xMok (12, yX12_trace, cX12_trace, 2, (Option.some Jvm.ClassFile.FieldType.int)) := ⟨rfl, xpn12, xw600, xw195, xnh12, by decide⟩
theorem xw601 : Cond.code ⟨"HatsDecideModel", "taken", "(II)I"⟩ prog_14_method_98_code 4 (Option.some Jvm.ClassFile.FieldType.int) ∈ xW := xin (xt7 (i := 141) rfl) rfl
theorem xm225 : xMok (12, yX12_taken, cX12_taken, 4, (Option.some Jvm.ClassFile.FieldType.int)) := ⟨rfl, xpn12, xw601, xw195, xnh12, by decide⟩
theorem xw602 : Cond.code ⟨"HatsDecideModel", "count", "(I)I"⟩ prog_14_method_99_code 2 (Option.some Jvm.ClassFile.FieldType.int) ∈ xW := xin (xt7 (i := 145) rfl) rfl
theorem xm226 : xMok (12, yX12_count, cX12_count, 2, (Option.some Jvm.ClassFile.FieldType.int)) := ⟨rfl, xpn12, xw602, xw195, xnh12, by decide⟩
theorem xw603 : Cond.code ⟨"HatsDecideModel", "isTape", "(I)Z"⟩ prog_14_method_100_code 2 (Option.some Jvm.ClassFile.FieldType.boolean) ∈ xW := xin (xt7 (i := 89) rfl) rfl
theorem xm227 : xMok (12, yX12_isTape, cX12_isTape, 2, (Option.some Jvm.ClassFile.FieldType.boolean)) := ⟨rfl, xpn12, xw603, xw195, xnh12, by decide⟩
theorem xw604 : Cond.code ⟨"HatsDecideModel", "tape", "(III)I"⟩ prog_14_method_101_code 5 (Option.some Jvm.ClassFile.FieldType.int) ∈ xW := xin (xt7 (i := 149) rfl) rfl
theorem xm228 : xMok (12, yX12_tape, cX12_tape, 5, (Option.some Jvm.ClassFile.FieldType.int)) := ⟨rfl, xpn12, xw604, xw195, xnh12, by decide⟩
theorem xw605 : Cond.code ⟨"HatsDecideModel", "narrow", "(IJ)J"⟩ prog_14_method_102_code 4 (Option.some Jvm.ClassFile.FieldType.long) ∈ xW := xin (xt7 (i := 157) rfl) rfl
theorem xm229 : xMok (12, yX12_narrow, cX12_narrow, 4, (Option.some Jvm.ClassFile.FieldType.long)) := ⟨rfl, xpn12, xw605, xw195, xnh12, by decide⟩
theorem xw606 : Cond.code ⟨"HatsDecideModel", "item", "(IIJ)I"⟩ prog_14_method_103_code 5 (Option.some Jvm.ClassFile.FieldType.int) ∈ xW := xin (xt7 (i := 153) rfl) rfl
theorem xm230 : xMok (12, yX12_item, cX12_item, 5, (Option.some Jvm.ClassFile.FieldType.int)) := ⟨rfl, xpn12, xw606, xw195, xnh12, by decide⟩
theorem xw607 : Cond.code ⟨"HatsDecideModel", "read", "(II)J"⟩ prog_14_method_104_code 3 (Option.some Jvm.ClassFile.FieldType.long) ∈ xW := xin (xt7 (i := 161) rfl) rfl
theorem xm231 : xMok (12, yX12_read, cX12_read, 3, (Option.some Jvm.ClassFile.FieldType.long)) := ⟨rfl, xpn12, xw607, xw195, xnh12, by decide⟩
theorem xw608 : Cond.code ⟨"HatsDecideModel", "shift", "(IIIII)I"⟩ prog_14_method_105_code 7 (Option.some Jvm.ClassFile.FieldType.int) ∈ xW := xin (xt7 (i := 165) rfl) rfl
theorem xm232 : xMok (12, yX12_shift, cX12_shift, 7, (Option.some Jvm.ClassFile.FieldType.int)) := ⟨rfl, xpn12, xw608, xw195, xnh12, by decide⟩
theorem xw609 : Cond.code ⟨"java/lang/Integer", "compare", "(II)I"⟩ prog_15_method_40_code 2 (Option.some Jvm.ClassFile.FieldType.int) ∈ xW := xin (xt2 (i := 208) rfl) rfl
theorem xw610 : Cond.initialized "java/lang/Integer" ∈ xW := xin (xt1 (i := 16) rfl) rfl
theorem xm233 : xMok (14, yJ6_compare_7cf53, cJ6_compare_7cf53, 2, (Option.some Jvm.ClassFile.FieldType.int)) := ⟨rfl, xpn13, xw609, xw610, xnh13, by decide⟩
theorem xw611 : Cond.code ⟨"java/lang/Integer", "bitCount", "(I)I"⟩ prog_15_method_49_code 1 (Option.some Jvm.ClassFile.FieldType.int) ∈ xW := xin (xt3 (i := 191) rfl) rfl
theorem xm234 : xMok (14, yJ6_bitCount_0f7a4, cJ6_bitCount_0f7a4, 1, (Option.some Jvm.ClassFile.FieldType.int)) := ⟨rfl, xpn13, xw611, xw610, xnh13, by decide⟩
theorem xw612 : Cond.code ⟨"java/lang/String", "length", "()I"⟩ prog_17_method_54_code 1 (Option.some Jvm.ClassFile.FieldType.int) ∈ xW := xin (xt1 (i := 180) rfl) rfl
theorem xw613 : Cond.initialized "java/lang/String" ∈ xW := xin (xt1 (i := 5) rfl) rfl
theorem xm235 : xMok (16, yJ0_length_8abf5, cJ0_length_8abf5, 1, (Option.some Jvm.ClassFile.FieldType.int)) := ⟨rfl, xpn14, xw612, xw613, xnh14, by decide⟩
theorem xw614 : Cond.code ⟨"java/lang/String", "charAt", "(I)C"⟩ prog_17_method_56_code 2 (Option.some Jvm.ClassFile.FieldType.char) ∈ xW := xin (xt3 (i := 63) rfl) rfl
theorem xm236 : xMok (16, yJ0_charAt_5068e, cJ0_charAt_5068e, 2, (Option.some Jvm.ClassFile.FieldType.char)) := ⟨rfl, xpn14, xw614, xw613, xnh14, by decide⟩
theorem xw615 : Cond.code ⟨"java/lang/String", "coder", "()B"⟩ prog_17_method_152_code 1 (Option.some Jvm.ClassFile.FieldType.byte) ∈ xW := xin (xt1 (i := 184) rfl) rfl
theorem xm237 : xMok (16, yJ0_coder_7d493, cJ0_coder_7d493, 1, (Option.some Jvm.ClassFile.FieldType.byte)) := ⟨rfl, xpn14, xw615, xw613, xnh14, by decide⟩
theorem xw616 : Cond.code ⟨"java/lang/String", "isLatin1", "()Z"⟩ prog_17_method_154_code 1 (Option.some Jvm.ClassFile.FieldType.boolean) ∈ xW := xin (xt3 (i := 67) rfl) rfl
theorem xm238 : xMok (16, yJ0_isLatin1_aae02, cJ0_isLatin1_aae02, 1, (Option.some Jvm.ClassFile.FieldType.boolean)) := ⟨rfl, xpn14, xw616, xw613, xnh14, by decide⟩
theorem xw617 : Cond.code ⟨"java/lang/String", "checkIndex", "(II)V"⟩ prog_17_method_155_code 2 (Option.none : Option Jvm.ClassFile.FieldType) ∈ xW := xin (xt3 (i := 73) rfl) rfl
theorem xm239 : xMok (16, yJ0_checkIndex_df160, cJ0_checkIndex_df160, 2, (Option.none : Option Jvm.ClassFile.FieldType)) := ⟨rfl, xpn14, xw617, xw613, xnh14, by decide⟩
theorem xw618 : Cond.code ⟨"java/lang/StringLatin1", "charAt", "([BI)C"⟩ prog_18_method_2_code 2 (Option.some Jvm.ClassFile.FieldType.char) ∈ xW := xin (xt3 (i := 70) rfl) rfl
theorem xw619 : Cond.initialized "java/lang/StringLatin1" ∈ xW := xin (xt1 (i := 17) rfl) rfl
theorem xm240 : xMok (17, yJ1_charAt_3b067, cJ1_charAt_3b067, 2, (Option.some Jvm.ClassFile.FieldType.char)) := ⟨rfl, xpn15, xw618, xw619, xnh15, by decide⟩
theorem xw620 : Cond.code ⟨"java/util/Arrays", "fill", "([JJ)V"⟩ prog_21_method_101_code 5 (Option.none : Option Jvm.ClassFile.FieldType) ∈ xW := xin (xt4 (i := 208) rfl) rfl
theorem xw621 : Cond.initialized "java/util/Arrays" ∈ xW := xin (xt1 (i := 21) rfl) rfl
theorem xm241 : xMok (15, yJ7_fill_d0a16, cJ7_fill_d0a16, 5, (Option.none : Option Jvm.ClassFile.FieldType)) := ⟨rfl, xpn16, xw620, xw621, xnh16, by decide⟩
theorem xw622 : Cond.code ⟨"java/util/Arrays", "fill", "([II)V"⟩ prog_21_method_103_code 4 (Option.none : Option Jvm.ClassFile.FieldType) ∈ xW := xin (xt4 (i := 38) rfl) rfl
theorem xm242 : xMok (15, yJ7_fill_53178, cJ7_fill_53178, 4, (Option.none : Option Jvm.ClassFile.FieldType)) := ⟨rfl, xpn16, xw622, xw621, xnh16, by decide⟩
theorem xw623 : Cond.code ⟨"jdk/internal/util/Preconditions", "checkIndex", "(IILjava/util/function/BiFunction;)I"⟩ prog_22_method_11_code 3 (Option.some Jvm.ClassFile.FieldType.int) ∈ xW := xin (xt3 (i := 78) rfl) rfl
theorem xw624 : Cond.initialized "jdk/internal/util/Preconditions" ∈ xW := xin (xt1 (i := 18) rfl) rfl
theorem xm243 : xMok (18, yJ3_checkIndex_8e157, cJ3_checkIndex_8e157, 3, (Option.some Jvm.ClassFile.FieldType.int)) := ⟨rfl, xpn17, xw623, xw624, xnh17, by decide⟩
def xMt_0 : List xMe := [(0, yX0_init, cX0_init, 7, (Option.none : Option Jvm.ClassFile.FieldType)), (0, yX0_deed, cX0_deed, 5, (Option.some Jvm.ClassFile.FieldType.int)), (0, yX0_tells, cX0_tells, 2, (Option.some Jvm.ClassFile.FieldType.int)), (1, yX1_init, cX1_init, 7, (Option.none : Option Jvm.ClassFile.FieldType)), (1, yX1_deed, cX1_deed, 5, (Option.some Jvm.ClassFile.FieldType.int)), (1, yX1_tells, cX1_tells, 2, (Option.some Jvm.ClassFile.FieldType.int)), (2, yX2_init, cX2_init, 7, (Option.none : Option Jvm.ClassFile.FieldType)), (2, yX2_deed, cX2_deed, 5, (Option.some Jvm.ClassFile.FieldType.int)), (2, yX2_sits, cX2_sits, 2, (Option.some Jvm.ClassFile.FieldType.int)), (2, yX2_does, cX2_does, 2, (Option.some Jvm.ClassFile.FieldType.int)), (2, yX2_tells, cX2_tells, 2, (Option.some Jvm.ClassFile.FieldType.int)), (3, yX3_init, cX3_init, 1, (Option.none : Option Jvm.ClassFile.FieldType)), (3, yX3_isHead, cX3_isHead, 2, (Option.some Jvm.ClassFile.FieldType.boolean)), (3, yX3_isHat, cX3_isHat, 2, (Option.some Jvm.ClassFile.FieldType.boolean)), (3, yX3_wearer, cX3_wearer, 3, (Option.some Jvm.ClassFile.FieldType.int)), (3, yX3_become, cX3_become, 3, (Option.none : Option Jvm.ClassFile.FieldType)), (3, yX3_copy, cX3_copy, 2, (Option.none : Option Jvm.ClassFile.FieldType)), (4, yX4_init, cX4_init, 7, (Option.none : Option Jvm.ClassFile.FieldType)), (4, yX4_deed, cX4_deed, 5, (Option.some Jvm.ClassFile.FieldType.int)), (4, yX4_sits, cX4_sits, 2, (Option.some Jvm.ClassFile.FieldType.int)), (4, yX4_does, cX4_does, 2, (Option.some Jvm.ClassFile.FieldType.int)), (5, yX5_init, cX5_init, 1, (Option.none : Option Jvm.ClassFile.FieldType)), (5, yX5_begin, cX5_begin, 3, (Option.none : Option Jvm.ClassFile.FieldType)), (5, yX5_spans, cX5_spans, 3, (Option.some Jvm.ClassFile.FieldType.boolean)), (5, yX5_asItem, cX5_asItem, 3, (Option.some Jvm.ClassFile.FieldType.long)), (6, yX6_init, cX6_init, 7, (Option.none : Option Jvm.ClassFile.FieldType)), (6, yX6_deed, cX6_deed, 5, (Option.some Jvm.ClassFile.FieldType.int)), (6, yX6_does, cX6_does, 2, (Option.some Jvm.ClassFile.FieldType.int)), (7, yX7_init, cX7_init, 7, (Option.none : Option Jvm.ClassFile.FieldType)), (7, yX7_deed, cX7_deed, 5, (Option.some Jvm.ClassFile.FieldType.int)), (7, yX7_does, cX7_does, 2, (Option.some Jvm.ClassFile.FieldType.int)), (7, yX7_sits, cX7_sits, 2, (Option.some Jvm.ClassFile.FieldType.int))]
theorem xMt_k0 : ∀ e ∈ xMt_0, xMok e := List.forall_mem_cons.mpr ⟨xm0, List.forall_mem_cons.mpr ⟨xm1, List.forall_mem_cons.mpr ⟨xm2, List.forall_mem_cons.mpr ⟨xm3, List.forall_mem_cons.mpr ⟨xm4, List.forall_mem_cons.mpr ⟨xm5, List.forall_mem_cons.mpr ⟨xm6, List.forall_mem_cons.mpr ⟨xm7, List.forall_mem_cons.mpr ⟨xm8, List.forall_mem_cons.mpr ⟨xm9, List.forall_mem_cons.mpr ⟨xm10, List.forall_mem_cons.mpr ⟨xm11, List.forall_mem_cons.mpr ⟨xm12, List.forall_mem_cons.mpr ⟨xm13, List.forall_mem_cons.mpr ⟨xm14, List.forall_mem_cons.mpr ⟨xm15, List.forall_mem_cons.mpr ⟨xm16, List.forall_mem_cons.mpr ⟨xm17, List.forall_mem_cons.mpr ⟨xm18, List.forall_mem_cons.mpr ⟨xm19, List.forall_mem_cons.mpr ⟨xm20, List.forall_mem_cons.mpr ⟨xm21, List.forall_mem_cons.mpr ⟨xm22, List.forall_mem_cons.mpr ⟨xm23, List.forall_mem_cons.mpr ⟨xm24, List.forall_mem_cons.mpr ⟨xm25, List.forall_mem_cons.mpr ⟨xm26, List.forall_mem_cons.mpr ⟨xm27, List.forall_mem_cons.mpr ⟨xm28, List.forall_mem_cons.mpr ⟨xm29, List.forall_mem_cons.mpr ⟨xm30, List.forall_mem_cons.mpr ⟨xm31, fun _ h => absurd h List.not_mem_nil⟩⟩⟩⟩⟩⟩⟩⟩⟩⟩⟩⟩⟩⟩⟩⟩⟩⟩⟩⟩⟩⟩⟩⟩⟩⟩⟩⟩⟩⟩⟩⟩
def xMt_1 : List xMe := [(8, yX8_init, cX8_init, 1, (Option.none : Option Jvm.ClassFile.FieldType)), (8, yX8_moth, cX8_moth, 3, (Option.some Jvm.ClassFile.FieldType.int)), (8, yX8_work, cX8_work, 4, (Option.some Jvm.ClassFile.FieldType.int)), (8, yX8_fits, cX8_fits, 4, (Option.some Jvm.ClassFile.FieldType.int)), (8, yX8_holds, cX8_holds, 5, (Option.some Jvm.ClassFile.FieldType.boolean)), (8, yX8_codeOf, cX8_codeOf, 3, (Option.some Jvm.ClassFile.FieldType.int)), (8, yX8_isTrue, cX8_isTrue, 4, (Option.some Jvm.ClassFile.FieldType.boolean)), (8, yX8_parse, cX8_parse, 4, (Option.some Jvm.ClassFile.FieldType.int)), (8, yX8_parseClause, cX8_parseClause, 3, (Option.none : Option Jvm.ClassFile.FieldType)), (8, yX8_parseEither, cX8_parseEither, 4, (Option.none : Option Jvm.ClassFile.FieldType)), (8, yX8_parsePart, cX8_parsePart, 4, (Option.none : Option Jvm.ClassFile.FieldType)), (8, yX8_parseNumber, cX8_parseNumber, 3, (Option.some Jvm.ClassFile.FieldType.int)), (8, yX8_addCode, cX8_addCode, 2, (Option.none : Option Jvm.ClassFile.FieldType)), (8, yX8_isNext, cX8_isNext, 2, (Option.some Jvm.ClassFile.FieldType.boolean)), (8, yX8_expect, cX8_expect, 2, (Option.none : Option Jvm.ClassFile.FieldType)), (8, yX8_oneOf, cX8_oneOf, 3, (Option.some Jvm.ClassFile.FieldType.int)), (9, yX9_init, cX9_init, 1, (Option.none : Option Jvm.ClassFile.FieldType)), (9, yX9_clear, cX9_clear, 1, (Option.none : Option Jvm.ClassFile.FieldType)), (9, yX9_note, cX9_note, 2, (Option.none : Option Jvm.ClassFile.FieldType)), (10, yX10_init, cX10_init, 7, (Option.none : Option Jvm.ClassFile.FieldType)), (10, yX10_deed, cX10_deed, 5, (Option.some Jvm.ClassFile.FieldType.int)), (10, yX10_sits, cX10_sits, 2, (Option.some Jvm.ClassFile.FieldType.int)), (11, yX11_init, cX11_init, 2, (Option.none : Option Jvm.ClassFile.FieldType)), (11, yX11_head, cX11_head, 3, (Option.some Jvm.ClassFile.FieldType.int)), (11, yX11_hat, cX11_hat, 8, (Option.some Jvm.ClassFile.FieldType.int)), (11, yX11_newHat, cX11_newHat, 6, (Option.some (Jvm.ClassFile.FieldType.object "HatsDecide$Hat"))), (11, yX11_of, cX11_of, 4, (Option.some Jvm.ClassFile.FieldType.int)), (11, yX11_at, cX11_at, 3, (Option.some Jvm.ClassFile.FieldType.int)), (11, yX11_row, cX11_row, 6, (Option.some Jvm.ClassFile.FieldType.int)), (11, yX11_put, cX11_put, 4, (Option.some Jvm.ClassFile.FieldType.int)), (11, yX11_own, cX11_own, 4, (Option.some Jvm.ClassFile.FieldType.int)), (11, yX11_skill, cX11_skill, 4, (Option.some Jvm.ClassFile.FieldType.int))]
theorem xMt_k1 : ∀ e ∈ xMt_1, xMok e := List.forall_mem_cons.mpr ⟨xm32, List.forall_mem_cons.mpr ⟨xm33, List.forall_mem_cons.mpr ⟨xm34, List.forall_mem_cons.mpr ⟨xm35, List.forall_mem_cons.mpr ⟨xm36, List.forall_mem_cons.mpr ⟨xm37, List.forall_mem_cons.mpr ⟨xm38, List.forall_mem_cons.mpr ⟨xm39, List.forall_mem_cons.mpr ⟨xm40, List.forall_mem_cons.mpr ⟨xm41, List.forall_mem_cons.mpr ⟨xm42, List.forall_mem_cons.mpr ⟨xm43, List.forall_mem_cons.mpr ⟨xm44, List.forall_mem_cons.mpr ⟨xm45, List.forall_mem_cons.mpr ⟨xm46, List.forall_mem_cons.mpr ⟨xm47, List.forall_mem_cons.mpr ⟨xm48, List.forall_mem_cons.mpr ⟨xm49, List.forall_mem_cons.mpr ⟨xm50, List.forall_mem_cons.mpr ⟨xm51, List.forall_mem_cons.mpr ⟨xm52, List.forall_mem_cons.mpr ⟨xm53, List.forall_mem_cons.mpr ⟨xm54, List.forall_mem_cons.mpr ⟨xm55, List.forall_mem_cons.mpr ⟨xm56, List.forall_mem_cons.mpr ⟨xm57, List.forall_mem_cons.mpr ⟨xm58, List.forall_mem_cons.mpr ⟨xm59, List.forall_mem_cons.mpr ⟨xm60, List.forall_mem_cons.mpr ⟨xm61, List.forall_mem_cons.mpr ⟨xm62, List.forall_mem_cons.mpr ⟨xm63, fun _ h => absurd h List.not_mem_nil⟩⟩⟩⟩⟩⟩⟩⟩⟩⟩⟩⟩⟩⟩⟩⟩⟩⟩⟩⟩⟩⟩⟩⟩⟩⟩⟩⟩⟩⟩⟩⟩
def xMt_2 : List xMe := [(11, yX11_feed, cX11_feed, 2, (Option.some Jvm.ClassFile.FieldType.int)), (11, yX11_town, cX11_town, 2, (Option.some Jvm.ClassFile.FieldType.int)), (11, yX11_told, cX11_told, 2, (Option.some Jvm.ClassFile.FieldType.int)), (11, yX11_day, cX11_day, 4, (Option.some Jvm.ClassFile.FieldType.int)), (11, yX11_gust, cX11_gust, 4, (Option.some Jvm.ClassFile.FieldType.int)), (11, yX11_change, cX11_change, 4, (Option.some Jvm.ClassFile.FieldType.int)), (11, yX11_today, cX11_today, 2, (Option.some Jvm.ClassFile.FieldType.int)), (11, yX11_enough, cX11_enough, 3, (Option.some Jvm.ClassFile.FieldType.int)), (11, yX11_best, cX11_best, 6, (Option.some Jvm.ClassFile.FieldType.int)), (11, yX11_on, cX11_on, 5, (Option.some Jvm.ClassFile.FieldType.int)), (11, yX11_lasts, cX11_lasts, 3, (Option.some Jvm.ClassFile.FieldType.int)), (11, yX11_by, cX11_by, 2, (Option.some Jvm.ClassFile.FieldType.int)), (11, yX11_can, cX11_can, 3, (Option.some Jvm.ClassFile.FieldType.int)), (11, yX11_back, cX11_back, 5, (Option.some Jvm.ClassFile.FieldType.int)), (11, yX11_gusted, cX11_gusted, 2, (Option.some Jvm.ClassFile.FieldType.int)), (11, yX11_lucky, cX11_lucky, 5, (Option.some Jvm.ClassFile.FieldType.int)), (11, yX11_swap, cX11_swap, 6, (Option.some Jvm.ClassFile.FieldType.int)), (11, yX11_quarrel, cX11_quarrel, 4, (Option.some Jvm.ClassFile.FieldType.int)), (11, yX11_how, cX11_how, 6, (Option.some Jvm.ClassFile.FieldType.int)), (11, yX11_see, cX11_see, 3, (Option.some Jvm.ClassFile.FieldType.int)), (11, yX11_wore, cX11_wore, 2, (Option.some Jvm.ClassFile.FieldType.int)), (11, yX11_who, cX11_who, 3, (Option.some Jvm.ClassFile.FieldType.int)), (11, yX11_odds, cX11_odds, 5, (Option.some Jvm.ClassFile.FieldType.long)), (11, yX11_mean, cX11_mean, 5, (Option.some Jvm.ClassFile.FieldType.long)), (11, yX11_book, cX11_book, 3, (Option.some Jvm.ClassFile.FieldType.int)), (11, yX11_looked, cX11_looked, 2, (Option.some Jvm.ClassFile.FieldType.int)), (11, yX11_judge, cX11_judge, 5, (Option.some Jvm.ClassFile.FieldType.int)), (11, yX11_image, cX11_image, 1, (Option.some Jvm.ClassFile.FieldType.int)), (11, yX11_undo, cX11_undo, 1, (Option.some Jvm.ClassFile.FieldType.int)), (11, yX11_act, cX11_act, 4, (Option.some Jvm.ClassFile.FieldType.int)), (11, yX11_trace, cX11_trace, 2, (Option.some Jvm.ClassFile.FieldType.int)), (11, yX11_taken, cX11_taken, 3, (Option.some Jvm.ClassFile.FieldType.int))]
theorem xMt_k2 : ∀ e ∈ xMt_2, xMok e := List.forall_mem_cons.mpr ⟨xm64, List.forall_mem_cons.mpr ⟨xm65, List.forall_mem_cons.mpr ⟨xm66, List.forall_mem_cons.mpr ⟨xm67, List.forall_mem_cons.mpr ⟨xm68, List.forall_mem_cons.mpr ⟨xm69, List.forall_mem_cons.mpr ⟨xm70, List.forall_mem_cons.mpr ⟨xm71, List.forall_mem_cons.mpr ⟨xm72, List.forall_mem_cons.mpr ⟨xm73, List.forall_mem_cons.mpr ⟨xm74, List.forall_mem_cons.mpr ⟨xm75, List.forall_mem_cons.mpr ⟨xm76, List.forall_mem_cons.mpr ⟨xm77, List.forall_mem_cons.mpr ⟨xm78, List.forall_mem_cons.mpr ⟨xm79, List.forall_mem_cons.mpr ⟨xm80, List.forall_mem_cons.mpr ⟨xm81, List.forall_mem_cons.mpr ⟨xm82, List.forall_mem_cons.mpr ⟨xm83, List.forall_mem_cons.mpr ⟨xm84, List.forall_mem_cons.mpr ⟨xm85, List.forall_mem_cons.mpr ⟨xm86, List.forall_mem_cons.mpr ⟨xm87, List.forall_mem_cons.mpr ⟨xm88, List.forall_mem_cons.mpr ⟨xm89, List.forall_mem_cons.mpr ⟨xm90, List.forall_mem_cons.mpr ⟨xm91, List.forall_mem_cons.mpr ⟨xm92, List.forall_mem_cons.mpr ⟨xm93, List.forall_mem_cons.mpr ⟨xm94, List.forall_mem_cons.mpr ⟨xm95, fun _ h => absurd h List.not_mem_nil⟩⟩⟩⟩⟩⟩⟩⟩⟩⟩⟩⟩⟩⟩⟩⟩⟩⟩⟩⟩⟩⟩⟩⟩⟩⟩⟩⟩⟩⟩⟩⟩
def xMt_3 : List xMe := [(11, yX11_count, cX11_count, 2, (Option.some Jvm.ClassFile.FieldType.int)), (11, yX11_tape, cX11_tape, 4, (Option.some Jvm.ClassFile.FieldType.int)), (11, yX11_item, cX11_item, 6, (Option.some Jvm.ClassFile.FieldType.int)), (11, yX11_read, cX11_read, 3, (Option.some Jvm.ClassFile.FieldType.long)), (11, yX11_shift, cX11_shift, 8, (Option.some Jvm.ClassFile.FieldType.int)), (11, yX11_within, cX11_within, 3, (Option.some Jvm.ClassFile.FieldType.boolean)), (11, yX11_isDigit, cX11_isDigit, 1, (Option.some Jvm.ClassFile.FieldType.boolean)), (11, yX11_isTrade, cX11_isTrade, 1, (Option.some Jvm.ClassFile.FieldType.boolean)), (11, yX11_isGust, cX11_isGust, 1, (Option.some Jvm.ClassFile.FieldType.boolean)), (11, yX11_isTape, cX11_isTape, 1, (Option.some Jvm.ClassFile.FieldType.boolean)), (11, yX11_isHeadOrEmpty, cX11_isHeadOrEmpty, 2, (Option.some Jvm.ClassFile.FieldType.boolean)), (11, yX11_orNotAny, cX11_orNotAny, 1, (Option.some Jvm.ClassFile.FieldType.int)), (11, yX11_isOfKind, cX11_isOfKind, 2, (Option.some Jvm.ClassFile.FieldType.boolean)), (11, yX11_holding, cX11_holding, 1, (Option.some (Jvm.ClassFile.FieldType.object "HatsDecide$Town"))), (11, yX11_deedOn, cX11_deedOn, 11, (Option.some Jvm.ClassFile.FieldType.int)), (11, yX11_total, cX11_total, 7, (Option.some Jvm.ClassFile.FieldType.int)), (11, yX11_isEnough, cX11_isEnough, 4, (Option.some Jvm.ClassFile.FieldType.boolean)), (11, yX11_noteDeeds, cX11_noteDeeds, 3, (Option.none : Option Jvm.ClassFile.FieldType)), (11, yX11_noted, cX11_noted, 3, (Option.some Jvm.ClassFile.FieldType.int)), (11, yX11_hatsOf, cX11_hatsOf, 4, (Option.some Jvm.ClassFile.FieldType.int)), (11, yX11_weighWays, cX11_weighWays, 5, (Option.none : Option Jvm.ClassFile.FieldType)), (11, yX11_mostFrom, cX11_mostFrom, 6, (Option.some Jvm.ClassFile.FieldType.int)), (11, yX11_mostWith, cX11_mostWith, 5, (Option.some Jvm.ClassFile.FieldType.int)), (11, yX11_wornByBestWay, cX11_wornByBestWay, 5, (Option.some Jvm.ClassFile.FieldType.int)), (11, yX11_firstOfBest, cX11_firstOfBest, 5, (Option.some Jvm.ClassFile.FieldType.int)), (11, yX11_isOwnedBelow, cX11_isOwnedBelow, 4, (Option.some Jvm.ClassFile.FieldType.boolean)), (11, yX11_joinGroups, cX11_joinGroups, 4, (Option.some Jvm.ClassFile.FieldType.boolean)), (11, yX11_isSeen, cX11_isSeen, 3, (Option.some Jvm.ClassFile.FieldType.boolean)), (11, yX11_isAsSeen, cX11_isAsSeen, 4, (Option.some Jvm.ClassFile.FieldType.boolean)), (11, yX11_wearers, cX11_wearers, 4, (Option.some Jvm.ClassFile.FieldType.int)), (11, yX11_addHatToWays, cX11_addHatToWays, 5, (Option.none : Option Jvm.ClassFile.FieldType)), (11, yX11_perHeads, cX11_perHeads, 4, (Option.some Jvm.ClassFile.FieldType.long))]
theorem xMt_k3 : ∀ e ∈ xMt_3, xMok e := List.forall_mem_cons.mpr ⟨xm96, List.forall_mem_cons.mpr ⟨xm97, List.forall_mem_cons.mpr ⟨xm98, List.forall_mem_cons.mpr ⟨xm99, List.forall_mem_cons.mpr ⟨xm100, List.forall_mem_cons.mpr ⟨xm101, List.forall_mem_cons.mpr ⟨xm102, List.forall_mem_cons.mpr ⟨xm103, List.forall_mem_cons.mpr ⟨xm104, List.forall_mem_cons.mpr ⟨xm105, List.forall_mem_cons.mpr ⟨xm106, List.forall_mem_cons.mpr ⟨xm107, List.forall_mem_cons.mpr ⟨xm108, List.forall_mem_cons.mpr ⟨xm109, List.forall_mem_cons.mpr ⟨xm110, List.forall_mem_cons.mpr ⟨xm111, List.forall_mem_cons.mpr ⟨xm112, List.forall_mem_cons.mpr ⟨xm113, List.forall_mem_cons.mpr ⟨xm114, List.forall_mem_cons.mpr ⟨xm115, List.forall_mem_cons.mpr ⟨xm116, List.forall_mem_cons.mpr ⟨xm117, List.forall_mem_cons.mpr ⟨xm118, List.forall_mem_cons.mpr ⟨xm119, List.forall_mem_cons.mpr ⟨xm120, List.forall_mem_cons.mpr ⟨xm121, List.forall_mem_cons.mpr ⟨xm122, List.forall_mem_cons.mpr ⟨xm123, List.forall_mem_cons.mpr ⟨xm124, List.forall_mem_cons.mpr ⟨xm125, List.forall_mem_cons.mpr ⟨xm126, List.forall_mem_cons.mpr ⟨xm127, fun _ h => absurd h List.not_mem_nil⟩⟩⟩⟩⟩⟩⟩⟩⟩⟩⟩⟩⟩⟩⟩⟩⟩⟩⟩⟩⟩⟩⟩⟩⟩⟩⟩⟩⟩⟩⟩⟩
def xMt_4 : List xMe := [(12, yX12_init, cX12_init, 1, (Option.none : Option Jvm.ClassFile.FieldType)), (12, yX12_in, cX12_in, 4, (Option.some Jvm.ClassFile.FieldType.boolean)), (12, yX12_has, cX12_has, 3, (Option.some Jvm.ClassFile.FieldType.boolean)), (12, yX12_most, cX12_most, 3, (Option.some Jvm.ClassFile.FieldType.int)), (12, yX12_isHead, cX12_isHead, 2, (Option.some Jvm.ClassFile.FieldType.boolean)), (12, yX12_isHat, cX12_isHat, 2, (Option.some Jvm.ClassFile.FieldType.boolean)), (12, yX12_isTrade, cX12_isTrade, 2, (Option.some Jvm.ClassFile.FieldType.boolean)), (12, yX12_orNone, cX12_orNone, 2, (Option.some Jvm.ClassFile.FieldType.int)), (12, yX12_head, cX12_head, 2, (Option.some Jvm.ClassFile.FieldType.int)), (12, yX12_hat, cX12_hat, 7, (Option.some Jvm.ClassFile.FieldType.int)), (12, yX12_headOf, cX12_headOf, 3, (Option.some Jvm.ClassFile.FieldType.int)), (12, yX12_row, cX12_row, 5, (Option.some Jvm.ClassFile.FieldType.int)), (12, yX12_put, cX12_put, 4, (Option.some Jvm.ClassFile.FieldType.int)), (12, yX12_own, cX12_own, 4, (Option.some Jvm.ClassFile.FieldType.int)), (12, yX12_skill, cX12_skill, 4, (Option.some Jvm.ClassFile.FieldType.int)), (12, yX12_feed, cX12_feed, 2, (Option.some Jvm.ClassFile.FieldType.int)), (12, yX12_next, cX12_next, 1, (Option.some Jvm.ClassFile.FieldType.int)), (12, yX12_takes, cX12_takes, 2, (Option.some Jvm.ClassFile.FieldType.boolean)), (12, yX12_takesWord, cX12_takesWord, 4, (Option.some Jvm.ClassFile.FieldType.boolean)), (12, yX12_isDigit, cX12_isDigit, 1, (Option.some Jvm.ClassFile.FieldType.boolean)), (12, yX12_takesNumber, cX12_takesNumber, 2, (Option.some Jvm.ClassFile.FieldType.boolean)), (12, yX12_emits, cX12_emits, 2, (Option.none : Option Jvm.ClassFile.FieldType)), (12, yX12_whole, cX12_whole, 1, (Option.none : Option Jvm.ClassFile.FieldType)), (12, yX12_settle, cX12_settle, 2, (Option.none : Option Jvm.ClassFile.FieldType)), (12, yX12_place, cX12_place, 2, (Option.some Jvm.ClassFile.FieldType.int)), (12, yX12_takesTest, cX12_takesTest, 3, (Option.some Jvm.ClassFile.FieldType.boolean)), (12, yX12_takesE, cX12_takesE, 4, (Option.some Jvm.ClassFile.FieldType.boolean)), (12, yX12_takesHead, cX12_takesHead, 2, (Option.some Jvm.ClassFile.FieldType.boolean)), (12, yX12_takesClause, cX12_takesClause, 2, (Option.some Jvm.ClassFile.FieldType.boolean)), (12, yX12_goesText, cX12_goesText, 3, (Option.some Jvm.ClassFile.FieldType.boolean)), (12, yX12_town, cX12_town, 2, (Option.some Jvm.ClassFile.FieldType.int)), (12, yX12_begin, cX12_begin, 1, (Option.some Jvm.ClassFile.FieldType.int))]
theorem xMt_k4 : ∀ e ∈ xMt_4, xMok e := List.forall_mem_cons.mpr ⟨xm128, List.forall_mem_cons.mpr ⟨xm129, List.forall_mem_cons.mpr ⟨xm130, List.forall_mem_cons.mpr ⟨xm131, List.forall_mem_cons.mpr ⟨xm132, List.forall_mem_cons.mpr ⟨xm133, List.forall_mem_cons.mpr ⟨xm134, List.forall_mem_cons.mpr ⟨xm135, List.forall_mem_cons.mpr ⟨xm136, List.forall_mem_cons.mpr ⟨xm137, List.forall_mem_cons.mpr ⟨xm138, List.forall_mem_cons.mpr ⟨xm139, List.forall_mem_cons.mpr ⟨xm140, List.forall_mem_cons.mpr ⟨xm141, List.forall_mem_cons.mpr ⟨xm142, List.forall_mem_cons.mpr ⟨xm143, List.forall_mem_cons.mpr ⟨xm144, List.forall_mem_cons.mpr ⟨xm145, List.forall_mem_cons.mpr ⟨xm146, List.forall_mem_cons.mpr ⟨xm147, List.forall_mem_cons.mpr ⟨xm148, List.forall_mem_cons.mpr ⟨xm149, List.forall_mem_cons.mpr ⟨xm150, List.forall_mem_cons.mpr ⟨xm151, List.forall_mem_cons.mpr ⟨xm152, List.forall_mem_cons.mpr ⟨xm153, List.forall_mem_cons.mpr ⟨xm154, List.forall_mem_cons.mpr ⟨xm155, List.forall_mem_cons.mpr ⟨xm156, List.forall_mem_cons.mpr ⟨xm157, List.forall_mem_cons.mpr ⟨xm158, List.forall_mem_cons.mpr ⟨xm159, fun _ h => absurd h List.not_mem_nil⟩⟩⟩⟩⟩⟩⟩⟩⟩⟩⟩⟩⟩⟩⟩⟩⟩⟩⟩⟩⟩⟩⟩⟩⟩⟩⟩⟩⟩⟩⟩⟩
def xMt_5 : List xMe := [(12, yX12_behind, cX12_behind, 1, (Option.some Jvm.ClassFile.FieldType.int)), (12, yX12_moth, cX12_moth, 3, (Option.some Jvm.ClassFile.FieldType.int)), (12, yX12_work, cX12_work, 4, (Option.some Jvm.ClassFile.FieldType.int)), (12, yX12_factOf, cX12_factOf, 4, (Option.some Jvm.ClassFile.FieldType.int)), (12, yX12_holds, cX12_holds, 9, (Option.some Jvm.ClassFile.FieldType.boolean)), (12, yX12_fits, cX12_fits, 5, (Option.some Jvm.ClassFile.FieldType.int)), (12, yX12_apart, cX12_apart, 3, (Option.some Jvm.ClassFile.FieldType.int)), (12, yX12_deed, cX12_deed, 4, (Option.some Jvm.ClassFile.FieldType.int)), (12, yX12_of, cX12_of, 3, (Option.some Jvm.ClassFile.FieldType.int)), (12, yX12_at, cX12_at, 3, (Option.some Jvm.ClassFile.FieldType.int)), (12, yX12_told, cX12_told, 2, (Option.some Jvm.ClassFile.FieldType.int)), (12, yX12_todayOf, cX12_todayOf, 4, (Option.some Jvm.ClassFile.FieldType.int)), (12, yX12_goDay, cX12_goDay, 2, (Option.none : Option Jvm.ClassFile.FieldType)), (12, yX12_day, cX12_day, 4, (Option.some Jvm.ClassFile.FieldType.int)), (12, yX12_goGust, cX12_goGust, 4, (Option.some Jvm.ClassFile.FieldType.int)), (12, yX12_gust, cX12_gust, 2, (Option.some Jvm.ClassFile.FieldType.int)), (12, yX12_swaps, cX12_swaps, 4, (Option.none : Option Jvm.ClassFile.FieldType)), (12, yX12_change, cX12_change, 3, (Option.some Jvm.ClassFile.FieldType.int)), (12, yX12_today, cX12_today, 2, (Option.some Jvm.ClassFile.FieldType.int)), (12, yX12_enough, cX12_enough, 3, (Option.some Jvm.ClassFile.FieldType.int)), (12, yX12_best, cX12_best, 6, (Option.some Jvm.ClassFile.FieldType.int)), (12, yX12_save, cX12_save, 2, (Option.none : Option Jvm.ClassFile.FieldType)), (12, yX12_putBack, cX12_putBack, 2, (Option.none : Option Jvm.ClassFile.FieldType)), (12, yX12_on, cX12_on, 5, (Option.some Jvm.ClassFile.FieldType.int)), (12, yX12_lasts, cX12_lasts, 3, (Option.some Jvm.ClassFile.FieldType.int)), (12, yX12_layDeeds, cX12_layDeeds, 3, (Option.none : Option Jvm.ClassFile.FieldType)), (12, yX12_ones, cX12_ones, 4, (Option.some Jvm.ClassFile.FieldType.int)), (12, yX12_onwardBy, cX12_onwardBy, 5, (Option.some Jvm.ClassFile.FieldType.int)), (12, yX12_layBest, cX12_layBest, 6, (Option.none : Option Jvm.ClassFile.FieldType)), (12, yX12_by, cX12_by, 2, (Option.some Jvm.ClassFile.FieldType.int)), (12, yX12_mostOf, cX12_mostOf, 6, (Option.some Jvm.ClassFile.FieldType.int)), (12, yX12_can, cX12_can, 3, (Option.some Jvm.ClassFile.FieldType.int))]
theorem xMt_k5 : ∀ e ∈ xMt_5, xMok e := List.forall_mem_cons.mpr ⟨xm160, List.forall_mem_cons.mpr ⟨xm161, List.forall_mem_cons.mpr ⟨xm162, List.forall_mem_cons.mpr ⟨xm163, List.forall_mem_cons.mpr ⟨xm164, List.forall_mem_cons.mpr ⟨xm165, List.forall_mem_cons.mpr ⟨xm166, List.forall_mem_cons.mpr ⟨xm167, List.forall_mem_cons.mpr ⟨xm168, List.forall_mem_cons.mpr ⟨xm169, List.forall_mem_cons.mpr ⟨xm170, List.forall_mem_cons.mpr ⟨xm171, List.forall_mem_cons.mpr ⟨xm172, List.forall_mem_cons.mpr ⟨xm173, List.forall_mem_cons.mpr ⟨xm174, List.forall_mem_cons.mpr ⟨xm175, List.forall_mem_cons.mpr ⟨xm176, List.forall_mem_cons.mpr ⟨xm177, List.forall_mem_cons.mpr ⟨xm178, List.forall_mem_cons.mpr ⟨xm179, List.forall_mem_cons.mpr ⟨xm180, List.forall_mem_cons.mpr ⟨xm181, List.forall_mem_cons.mpr ⟨xm182, List.forall_mem_cons.mpr ⟨xm183, List.forall_mem_cons.mpr ⟨xm184, List.forall_mem_cons.mpr ⟨xm185, List.forall_mem_cons.mpr ⟨xm186, List.forall_mem_cons.mpr ⟨xm187, List.forall_mem_cons.mpr ⟨xm188, List.forall_mem_cons.mpr ⟨xm189, List.forall_mem_cons.mpr ⟨xm190, List.forall_mem_cons.mpr ⟨xm191, fun _ h => absurd h List.not_mem_nil⟩⟩⟩⟩⟩⟩⟩⟩⟩⟩⟩⟩⟩⟩⟩⟩⟩⟩⟩⟩⟩⟩⟩⟩⟩⟩⟩⟩⟩⟩⟩⟩
def xMt_6 : List xMe := [(12, yX12_isClash, cX12_isClash, 3, (Option.some Jvm.ClassFile.FieldType.boolean)), (12, yX12_dueFor, cX12_dueFor, 3, (Option.some Jvm.ClassFile.FieldType.int)), (12, yX12_isRing, cX12_isRing, 3, (Option.some Jvm.ClassFile.FieldType.boolean)), (12, yX12_back, cX12_back, 3, (Option.some Jvm.ClassFile.FieldType.int)), (12, yX12_gustedBy, cX12_gustedBy, 4, (Option.some Jvm.ClassFile.FieldType.int)), (12, yX12_gusted, cX12_gusted, 2, (Option.some Jvm.ClassFile.FieldType.int)), (12, yX12_lucky, cX12_lucky, 5, (Option.some Jvm.ClassFile.FieldType.int)), (12, yX12_swap, cX12_swap, 6, (Option.some Jvm.ClassFile.FieldType.int)), (12, yX12_quarrel, cX12_quarrel, 4, (Option.some Jvm.ClassFile.FieldType.int)), (12, yX12_how, cX12_how, 5, (Option.some Jvm.ClassFile.FieldType.int)), (12, yX12_see, cX12_see, 3, (Option.some Jvm.ClassFile.FieldType.int)), (12, yX12_woreOn, cX12_woreOn, 7, (Option.some Jvm.ClassFile.FieldType.int)), (12, yX12_wore, cX12_wore, 2, (Option.some Jvm.ClassFile.FieldType.int)), (12, yX12_who, cX12_who, 7, (Option.some Jvm.ClassFile.FieldType.int)), (12, yX12_divisor, cX12_divisor, 6, (Option.some Jvm.ClassFile.FieldType.int)), (12, yX12_lowest, cX12_lowest, 5, (Option.some Jvm.ClassFile.FieldType.long)), (12, yX12_odds, cX12_odds, 6, (Option.some Jvm.ClassFile.FieldType.long)), (12, yX12_mean, cX12_mean, 5, (Option.some Jvm.ClassFile.FieldType.long)), (12, yX12_book, cX12_book, 3, (Option.some Jvm.ClassFile.FieldType.int)), (12, yX12_looked, cX12_looked, 2, (Option.some Jvm.ClassFile.FieldType.int)), (12, yX12_judge, cX12_judge, 4, (Option.some Jvm.ClassFile.FieldType.int)), (12, yX12_image, cX12_image, 2, (Option.some Jvm.ClassFile.FieldType.int)), (12, yX12_undo, cX12_undo, 2, (Option.some Jvm.ClassFile.FieldType.int)), (12, yX12_body, cX12_body, 2, (Option.none : Option Jvm.ClassFile.FieldType)), (12, yX12_hatSits, cX12_hatSits, 3, (Option.some Jvm.ClassFile.FieldType.int)), (12, yX12_sitsAct, cX12_sitsAct, 3, (Option.some Jvm.ClassFile.FieldType.int)), (12, yX12_hatDoes, cX12_hatDoes, 3, (Option.some Jvm.ClassFile.FieldType.int)), (12, yX12_tightDoes, cX12_tightDoes, 3, (Option.some Jvm.ClassFile.FieldType.int)), (12, yX12_doesAct, cX12_doesAct, 4, (Option.some Jvm.ClassFile.FieldType.int)), (12, yX12_hatTells, cX12_hatTells, 3, (Option.some Jvm.ClassFile.FieldType.int)), (12, yX12_tellsAct, cX12_tellsAct, 4, (Option.some Jvm.ClassFile.FieldType.int)), (12, yX12_act, cX12_act, 4, (Option.some Jvm.ClassFile.FieldType.int))]
theorem xMt_k6 : ∀ e ∈ xMt_6, xMok e := List.forall_mem_cons.mpr ⟨xm192, List.forall_mem_cons.mpr ⟨xm193, List.forall_mem_cons.mpr ⟨xm194, List.forall_mem_cons.mpr ⟨xm195, List.forall_mem_cons.mpr ⟨xm196, List.forall_mem_cons.mpr ⟨xm197, List.forall_mem_cons.mpr ⟨xm198, List.forall_mem_cons.mpr ⟨xm199, List.forall_mem_cons.mpr ⟨xm200, List.forall_mem_cons.mpr ⟨xm201, List.forall_mem_cons.mpr ⟨xm202, List.forall_mem_cons.mpr ⟨xm203, List.forall_mem_cons.mpr ⟨xm204, List.forall_mem_cons.mpr ⟨xm205, List.forall_mem_cons.mpr ⟨xm206, List.forall_mem_cons.mpr ⟨xm207, List.forall_mem_cons.mpr ⟨xm208, List.forall_mem_cons.mpr ⟨xm209, List.forall_mem_cons.mpr ⟨xm210, List.forall_mem_cons.mpr ⟨xm211, List.forall_mem_cons.mpr ⟨xm212, List.forall_mem_cons.mpr ⟨xm213, List.forall_mem_cons.mpr ⟨xm214, List.forall_mem_cons.mpr ⟨xm215, List.forall_mem_cons.mpr ⟨xm216, List.forall_mem_cons.mpr ⟨xm217, List.forall_mem_cons.mpr ⟨xm218, List.forall_mem_cons.mpr ⟨xm219, List.forall_mem_cons.mpr ⟨xm220, List.forall_mem_cons.mpr ⟨xm221, List.forall_mem_cons.mpr ⟨xm222, List.forall_mem_cons.mpr ⟨xm223, fun _ h => absurd h List.not_mem_nil⟩⟩⟩⟩⟩⟩⟩⟩⟩⟩⟩⟩⟩⟩⟩⟩⟩⟩⟩⟩⟩⟩⟩⟩⟩⟩⟩⟩⟩⟩⟩⟩
def xMt_7 : List xMe := [(12, yX12_trace, cX12_trace, 2, (Option.some Jvm.ClassFile.FieldType.int)), (12, yX12_taken, cX12_taken, 4, (Option.some Jvm.ClassFile.FieldType.int)), (12, yX12_count, cX12_count, 2, (Option.some Jvm.ClassFile.FieldType.int)), (12, yX12_isTape, cX12_isTape, 2, (Option.some Jvm.ClassFile.FieldType.boolean)), (12, yX12_tape, cX12_tape, 5, (Option.some Jvm.ClassFile.FieldType.int)), (12, yX12_narrow, cX12_narrow, 4, (Option.some Jvm.ClassFile.FieldType.long)), (12, yX12_item, cX12_item, 5, (Option.some Jvm.ClassFile.FieldType.int)), (12, yX12_read, cX12_read, 3, (Option.some Jvm.ClassFile.FieldType.long)), (12, yX12_shift, cX12_shift, 7, (Option.some Jvm.ClassFile.FieldType.int)), (14, yJ6_compare_7cf53, cJ6_compare_7cf53, 2, (Option.some Jvm.ClassFile.FieldType.int)), (14, yJ6_bitCount_0f7a4, cJ6_bitCount_0f7a4, 1, (Option.some Jvm.ClassFile.FieldType.int)), (16, yJ0_length_8abf5, cJ0_length_8abf5, 1, (Option.some Jvm.ClassFile.FieldType.int)), (16, yJ0_charAt_5068e, cJ0_charAt_5068e, 2, (Option.some Jvm.ClassFile.FieldType.char)), (16, yJ0_coder_7d493, cJ0_coder_7d493, 1, (Option.some Jvm.ClassFile.FieldType.byte)), (16, yJ0_isLatin1_aae02, cJ0_isLatin1_aae02, 1, (Option.some Jvm.ClassFile.FieldType.boolean)), (16, yJ0_checkIndex_df160, cJ0_checkIndex_df160, 2, (Option.none : Option Jvm.ClassFile.FieldType)), (17, yJ1_charAt_3b067, cJ1_charAt_3b067, 2, (Option.some Jvm.ClassFile.FieldType.char)), (15, yJ7_fill_d0a16, cJ7_fill_d0a16, 5, (Option.none : Option Jvm.ClassFile.FieldType)), (15, yJ7_fill_53178, cJ7_fill_53178, 4, (Option.none : Option Jvm.ClassFile.FieldType)), (18, yJ3_checkIndex_8e157, cJ3_checkIndex_8e157, 3, (Option.some Jvm.ClassFile.FieldType.int))]
theorem xMt_k7 : ∀ e ∈ xMt_7, xMok e := List.forall_mem_cons.mpr ⟨xm224, List.forall_mem_cons.mpr ⟨xm225, List.forall_mem_cons.mpr ⟨xm226, List.forall_mem_cons.mpr ⟨xm227, List.forall_mem_cons.mpr ⟨xm228, List.forall_mem_cons.mpr ⟨xm229, List.forall_mem_cons.mpr ⟨xm230, List.forall_mem_cons.mpr ⟨xm231, List.forall_mem_cons.mpr ⟨xm232, List.forall_mem_cons.mpr ⟨xm233, List.forall_mem_cons.mpr ⟨xm234, List.forall_mem_cons.mpr ⟨xm235, List.forall_mem_cons.mpr ⟨xm236, List.forall_mem_cons.mpr ⟨xm237, List.forall_mem_cons.mpr ⟨xm238, List.forall_mem_cons.mpr ⟨xm239, List.forall_mem_cons.mpr ⟨xm240, List.forall_mem_cons.mpr ⟨xm241, List.forall_mem_cons.mpr ⟨xm242, List.forall_mem_cons.mpr ⟨xm243, fun _ h => absurd h List.not_mem_nil⟩⟩⟩⟩⟩⟩⟩⟩⟩⟩⟩⟩⟩⟩⟩⟩⟩⟩⟩⟩
def xMt : List xMe := xMt_0 ++ (xMt_1 ++ (xMt_2 ++ (xMt_3 ++ (xMt_4 ++ (xMt_5 ++ (xMt_6 ++ (xMt_7)))))))
theorem xMt_ok : ∀ e ∈ xMt, xMok e := List.forall_mem_append.mpr ⟨xMt_k0, List.forall_mem_append.mpr ⟨xMt_k1, List.forall_mem_append.mpr ⟨xMt_k2, List.forall_mem_append.mpr ⟨xMt_k3, List.forall_mem_append.mpr ⟨xMt_k4, List.forall_mem_append.mpr ⟨xMt_k5, List.forall_mem_append.mpr ⟨xMt_k6, xMt_k7⟩⟩⟩⟩⟩⟩⟩
def xM : List xMe := xMt ++ [(13, yL_law, cL_law, 4, some .boolean)]
abbrev xCe : Type := Nat × Nat × Nat × Nat × Nat × Nat
abbrev xpc (y : MethodName) (n : Nat) : Prop := (parseMethodDescriptor y.desc).map (fun d => d.parameters.length) = some n
def xCok (e : xCe) : Prop := ∃ M : xMe, xMt[e.2.2.2.2.1]? = some M ∧ xpc M.2.1 e.2.2.2.2.2 ∧ e.2.2.1 < 100 ∧ match e.2.2.2.1 with
  | 0 => Cond.methodLink (xR e.1) e.2.1 M.2.1 ∈ xW ∧ Cond.static M.2.1 ∈ xW
  | 1 => Cond.methodLink (xR e.1) e.2.1 M.2.1 ∈ xW ∧ Cond.instanceMethod M.2.1 ∈ xW ∧ M.2.1.name = "<init>"
  | 2 => Cond.methodLink (xR e.1) e.2.1 M.2.1 ∈ xW ∧ Cond.sameMethod M.2.1.cls M.2.1.cls M.2.1.name M.2.1.desc ∈ xW ∧ Cond.superclass (xR e.1) M.2.1.cls ∈ xW ∧ Cond.instanceMethod M.2.1 ∈ xW ∧ M.2.1.name ≠ "<init>"
  | 3 => Cond.methodLink (xR e.1) e.2.1 M.2.1 ∈ xW ∧ Cond.instanceMethod M.2.1 ∈ xW ∧ Cond.selects M.2.1.cls M.2.1 M.2.1 ∈ xW ∧ e.2.2.1 < 13 ∧ M.2.1.cls = xR e.2.2.1
  | 4 => ∃ (xc ow : String) (b0 : ByteArray) (m0 : Nat) (r0 : Option FieldType), Cond.methodLink (xR e.1) e.2.1 ⟨xc, M.2.1.name, M.2.1.desc⟩ ∈ xW ∧ Cond.sameMethod xc ow M.2.1.name M.2.1.desc ∈ xW ∧ Cond.instanceMethod ⟨ow, M.2.1.name, M.2.1.desc⟩ ∈ xW ∧ Cond.selects (xR e.2.2.1) ⟨xc, M.2.1.name, M.2.1.desc⟩ M.2.1 ∈ xW ∧ Cond.instanceMethod M.2.1 ∈ xW ∧ Cond.code ⟨ow, M.2.1.name, M.2.1.desc⟩ b0 m0 r0 ∈ xW ∧ e.2.2.1 < 13 ∧ ow ≠ "java/lang/invoke/MethodHandle" ∧ ow ≠ "java/lang/invoke/VarHandle"
  | 5 => ∃ (xc : String), Cond.methodLink (xR e.1) e.2.1 ⟨xc, M.2.1.name, M.2.1.desc⟩ ∈ xW ∧ Cond.sameMethod xc M.2.1.cls M.2.1.name M.2.1.desc ∈ xW ∧ Cond.selects (xR e.2.2.1) ⟨xc, M.2.1.name, M.2.1.desc⟩ M.2.1 ∈ xW ∧ Cond.instanceMethod M.2.1 ∈ xW ∧ e.2.2.1 < 13
  | 6 => Cond.methodLinkNest (xR e.1) e.2.1 M.2.1 "HatsDecide" ∈ xNest ∧ Cond.instanceMethod M.2.1 ∈ xW ∧ M.2.1.name = "<init>"
  | 7 => Cond.methodLinkNest (xR e.1) e.2.1 M.2.1 "HatsDecide" ∈ xNest ∧ Cond.static M.2.1 ∈ xW
  | 8 => ∃ (xc : String), Cond.methodLink (xR e.1) e.2.1 ⟨xc, M.2.1.name, M.2.1.desc⟩ ∈ xW ∧ Cond.sameMethod xc M.2.1.cls M.2.1.name M.2.1.desc ∈ xW ∧ Cond.superclass (xR e.1) xc ∈ xW ∧ Cond.superclass xc M.2.1.cls ∈ xW ∧ Cond.instanceMethod M.2.1 ∈ xW ∧ M.2.1.name ≠ "<init>"
  | 9 => Cond.methodLink (xR e.1) e.2.1 M.2.1 ∈ xW ∧ Cond.instanceMethod M.2.1 ∈ xW ∧ Cond.selects M.2.1.cls M.2.1 M.2.1 ∈ xW ∧ M.2.1.cls = xR 16
  | _ => False
theorem xck {e : xCe} {M : xMe} (h : xMt[e.2.2.2.2.1]? = some M) (h2 : xpc M.2.1 e.2.2.2.2.2) (h3 : e.2.2.1 < 100) : xMt[e.2.2.2.2.1]? = some M ∧ xpc M.2.1 e.2.2.2.2.2 ∧ e.2.2.1 < 100 := ⟨h, h2, h3⟩
theorem xmat {i : Nat} {M : xMe} (h : xMt[i]? = some M) : xMt[i]? = some M := h
theorem xma0 : xMt[0]? = some (0, yX0_init, cX0_init, 7, (Option.none : Option Jvm.ClassFile.FieldType)) := rfl
theorem xma1 : xMt[1]? = some (0, yX0_deed, cX0_deed, 5, (Option.some Jvm.ClassFile.FieldType.int)) := rfl
theorem xma2 : xMt[2]? = some (0, yX0_tells, cX0_tells, 2, (Option.some Jvm.ClassFile.FieldType.int)) := rfl
theorem xma3 : xMt[3]? = some (1, yX1_init, cX1_init, 7, (Option.none : Option Jvm.ClassFile.FieldType)) := rfl
theorem xma4 : xMt[4]? = some (1, yX1_deed, cX1_deed, 5, (Option.some Jvm.ClassFile.FieldType.int)) := rfl
theorem xma5 : xMt[5]? = some (1, yX1_tells, cX1_tells, 2, (Option.some Jvm.ClassFile.FieldType.int)) := rfl
theorem xma6 : xMt[6]? = some (2, yX2_init, cX2_init, 7, (Option.none : Option Jvm.ClassFile.FieldType)) := rfl
theorem xma7 : xMt[7]? = some (2, yX2_deed, cX2_deed, 5, (Option.some Jvm.ClassFile.FieldType.int)) := rfl
theorem xma8 : xMt[8]? = some (2, yX2_sits, cX2_sits, 2, (Option.some Jvm.ClassFile.FieldType.int)) := rfl
theorem xma9 : xMt[9]? = some (2, yX2_does, cX2_does, 2, (Option.some Jvm.ClassFile.FieldType.int)) := rfl
theorem xma10 : xMt[10]? = some (2, yX2_tells, cX2_tells, 2, (Option.some Jvm.ClassFile.FieldType.int)) := rfl
theorem xma11 : xMt[11]? = some (3, yX3_init, cX3_init, 1, (Option.none : Option Jvm.ClassFile.FieldType)) := rfl
theorem xma12 : xMt[12]? = some (3, yX3_isHead, cX3_isHead, 2, (Option.some Jvm.ClassFile.FieldType.boolean)) := rfl
theorem xma13 : xMt[13]? = some (3, yX3_isHat, cX3_isHat, 2, (Option.some Jvm.ClassFile.FieldType.boolean)) := rfl
theorem xma14 : xMt[14]? = some (3, yX3_wearer, cX3_wearer, 3, (Option.some Jvm.ClassFile.FieldType.int)) := rfl
theorem xma15 : xMt[15]? = some (3, yX3_become, cX3_become, 3, (Option.none : Option Jvm.ClassFile.FieldType)) := rfl
theorem xma16 : xMt[16]? = some (3, yX3_copy, cX3_copy, 2, (Option.none : Option Jvm.ClassFile.FieldType)) := rfl
theorem xma17 : xMt[17]? = some (4, yX4_init, cX4_init, 7, (Option.none : Option Jvm.ClassFile.FieldType)) := rfl
theorem xma18 : xMt[18]? = some (4, yX4_deed, cX4_deed, 5, (Option.some Jvm.ClassFile.FieldType.int)) := rfl
theorem xma19 : xMt[19]? = some (4, yX4_sits, cX4_sits, 2, (Option.some Jvm.ClassFile.FieldType.int)) := rfl
theorem xma20 : xMt[20]? = some (4, yX4_does, cX4_does, 2, (Option.some Jvm.ClassFile.FieldType.int)) := rfl
theorem xma21 : xMt[21]? = some (5, yX5_init, cX5_init, 1, (Option.none : Option Jvm.ClassFile.FieldType)) := rfl
theorem xma22 : xMt[22]? = some (5, yX5_begin, cX5_begin, 3, (Option.none : Option Jvm.ClassFile.FieldType)) := rfl
theorem xma23 : xMt[23]? = some (5, yX5_spans, cX5_spans, 3, (Option.some Jvm.ClassFile.FieldType.boolean)) := rfl
theorem xma24 : xMt[24]? = some (5, yX5_asItem, cX5_asItem, 3, (Option.some Jvm.ClassFile.FieldType.long)) := rfl
theorem xma25 : xMt[25]? = some (6, yX6_init, cX6_init, 7, (Option.none : Option Jvm.ClassFile.FieldType)) := rfl
theorem xma26 : xMt[26]? = some (6, yX6_deed, cX6_deed, 5, (Option.some Jvm.ClassFile.FieldType.int)) := rfl
theorem xma27 : xMt[27]? = some (6, yX6_does, cX6_does, 2, (Option.some Jvm.ClassFile.FieldType.int)) := rfl
theorem xma28 : xMt[28]? = some (7, yX7_init, cX7_init, 7, (Option.none : Option Jvm.ClassFile.FieldType)) := rfl
theorem xma29 : xMt[29]? = some (7, yX7_deed, cX7_deed, 5, (Option.some Jvm.ClassFile.FieldType.int)) := rfl
theorem xma30 : xMt[30]? = some (7, yX7_does, cX7_does, 2, (Option.some Jvm.ClassFile.FieldType.int)) := rfl
theorem xma31 : xMt[31]? = some (7, yX7_sits, cX7_sits, 2, (Option.some Jvm.ClassFile.FieldType.int)) := rfl
theorem xma32 : xMt[32]? = some (8, yX8_init, cX8_init, 1, (Option.none : Option Jvm.ClassFile.FieldType)) := rfl
theorem xma33 : xMt[33]? = some (8, yX8_moth, cX8_moth, 3, (Option.some Jvm.ClassFile.FieldType.int)) := rfl
theorem xma34 : xMt[34]? = some (8, yX8_work, cX8_work, 4, (Option.some Jvm.ClassFile.FieldType.int)) := rfl
theorem xma35 : xMt[35]? = some (8, yX8_fits, cX8_fits, 4, (Option.some Jvm.ClassFile.FieldType.int)) := rfl
theorem xma36 : xMt[36]? = some (8, yX8_holds, cX8_holds, 5, (Option.some Jvm.ClassFile.FieldType.boolean)) := rfl
theorem xma37 : xMt[37]? = some (8, yX8_codeOf, cX8_codeOf, 3, (Option.some Jvm.ClassFile.FieldType.int)) := rfl
theorem xma38 : xMt[38]? = some (8, yX8_isTrue, cX8_isTrue, 4, (Option.some Jvm.ClassFile.FieldType.boolean)) := rfl
theorem xma39 : xMt[39]? = some (8, yX8_parse, cX8_parse, 4, (Option.some Jvm.ClassFile.FieldType.int)) := rfl
theorem xma40 : xMt[40]? = some (8, yX8_parseClause, cX8_parseClause, 3, (Option.none : Option Jvm.ClassFile.FieldType)) := rfl
theorem xma41 : xMt[41]? = some (8, yX8_parseEither, cX8_parseEither, 4, (Option.none : Option Jvm.ClassFile.FieldType)) := rfl
theorem xma42 : xMt[42]? = some (8, yX8_parsePart, cX8_parsePart, 4, (Option.none : Option Jvm.ClassFile.FieldType)) := rfl
theorem xma43 : xMt[43]? = some (8, yX8_parseNumber, cX8_parseNumber, 3, (Option.some Jvm.ClassFile.FieldType.int)) := rfl
theorem xma44 : xMt[44]? = some (8, yX8_addCode, cX8_addCode, 2, (Option.none : Option Jvm.ClassFile.FieldType)) := rfl
theorem xma45 : xMt[45]? = some (8, yX8_isNext, cX8_isNext, 2, (Option.some Jvm.ClassFile.FieldType.boolean)) := rfl
theorem xma46 : xMt[46]? = some (8, yX8_expect, cX8_expect, 2, (Option.none : Option Jvm.ClassFile.FieldType)) := rfl
theorem xma47 : xMt[47]? = some (8, yX8_oneOf, cX8_oneOf, 3, (Option.some Jvm.ClassFile.FieldType.int)) := rfl
theorem xma48 : xMt[48]? = some (9, yX9_init, cX9_init, 1, (Option.none : Option Jvm.ClassFile.FieldType)) := rfl
theorem xma49 : xMt[49]? = some (9, yX9_clear, cX9_clear, 1, (Option.none : Option Jvm.ClassFile.FieldType)) := rfl
theorem xma50 : xMt[50]? = some (9, yX9_note, cX9_note, 2, (Option.none : Option Jvm.ClassFile.FieldType)) := rfl
theorem xma51 : xMt[51]? = some (10, yX10_init, cX10_init, 7, (Option.none : Option Jvm.ClassFile.FieldType)) := rfl
theorem xma52 : xMt[52]? = some (10, yX10_deed, cX10_deed, 5, (Option.some Jvm.ClassFile.FieldType.int)) := rfl
theorem xma53 : xMt[53]? = some (10, yX10_sits, cX10_sits, 2, (Option.some Jvm.ClassFile.FieldType.int)) := rfl
theorem xma54 : xMt[54]? = some (11, yX11_init, cX11_init, 2, (Option.none : Option Jvm.ClassFile.FieldType)) := rfl
theorem xma55 : xMt[55]? = some (11, yX11_head, cX11_head, 3, (Option.some Jvm.ClassFile.FieldType.int)) := rfl
theorem xma56 : xMt[56]? = some (11, yX11_hat, cX11_hat, 8, (Option.some Jvm.ClassFile.FieldType.int)) := rfl
theorem xma57 : xMt[57]? = some (11, yX11_newHat, cX11_newHat, 6, (Option.some (Jvm.ClassFile.FieldType.object "HatsDecide$Hat"))) := rfl
theorem xma58 : xMt[58]? = some (11, yX11_of, cX11_of, 4, (Option.some Jvm.ClassFile.FieldType.int)) := rfl
theorem xma59 : xMt[59]? = some (11, yX11_at, cX11_at, 3, (Option.some Jvm.ClassFile.FieldType.int)) := rfl
theorem xma60 : xMt[60]? = some (11, yX11_row, cX11_row, 6, (Option.some Jvm.ClassFile.FieldType.int)) := rfl
theorem xma61 : xMt[61]? = some (11, yX11_put, cX11_put, 4, (Option.some Jvm.ClassFile.FieldType.int)) := rfl
theorem xma62 : xMt[62]? = some (11, yX11_own, cX11_own, 4, (Option.some Jvm.ClassFile.FieldType.int)) := rfl
theorem xma63 : xMt[63]? = some (11, yX11_skill, cX11_skill, 4, (Option.some Jvm.ClassFile.FieldType.int)) := rfl
theorem xma64 : xMt[64]? = some (11, yX11_feed, cX11_feed, 2, (Option.some Jvm.ClassFile.FieldType.int)) := rfl
theorem xma65 : xMt[65]? = some (11, yX11_town, cX11_town, 2, (Option.some Jvm.ClassFile.FieldType.int)) := rfl
theorem xma66 : xMt[66]? = some (11, yX11_told, cX11_told, 2, (Option.some Jvm.ClassFile.FieldType.int)) := rfl
theorem xma67 : xMt[67]? = some (11, yX11_day, cX11_day, 4, (Option.some Jvm.ClassFile.FieldType.int)) := rfl
theorem xma68 : xMt[68]? = some (11, yX11_gust, cX11_gust, 4, (Option.some Jvm.ClassFile.FieldType.int)) := rfl
theorem xma69 : xMt[69]? = some (11, yX11_change, cX11_change, 4, (Option.some Jvm.ClassFile.FieldType.int)) := rfl
theorem xma70 : xMt[70]? = some (11, yX11_today, cX11_today, 2, (Option.some Jvm.ClassFile.FieldType.int)) := rfl
theorem xma71 : xMt[71]? = some (11, yX11_enough, cX11_enough, 3, (Option.some Jvm.ClassFile.FieldType.int)) := rfl
theorem xma72 : xMt[72]? = some (11, yX11_best, cX11_best, 6, (Option.some Jvm.ClassFile.FieldType.int)) := rfl
theorem xma73 : xMt[73]? = some (11, yX11_on, cX11_on, 5, (Option.some Jvm.ClassFile.FieldType.int)) := rfl
theorem xma74 : xMt[74]? = some (11, yX11_lasts, cX11_lasts, 3, (Option.some Jvm.ClassFile.FieldType.int)) := rfl
theorem xma75 : xMt[75]? = some (11, yX11_by, cX11_by, 2, (Option.some Jvm.ClassFile.FieldType.int)) := rfl
theorem xma76 : xMt[76]? = some (11, yX11_can, cX11_can, 3, (Option.some Jvm.ClassFile.FieldType.int)) := rfl
theorem xma77 : xMt[77]? = some (11, yX11_back, cX11_back, 5, (Option.some Jvm.ClassFile.FieldType.int)) := rfl
theorem xma78 : xMt[78]? = some (11, yX11_gusted, cX11_gusted, 2, (Option.some Jvm.ClassFile.FieldType.int)) := rfl
theorem xma79 : xMt[79]? = some (11, yX11_lucky, cX11_lucky, 5, (Option.some Jvm.ClassFile.FieldType.int)) := rfl
theorem xma80 : xMt[80]? = some (11, yX11_swap, cX11_swap, 6, (Option.some Jvm.ClassFile.FieldType.int)) := rfl
theorem xma81 : xMt[81]? = some (11, yX11_quarrel, cX11_quarrel, 4, (Option.some Jvm.ClassFile.FieldType.int)) := rfl
theorem xma82 : xMt[82]? = some (11, yX11_how, cX11_how, 6, (Option.some Jvm.ClassFile.FieldType.int)) := rfl
theorem xma83 : xMt[83]? = some (11, yX11_see, cX11_see, 3, (Option.some Jvm.ClassFile.FieldType.int)) := rfl
theorem xma84 : xMt[84]? = some (11, yX11_wore, cX11_wore, 2, (Option.some Jvm.ClassFile.FieldType.int)) := rfl
theorem xma85 : xMt[85]? = some (11, yX11_who, cX11_who, 3, (Option.some Jvm.ClassFile.FieldType.int)) := rfl
theorem xma86 : xMt[86]? = some (11, yX11_odds, cX11_odds, 5, (Option.some Jvm.ClassFile.FieldType.long)) := rfl
theorem xma87 : xMt[87]? = some (11, yX11_mean, cX11_mean, 5, (Option.some Jvm.ClassFile.FieldType.long)) := rfl
theorem xma88 : xMt[88]? = some (11, yX11_book, cX11_book, 3, (Option.some Jvm.ClassFile.FieldType.int)) := rfl
theorem xma89 : xMt[89]? = some (11, yX11_looked, cX11_looked, 2, (Option.some Jvm.ClassFile.FieldType.int)) := rfl
theorem xma90 : xMt[90]? = some (11, yX11_judge, cX11_judge, 5, (Option.some Jvm.ClassFile.FieldType.int)) := rfl
theorem xma91 : xMt[91]? = some (11, yX11_image, cX11_image, 1, (Option.some Jvm.ClassFile.FieldType.int)) := rfl
theorem xma92 : xMt[92]? = some (11, yX11_undo, cX11_undo, 1, (Option.some Jvm.ClassFile.FieldType.int)) := rfl
theorem xma93 : xMt[93]? = some (11, yX11_act, cX11_act, 4, (Option.some Jvm.ClassFile.FieldType.int)) := rfl
theorem xma94 : xMt[94]? = some (11, yX11_trace, cX11_trace, 2, (Option.some Jvm.ClassFile.FieldType.int)) := rfl
theorem xma95 : xMt[95]? = some (11, yX11_taken, cX11_taken, 3, (Option.some Jvm.ClassFile.FieldType.int)) := rfl
theorem xma96 : xMt[96]? = some (11, yX11_count, cX11_count, 2, (Option.some Jvm.ClassFile.FieldType.int)) := rfl
theorem xma97 : xMt[97]? = some (11, yX11_tape, cX11_tape, 4, (Option.some Jvm.ClassFile.FieldType.int)) := rfl
theorem xma98 : xMt[98]? = some (11, yX11_item, cX11_item, 6, (Option.some Jvm.ClassFile.FieldType.int)) := rfl
theorem xma99 : xMt[99]? = some (11, yX11_read, cX11_read, 3, (Option.some Jvm.ClassFile.FieldType.long)) := rfl
theorem xma100 : xMt[100]? = some (11, yX11_shift, cX11_shift, 8, (Option.some Jvm.ClassFile.FieldType.int)) := rfl
theorem xma101 : xMt[101]? = some (11, yX11_within, cX11_within, 3, (Option.some Jvm.ClassFile.FieldType.boolean)) := rfl
theorem xma102 : xMt[102]? = some (11, yX11_isDigit, cX11_isDigit, 1, (Option.some Jvm.ClassFile.FieldType.boolean)) := rfl
theorem xma103 : xMt[103]? = some (11, yX11_isTrade, cX11_isTrade, 1, (Option.some Jvm.ClassFile.FieldType.boolean)) := rfl
theorem xma104 : xMt[104]? = some (11, yX11_isGust, cX11_isGust, 1, (Option.some Jvm.ClassFile.FieldType.boolean)) := rfl
theorem xma105 : xMt[105]? = some (11, yX11_isTape, cX11_isTape, 1, (Option.some Jvm.ClassFile.FieldType.boolean)) := rfl
theorem xma106 : xMt[106]? = some (11, yX11_isHeadOrEmpty, cX11_isHeadOrEmpty, 2, (Option.some Jvm.ClassFile.FieldType.boolean)) := rfl
theorem xma107 : xMt[107]? = some (11, yX11_orNotAny, cX11_orNotAny, 1, (Option.some Jvm.ClassFile.FieldType.int)) := rfl
theorem xma108 : xMt[108]? = some (11, yX11_isOfKind, cX11_isOfKind, 2, (Option.some Jvm.ClassFile.FieldType.boolean)) := rfl
theorem xma109 : xMt[109]? = some (11, yX11_holding, cX11_holding, 1, (Option.some (Jvm.ClassFile.FieldType.object "HatsDecide$Town"))) := rfl
theorem xma110 : xMt[110]? = some (11, yX11_deedOn, cX11_deedOn, 11, (Option.some Jvm.ClassFile.FieldType.int)) := rfl
theorem xma111 : xMt[111]? = some (11, yX11_total, cX11_total, 7, (Option.some Jvm.ClassFile.FieldType.int)) := rfl
theorem xma112 : xMt[112]? = some (11, yX11_isEnough, cX11_isEnough, 4, (Option.some Jvm.ClassFile.FieldType.boolean)) := rfl
theorem xma113 : xMt[113]? = some (11, yX11_noteDeeds, cX11_noteDeeds, 3, (Option.none : Option Jvm.ClassFile.FieldType)) := rfl
theorem xma114 : xMt[114]? = some (11, yX11_noted, cX11_noted, 3, (Option.some Jvm.ClassFile.FieldType.int)) := rfl
theorem xma115 : xMt[115]? = some (11, yX11_hatsOf, cX11_hatsOf, 4, (Option.some Jvm.ClassFile.FieldType.int)) := rfl
theorem xma116 : xMt[116]? = some (11, yX11_weighWays, cX11_weighWays, 5, (Option.none : Option Jvm.ClassFile.FieldType)) := rfl
theorem xma117 : xMt[117]? = some (11, yX11_mostFrom, cX11_mostFrom, 6, (Option.some Jvm.ClassFile.FieldType.int)) := rfl
theorem xma118 : xMt[118]? = some (11, yX11_mostWith, cX11_mostWith, 5, (Option.some Jvm.ClassFile.FieldType.int)) := rfl
theorem xma119 : xMt[119]? = some (11, yX11_wornByBestWay, cX11_wornByBestWay, 5, (Option.some Jvm.ClassFile.FieldType.int)) := rfl
theorem xma120 : xMt[120]? = some (11, yX11_firstOfBest, cX11_firstOfBest, 5, (Option.some Jvm.ClassFile.FieldType.int)) := rfl
theorem xma121 : xMt[121]? = some (11, yX11_isOwnedBelow, cX11_isOwnedBelow, 4, (Option.some Jvm.ClassFile.FieldType.boolean)) := rfl
theorem xma122 : xMt[122]? = some (11, yX11_joinGroups, cX11_joinGroups, 4, (Option.some Jvm.ClassFile.FieldType.boolean)) := rfl
theorem xma123 : xMt[123]? = some (11, yX11_isSeen, cX11_isSeen, 3, (Option.some Jvm.ClassFile.FieldType.boolean)) := rfl
theorem xma124 : xMt[124]? = some (11, yX11_isAsSeen, cX11_isAsSeen, 4, (Option.some Jvm.ClassFile.FieldType.boolean)) := rfl
theorem xma125 : xMt[125]? = some (11, yX11_wearers, cX11_wearers, 4, (Option.some Jvm.ClassFile.FieldType.int)) := rfl
theorem xma126 : xMt[126]? = some (11, yX11_addHatToWays, cX11_addHatToWays, 5, (Option.none : Option Jvm.ClassFile.FieldType)) := rfl
theorem xma127 : xMt[127]? = some (11, yX11_perHeads, cX11_perHeads, 4, (Option.some Jvm.ClassFile.FieldType.long)) := rfl
theorem xma128 : xMt[128]? = some (12, yX12_init, cX12_init, 1, (Option.none : Option Jvm.ClassFile.FieldType)) := rfl
theorem xma129 : xMt[129]? = some (12, yX12_in, cX12_in, 4, (Option.some Jvm.ClassFile.FieldType.boolean)) := rfl
theorem xma130 : xMt[130]? = some (12, yX12_has, cX12_has, 3, (Option.some Jvm.ClassFile.FieldType.boolean)) := rfl
theorem xma131 : xMt[131]? = some (12, yX12_most, cX12_most, 3, (Option.some Jvm.ClassFile.FieldType.int)) := rfl
theorem xma132 : xMt[132]? = some (12, yX12_isHead, cX12_isHead, 2, (Option.some Jvm.ClassFile.FieldType.boolean)) := rfl
theorem xma133 : xMt[133]? = some (12, yX12_isHat, cX12_isHat, 2, (Option.some Jvm.ClassFile.FieldType.boolean)) := rfl
theorem xma134 : xMt[134]? = some (12, yX12_isTrade, cX12_isTrade, 2, (Option.some Jvm.ClassFile.FieldType.boolean)) := rfl
theorem xma135 : xMt[135]? = some (12, yX12_orNone, cX12_orNone, 2, (Option.some Jvm.ClassFile.FieldType.int)) := rfl
theorem xma136 : xMt[136]? = some (12, yX12_head, cX12_head, 2, (Option.some Jvm.ClassFile.FieldType.int)) := rfl
theorem xma137 : xMt[137]? = some (12, yX12_hat, cX12_hat, 7, (Option.some Jvm.ClassFile.FieldType.int)) := rfl
theorem xma138 : xMt[138]? = some (12, yX12_headOf, cX12_headOf, 3, (Option.some Jvm.ClassFile.FieldType.int)) := rfl
theorem xma139 : xMt[139]? = some (12, yX12_row, cX12_row, 5, (Option.some Jvm.ClassFile.FieldType.int)) := rfl
theorem xma140 : xMt[140]? = some (12, yX12_put, cX12_put, 4, (Option.some Jvm.ClassFile.FieldType.int)) := rfl
theorem xma141 : xMt[141]? = some (12, yX12_own, cX12_own, 4, (Option.some Jvm.ClassFile.FieldType.int)) := rfl
theorem xma142 : xMt[142]? = some (12, yX12_skill, cX12_skill, 4, (Option.some Jvm.ClassFile.FieldType.int)) := rfl
theorem xma143 : xMt[143]? = some (12, yX12_feed, cX12_feed, 2, (Option.some Jvm.ClassFile.FieldType.int)) := rfl
theorem xma144 : xMt[144]? = some (12, yX12_next, cX12_next, 1, (Option.some Jvm.ClassFile.FieldType.int)) := rfl
theorem xma145 : xMt[145]? = some (12, yX12_takes, cX12_takes, 2, (Option.some Jvm.ClassFile.FieldType.boolean)) := rfl
theorem xma146 : xMt[146]? = some (12, yX12_takesWord, cX12_takesWord, 4, (Option.some Jvm.ClassFile.FieldType.boolean)) := rfl
theorem xma147 : xMt[147]? = some (12, yX12_isDigit, cX12_isDigit, 1, (Option.some Jvm.ClassFile.FieldType.boolean)) := rfl
theorem xma148 : xMt[148]? = some (12, yX12_takesNumber, cX12_takesNumber, 2, (Option.some Jvm.ClassFile.FieldType.boolean)) := rfl
theorem xma149 : xMt[149]? = some (12, yX12_emits, cX12_emits, 2, (Option.none : Option Jvm.ClassFile.FieldType)) := rfl
theorem xma150 : xMt[150]? = some (12, yX12_whole, cX12_whole, 1, (Option.none : Option Jvm.ClassFile.FieldType)) := rfl
theorem xma151 : xMt[151]? = some (12, yX12_settle, cX12_settle, 2, (Option.none : Option Jvm.ClassFile.FieldType)) := rfl
theorem xma152 : xMt[152]? = some (12, yX12_place, cX12_place, 2, (Option.some Jvm.ClassFile.FieldType.int)) := rfl
theorem xma153 : xMt[153]? = some (12, yX12_takesTest, cX12_takesTest, 3, (Option.some Jvm.ClassFile.FieldType.boolean)) := rfl
theorem xma154 : xMt[154]? = some (12, yX12_takesE, cX12_takesE, 4, (Option.some Jvm.ClassFile.FieldType.boolean)) := rfl
theorem xma155 : xMt[155]? = some (12, yX12_takesHead, cX12_takesHead, 2, (Option.some Jvm.ClassFile.FieldType.boolean)) := rfl
theorem xma156 : xMt[156]? = some (12, yX12_takesClause, cX12_takesClause, 2, (Option.some Jvm.ClassFile.FieldType.boolean)) := rfl
theorem xma157 : xMt[157]? = some (12, yX12_goesText, cX12_goesText, 3, (Option.some Jvm.ClassFile.FieldType.boolean)) := rfl
theorem xma158 : xMt[158]? = some (12, yX12_town, cX12_town, 2, (Option.some Jvm.ClassFile.FieldType.int)) := rfl
theorem xma159 : xMt[159]? = some (12, yX12_begin, cX12_begin, 1, (Option.some Jvm.ClassFile.FieldType.int)) := rfl
theorem xma160 : xMt[160]? = some (12, yX12_behind, cX12_behind, 1, (Option.some Jvm.ClassFile.FieldType.int)) := rfl
theorem xma161 : xMt[161]? = some (12, yX12_moth, cX12_moth, 3, (Option.some Jvm.ClassFile.FieldType.int)) := rfl
theorem xma162 : xMt[162]? = some (12, yX12_work, cX12_work, 4, (Option.some Jvm.ClassFile.FieldType.int)) := rfl
theorem xma163 : xMt[163]? = some (12, yX12_factOf, cX12_factOf, 4, (Option.some Jvm.ClassFile.FieldType.int)) := rfl
theorem xma164 : xMt[164]? = some (12, yX12_holds, cX12_holds, 9, (Option.some Jvm.ClassFile.FieldType.boolean)) := rfl
theorem xma165 : xMt[165]? = some (12, yX12_fits, cX12_fits, 5, (Option.some Jvm.ClassFile.FieldType.int)) := rfl
theorem xma166 : xMt[166]? = some (12, yX12_apart, cX12_apart, 3, (Option.some Jvm.ClassFile.FieldType.int)) := rfl
theorem xma167 : xMt[167]? = some (12, yX12_deed, cX12_deed, 4, (Option.some Jvm.ClassFile.FieldType.int)) := rfl
theorem xma168 : xMt[168]? = some (12, yX12_of, cX12_of, 3, (Option.some Jvm.ClassFile.FieldType.int)) := rfl
theorem xma169 : xMt[169]? = some (12, yX12_at, cX12_at, 3, (Option.some Jvm.ClassFile.FieldType.int)) := rfl
theorem xma170 : xMt[170]? = some (12, yX12_told, cX12_told, 2, (Option.some Jvm.ClassFile.FieldType.int)) := rfl
theorem xma171 : xMt[171]? = some (12, yX12_todayOf, cX12_todayOf, 4, (Option.some Jvm.ClassFile.FieldType.int)) := rfl
theorem xma172 : xMt[172]? = some (12, yX12_goDay, cX12_goDay, 2, (Option.none : Option Jvm.ClassFile.FieldType)) := rfl
theorem xma173 : xMt[173]? = some (12, yX12_day, cX12_day, 4, (Option.some Jvm.ClassFile.FieldType.int)) := rfl
theorem xma174 : xMt[174]? = some (12, yX12_goGust, cX12_goGust, 4, (Option.some Jvm.ClassFile.FieldType.int)) := rfl
theorem xma175 : xMt[175]? = some (12, yX12_gust, cX12_gust, 2, (Option.some Jvm.ClassFile.FieldType.int)) := rfl
theorem xma176 : xMt[176]? = some (12, yX12_swaps, cX12_swaps, 4, (Option.none : Option Jvm.ClassFile.FieldType)) := rfl
theorem xma177 : xMt[177]? = some (12, yX12_change, cX12_change, 3, (Option.some Jvm.ClassFile.FieldType.int)) := rfl
theorem xma178 : xMt[178]? = some (12, yX12_today, cX12_today, 2, (Option.some Jvm.ClassFile.FieldType.int)) := rfl
theorem xma179 : xMt[179]? = some (12, yX12_enough, cX12_enough, 3, (Option.some Jvm.ClassFile.FieldType.int)) := rfl
theorem xma180 : xMt[180]? = some (12, yX12_best, cX12_best, 6, (Option.some Jvm.ClassFile.FieldType.int)) := rfl
theorem xma181 : xMt[181]? = some (12, yX12_save, cX12_save, 2, (Option.none : Option Jvm.ClassFile.FieldType)) := rfl
theorem xma182 : xMt[182]? = some (12, yX12_putBack, cX12_putBack, 2, (Option.none : Option Jvm.ClassFile.FieldType)) := rfl
theorem xma183 : xMt[183]? = some (12, yX12_on, cX12_on, 5, (Option.some Jvm.ClassFile.FieldType.int)) := rfl
theorem xma184 : xMt[184]? = some (12, yX12_lasts, cX12_lasts, 3, (Option.some Jvm.ClassFile.FieldType.int)) := rfl
theorem xma185 : xMt[185]? = some (12, yX12_layDeeds, cX12_layDeeds, 3, (Option.none : Option Jvm.ClassFile.FieldType)) := rfl
theorem xma186 : xMt[186]? = some (12, yX12_ones, cX12_ones, 4, (Option.some Jvm.ClassFile.FieldType.int)) := rfl
theorem xma187 : xMt[187]? = some (12, yX12_onwardBy, cX12_onwardBy, 5, (Option.some Jvm.ClassFile.FieldType.int)) := rfl
theorem xma188 : xMt[188]? = some (12, yX12_layBest, cX12_layBest, 6, (Option.none : Option Jvm.ClassFile.FieldType)) := rfl
theorem xma189 : xMt[189]? = some (12, yX12_by, cX12_by, 2, (Option.some Jvm.ClassFile.FieldType.int)) := rfl
theorem xma190 : xMt[190]? = some (12, yX12_mostOf, cX12_mostOf, 6, (Option.some Jvm.ClassFile.FieldType.int)) := rfl
theorem xma191 : xMt[191]? = some (12, yX12_can, cX12_can, 3, (Option.some Jvm.ClassFile.FieldType.int)) := rfl
theorem xma192 : xMt[192]? = some (12, yX12_isClash, cX12_isClash, 3, (Option.some Jvm.ClassFile.FieldType.boolean)) := rfl
theorem xma193 : xMt[193]? = some (12, yX12_dueFor, cX12_dueFor, 3, (Option.some Jvm.ClassFile.FieldType.int)) := rfl
theorem xma194 : xMt[194]? = some (12, yX12_isRing, cX12_isRing, 3, (Option.some Jvm.ClassFile.FieldType.boolean)) := rfl
theorem xma195 : xMt[195]? = some (12, yX12_back, cX12_back, 3, (Option.some Jvm.ClassFile.FieldType.int)) := rfl
theorem xma196 : xMt[196]? = some (12, yX12_gustedBy, cX12_gustedBy, 4, (Option.some Jvm.ClassFile.FieldType.int)) := rfl
theorem xma197 : xMt[197]? = some (12, yX12_gusted, cX12_gusted, 2, (Option.some Jvm.ClassFile.FieldType.int)) := rfl
theorem xma198 : xMt[198]? = some (12, yX12_lucky, cX12_lucky, 5, (Option.some Jvm.ClassFile.FieldType.int)) := rfl
theorem xma199 : xMt[199]? = some (12, yX12_swap, cX12_swap, 6, (Option.some Jvm.ClassFile.FieldType.int)) := rfl
theorem xma200 : xMt[200]? = some (12, yX12_quarrel, cX12_quarrel, 4, (Option.some Jvm.ClassFile.FieldType.int)) := rfl
theorem xma201 : xMt[201]? = some (12, yX12_how, cX12_how, 5, (Option.some Jvm.ClassFile.FieldType.int)) := rfl
theorem xma202 : xMt[202]? = some (12, yX12_see, cX12_see, 3, (Option.some Jvm.ClassFile.FieldType.int)) := rfl
theorem xma203 : xMt[203]? = some (12, yX12_woreOn, cX12_woreOn, 7, (Option.some Jvm.ClassFile.FieldType.int)) := rfl
theorem xma204 : xMt[204]? = some (12, yX12_wore, cX12_wore, 2, (Option.some Jvm.ClassFile.FieldType.int)) := rfl
theorem xma205 : xMt[205]? = some (12, yX12_who, cX12_who, 7, (Option.some Jvm.ClassFile.FieldType.int)) := rfl
theorem xma206 : xMt[206]? = some (12, yX12_divisor, cX12_divisor, 6, (Option.some Jvm.ClassFile.FieldType.int)) := rfl
theorem xma207 : xMt[207]? = some (12, yX12_lowest, cX12_lowest, 5, (Option.some Jvm.ClassFile.FieldType.long)) := rfl
theorem xma208 : xMt[208]? = some (12, yX12_odds, cX12_odds, 6, (Option.some Jvm.ClassFile.FieldType.long)) := rfl
theorem xma209 : xMt[209]? = some (12, yX12_mean, cX12_mean, 5, (Option.some Jvm.ClassFile.FieldType.long)) := rfl
theorem xma210 : xMt[210]? = some (12, yX12_book, cX12_book, 3, (Option.some Jvm.ClassFile.FieldType.int)) := rfl
theorem xma211 : xMt[211]? = some (12, yX12_looked, cX12_looked, 2, (Option.some Jvm.ClassFile.FieldType.int)) := rfl
theorem xma212 : xMt[212]? = some (12, yX12_judge, cX12_judge, 4, (Option.some Jvm.ClassFile.FieldType.int)) := rfl
theorem xma213 : xMt[213]? = some (12, yX12_image, cX12_image, 2, (Option.some Jvm.ClassFile.FieldType.int)) := rfl
theorem xma214 : xMt[214]? = some (12, yX12_undo, cX12_undo, 2, (Option.some Jvm.ClassFile.FieldType.int)) := rfl
theorem xma215 : xMt[215]? = some (12, yX12_body, cX12_body, 2, (Option.none : Option Jvm.ClassFile.FieldType)) := rfl
theorem xma216 : xMt[216]? = some (12, yX12_hatSits, cX12_hatSits, 3, (Option.some Jvm.ClassFile.FieldType.int)) := rfl
theorem xma217 : xMt[217]? = some (12, yX12_sitsAct, cX12_sitsAct, 3, (Option.some Jvm.ClassFile.FieldType.int)) := rfl
theorem xma218 : xMt[218]? = some (12, yX12_hatDoes, cX12_hatDoes, 3, (Option.some Jvm.ClassFile.FieldType.int)) := rfl
theorem xma219 : xMt[219]? = some (12, yX12_tightDoes, cX12_tightDoes, 3, (Option.some Jvm.ClassFile.FieldType.int)) := rfl
theorem xma220 : xMt[220]? = some (12, yX12_doesAct, cX12_doesAct, 4, (Option.some Jvm.ClassFile.FieldType.int)) := rfl
theorem xma221 : xMt[221]? = some (12, yX12_hatTells, cX12_hatTells, 3, (Option.some Jvm.ClassFile.FieldType.int)) := rfl
theorem xma222 : xMt[222]? = some (12, yX12_tellsAct, cX12_tellsAct, 4, (Option.some Jvm.ClassFile.FieldType.int)) := rfl
theorem xma223 : xMt[223]? = some (12, yX12_act, cX12_act, 4, (Option.some Jvm.ClassFile.FieldType.int)) := rfl
theorem xma224 : xMt[224]? = some (12, yX12_trace, cX12_trace, 2, (Option.some Jvm.ClassFile.FieldType.int)) := rfl
theorem xma225 : xMt[225]? = some (12, yX12_taken, cX12_taken, 4, (Option.some Jvm.ClassFile.FieldType.int)) := rfl
theorem xma226 : xMt[226]? = some (12, yX12_count, cX12_count, 2, (Option.some Jvm.ClassFile.FieldType.int)) := rfl
theorem xma227 : xMt[227]? = some (12, yX12_isTape, cX12_isTape, 2, (Option.some Jvm.ClassFile.FieldType.boolean)) := rfl
theorem xma228 : xMt[228]? = some (12, yX12_tape, cX12_tape, 5, (Option.some Jvm.ClassFile.FieldType.int)) := rfl
theorem xma229 : xMt[229]? = some (12, yX12_narrow, cX12_narrow, 4, (Option.some Jvm.ClassFile.FieldType.long)) := rfl
theorem xma230 : xMt[230]? = some (12, yX12_item, cX12_item, 5, (Option.some Jvm.ClassFile.FieldType.int)) := rfl
theorem xma231 : xMt[231]? = some (12, yX12_read, cX12_read, 3, (Option.some Jvm.ClassFile.FieldType.long)) := rfl
theorem xma232 : xMt[232]? = some (12, yX12_shift, cX12_shift, 7, (Option.some Jvm.ClassFile.FieldType.int)) := rfl
theorem xma233 : xMt[233]? = some (14, yJ6_compare_7cf53, cJ6_compare_7cf53, 2, (Option.some Jvm.ClassFile.FieldType.int)) := rfl
theorem xma234 : xMt[234]? = some (14, yJ6_bitCount_0f7a4, cJ6_bitCount_0f7a4, 1, (Option.some Jvm.ClassFile.FieldType.int)) := rfl
theorem xma235 : xMt[235]? = some (16, yJ0_length_8abf5, cJ0_length_8abf5, 1, (Option.some Jvm.ClassFile.FieldType.int)) := rfl
theorem xma236 : xMt[236]? = some (16, yJ0_charAt_5068e, cJ0_charAt_5068e, 2, (Option.some Jvm.ClassFile.FieldType.char)) := rfl
theorem xma237 : xMt[237]? = some (16, yJ0_coder_7d493, cJ0_coder_7d493, 1, (Option.some Jvm.ClassFile.FieldType.byte)) := rfl
theorem xma238 : xMt[238]? = some (16, yJ0_isLatin1_aae02, cJ0_isLatin1_aae02, 1, (Option.some Jvm.ClassFile.FieldType.boolean)) := rfl
theorem xma239 : xMt[239]? = some (16, yJ0_checkIndex_df160, cJ0_checkIndex_df160, 2, (Option.none : Option Jvm.ClassFile.FieldType)) := rfl
theorem xma240 : xMt[240]? = some (17, yJ1_charAt_3b067, cJ1_charAt_3b067, 2, (Option.some Jvm.ClassFile.FieldType.char)) := rfl
theorem xma241 : xMt[241]? = some (15, yJ7_fill_d0a16, cJ7_fill_d0a16, 5, (Option.none : Option Jvm.ClassFile.FieldType)) := rfl
theorem xma242 : xMt[242]? = some (15, yJ7_fill_53178, cJ7_fill_53178, 4, (Option.none : Option Jvm.ClassFile.FieldType)) := rfl
theorem xma243 : xMt[243]? = some (18, yJ3_checkIndex_8e157, cJ3_checkIndex_8e157, 3, (Option.some Jvm.ClassFile.FieldType.int)) := rfl
theorem xpc6 : xpc yX2_init 6 := by decide +kernel
theorem xw625 : Cond.methodLink "HatsDecide$Crown" 1 ⟨"HatsDecide$Hat", "<init>", "(IIIIILHatsDecide$Trace;)V"⟩ ∈ xW := xin (xt2 (i := 102) rfl) rfl
theorem xw626 : Cond.instanceMethod ⟨"HatsDecide$Hat", "<init>", "(IIIIILHatsDecide$Trace;)V"⟩ ∈ xW := xin (xt2 (i := 38) rfl) rfl
theorem xc0 : xCok (0, 1, 99, 1, 6, 6) := ⟨_, xma6, xpc6, by decide, xw625, xw626, rfl⟩
theorem xpc7 : xpc yX2_deed 4 := by decide +kernel
theorem xw627 : Cond.methodLink "HatsDecide$Crown" 7 ⟨"HatsDecide$Hat", "deed", "(IIII)I"⟩ ∈ xW := xin (xt2 (i := 216) rfl) rfl
theorem xw628 : Cond.sameMethod "HatsDecide$Hat" "HatsDecide$Hat" "deed" "(IIII)I" ∈ xW := xin (xt2 (i := 212) rfl) rfl
theorem xw629 : Cond.superclass "HatsDecide$Crown" "HatsDecide$Hat" ∈ xW := xin (xt2 (i := 109) rfl) rfl
theorem xw630 : Cond.instanceMethod ⟨"HatsDecide$Hat", "deed", "(IIII)I"⟩ ∈ xW := xin (xt2 (i := 210) rfl) rfl
theorem xc1 : xCok (0, 7, 99, 2, 7, 4) := ⟨_, xma7, xpc7, by decide, xw627, xw628, xw629, xw630, by decide +kernel⟩
theorem xpc50 : xpc yX9_note 1 := by decide +kernel
theorem xw631 : Cond.methodLink "HatsDecide$Crown" 21 ⟨"HatsDecide$Trace", "note", "(I)V"⟩ ∈ xW := xin (xt4 (i := 165) rfl) rfl
theorem xw632 : Cond.instanceMethod ⟨"HatsDecide$Trace", "note", "(I)V"⟩ ∈ xW := xin (xt4 (i := 113) rfl) rfl
theorem xw633 : Cond.selects "HatsDecide$Trace" ⟨"HatsDecide$Trace", "note", "(I)V"⟩ ⟨"HatsDecide$Trace", "note", "(I)V"⟩ ∈ xW := xin (xt4 (i := 114) rfl) rfl
theorem xc2 : xCok (0, 21, 9, 3, 50, 1) := ⟨_, xma50, xpc50, by decide, xw631, xw632, xw633, by decide, rfl⟩
theorem xpc10 : xpc yX2_tells 1 := by decide +kernel
theorem xw634 : Cond.methodLink "HatsDecide$Crown" 27 ⟨"HatsDecide$Hat", "tells", "(I)I"⟩ ∈ xW := xin (xt4 (i := 166) rfl) rfl
theorem xw635 : Cond.sameMethod "HatsDecide$Hat" "HatsDecide$Hat" "tells" "(I)I" ∈ xW := xin (xt4 (i := 161) rfl) rfl
theorem xw636 : Cond.instanceMethod ⟨"HatsDecide$Hat", "tells", "(I)I"⟩ ∈ xW := xin (xt4 (i := 159) rfl) rfl
theorem xc3 : xCok (0, 27, 99, 2, 10, 1) := ⟨_, xma10, xpc10, by decide, xw634, xw635, xw629, xw636, by decide +kernel⟩
theorem xpc9 : xpc yX2_does 1 := by decide +kernel
theorem xw637 : Cond.methodLink "HatsDecide$Crown" 31 ⟨"HatsDecide$Crown", "does", "(I)I"⟩ ∈ xW := xin (xt4 (i := 167) rfl) rfl
theorem xw638 : Cond.sameMethod "HatsDecide$Crown" "HatsDecide$Hat" "does" "(I)I" ∈ xW := xin (xt4 (i := 153) rfl) rfl
theorem xw639 : Cond.selects "HatsDecide$Crown" ⟨"HatsDecide$Crown", "does", "(I)I"⟩ ⟨"HatsDecide$Hat", "does", "(I)I"⟩ ∈ xW := xin (xt4 (i := 168) rfl) rfl
theorem xw640 : Cond.instanceMethod ⟨"HatsDecide$Hat", "does", "(I)I"⟩ ∈ xW := xin (xt4 (i := 135) rfl) rfl
theorem xc4 : xCok (0, 31, 0, 5, 9, 1) := ⟨_, xma9, xpc9, by decide, "HatsDecide$Crown", xw637, xw638, xw639, xw640, by decide⟩
theorem xpc30 : xpc yX7_does 1 := by decide +kernel
theorem xw641 : Cond.selects "HatsDecide$Told" ⟨"HatsDecide$Crown", "does", "(I)I"⟩ ⟨"HatsDecide$Told", "does", "(I)I"⟩ ∈ xW := xin (xt4 (i := 169) rfl) rfl
theorem xw642 : Cond.instanceMethod ⟨"HatsDecide$Told", "does", "(I)I"⟩ ∈ xW := xin (xt4 (i := 150) rfl) rfl
theorem xc5 : xCok (0, 31, 7, 4, 30, 1) := ⟨_, xma30, xpc30, by decide, "HatsDecide$Crown", "HatsDecide$Hat", prog_4_method_4_code, 2, (Option.some Jvm.ClassFile.FieldType.int), xw637, xw638, xw640, xw641, xw642, xw385, by decide, xnh3⟩
theorem xpc51 : xpc yX10_init 6 := by decide +kernel
theorem xw643 : Cond.methodLink "HatsDecide$Frayed" 1 ⟨"HatsDecide$Worn", "<init>", "(IIIIILHatsDecide$Trace;)V"⟩ ∈ xW := xin (xt2 (i := 128) rfl) rfl
theorem xw644 : Cond.instanceMethod ⟨"HatsDecide$Worn", "<init>", "(IIIIILHatsDecide$Trace;)V"⟩ ∈ xW := xin (xt2 (i := 87) rfl) rfl
theorem xc6 : xCok (1, 1, 99, 1, 51, 6) := ⟨_, xma51, xpc51, by decide, xw643, xw644, rfl⟩
theorem xpc52 : xpc yX10_deed 4 := by decide +kernel
theorem xw645 : Cond.methodLink "HatsDecide$Frayed" 7 ⟨"HatsDecide$Worn", "deed", "(IIII)I"⟩ ∈ xW := xin (xt2 (i := 220) rfl) rfl
theorem xw646 : Cond.sameMethod "HatsDecide$Worn" "HatsDecide$Worn" "deed" "(IIII)I" ∈ xW := xin (xt7 (i := 167) rfl) rfl
theorem xw647 : Cond.superclass "HatsDecide$Frayed" "HatsDecide$Worn" ∈ xW := xin (xt2 (i := 135) rfl) rfl
theorem xw648 : Cond.instanceMethod ⟨"HatsDecide$Worn", "deed", "(IIII)I"⟩ ∈ xW := xin (xt2 (i := 221) rfl) rfl
theorem xc7 : xCok (1, 7, 99, 2, 52, 4) := ⟨_, xma52, xpc52, by decide, xw645, xw646, xw647, xw648, by decide +kernel⟩
theorem xw649 : Cond.methodLink "HatsDecide$Frayed" 27 ⟨"HatsDecide$Trace", "note", "(I)V"⟩ ∈ xW := xin (xt4 (i := 173) rfl) rfl
theorem xc8 : xCok (1, 27, 9, 3, 50, 1) := ⟨_, xma50, xpc50, by decide, xw649, xw632, xw633, by decide, rfl⟩
theorem xw650 : Cond.methodLink "HatsDecide$Frayed" 36 ⟨"HatsDecide$Worn", "tells", "(I)I"⟩ ∈ xW := xin (xt4 (i := 174) rfl) rfl
theorem xw651 : Cond.sameMethod "HatsDecide$Worn" "HatsDecide$Hat" "tells" "(I)I" ∈ xW := xin (xt4 (i := 175) rfl) rfl
theorem xw652 : Cond.superclass "HatsDecide$Worn" "HatsDecide$Hat" ∈ xW := xin (xt2 (i := 96) rfl) rfl
theorem xc9 : xCok (1, 36, 99, 8, 10, 1) := ⟨_, xma10, xpc10, by decide, "HatsDecide$Worn", xw650, xw651, xw647, xw652, xw636, by decide +kernel⟩
theorem xw653 : Cond.methodLink "HatsDecide$Hat" 35 ⟨"HatsDecide$Trace", "note", "(I)V"⟩ ∈ xW := xin (xt4 (i := 133) rfl) rfl
theorem xc10 : xCok (2, 35, 9, 3, 50, 1) := ⟨_, xma50, xpc50, by decide, xw653, xw632, xw633, by decide, rfl⟩
theorem xpc8 : xpc yX2_sits 1 := by decide +kernel
theorem xw654 : Cond.methodLink "HatsDecide$Hat" 41 ⟨"HatsDecide$Hat", "sits", "(I)I"⟩ ∈ xW := xin (xt4 (i := 157) rfl) rfl
theorem xw655 : Cond.sameMethod "HatsDecide$Hat" "HatsDecide$Hat" "sits" "(I)I" ∈ xW := xin (xt4 (i := 107) rfl) rfl
theorem xw656 : Cond.selects "HatsDecide$Crown" ⟨"HatsDecide$Hat", "sits", "(I)I"⟩ ⟨"HatsDecide$Hat", "sits", "(I)I"⟩ ∈ xW := xin (xt4 (i := 108) rfl) rfl
theorem xw657 : Cond.instanceMethod ⟨"HatsDecide$Hat", "sits", "(I)I"⟩ ∈ xW := xin (xt4 (i := 105) rfl) rfl
theorem xc11 : xCok (2, 41, 0, 5, 8, 1) := ⟨_, xma8, xpc8, by decide, "HatsDecide$Hat", xw654, xw655, xw656, xw657, by decide⟩
theorem xpc53 : xpc yX10_sits 1 := by decide +kernel
theorem xw658 : Cond.selects "HatsDecide$Frayed" ⟨"HatsDecide$Hat", "sits", "(I)I"⟩ ⟨"HatsDecide$Worn", "sits", "(I)I"⟩ ∈ xW := xin (xt4 (i := 109) rfl) rfl
theorem xw659 : Cond.instanceMethod ⟨"HatsDecide$Worn", "sits", "(I)I"⟩ ∈ xW := xin (xt4 (i := 110) rfl) rfl
theorem xc12 : xCok (2, 41, 1, 4, 53, 1) := ⟨_, xma53, xpc53, by decide, "HatsDecide$Hat", "HatsDecide$Hat", prog_4_method_3_code, 2, (Option.some Jvm.ClassFile.FieldType.int), xw654, xw655, xw657, xw658, xw659, xw384, by decide, xnh3⟩
theorem xw660 : Cond.selects "HatsDecide$Hat" ⟨"HatsDecide$Hat", "sits", "(I)I"⟩ ⟨"HatsDecide$Hat", "sits", "(I)I"⟩ ∈ xW := xin (xt4 (i := 106) rfl) rfl
theorem xc13 : xCok (2, 41, 2, 3, 8, 1) := ⟨_, xma8, xpc8, by decide, xw654, xw657, xw660, by decide, rfl⟩
theorem xpc19 : xpc yX4_sits 1 := by decide +kernel
theorem xw661 : Cond.selects "HatsDecide$Stiff" ⟨"HatsDecide$Hat", "sits", "(I)I"⟩ ⟨"HatsDecide$Stiff", "sits", "(I)I"⟩ ∈ xW := xin (xt4 (i := 117) rfl) rfl
theorem xw662 : Cond.instanceMethod ⟨"HatsDecide$Stiff", "sits", "(I)I"⟩ ∈ xW := xin (xt4 (i := 118) rfl) rfl
theorem xc14 : xCok (2, 41, 4, 4, 19, 1) := ⟨_, xma19, xpc19, by decide, "HatsDecide$Hat", "HatsDecide$Hat", prog_4_method_3_code, 2, (Option.some Jvm.ClassFile.FieldType.int), xw654, xw655, xw657, xw661, xw662, xw384, by decide, xnh3⟩
theorem xw663 : Cond.selects "HatsDecide$Tight" ⟨"HatsDecide$Hat", "sits", "(I)I"⟩ ⟨"HatsDecide$Hat", "sits", "(I)I"⟩ ∈ xW := xin (xt4 (i := 124) rfl) rfl
theorem xc15 : xCok (2, 41, 6, 5, 8, 1) := ⟨_, xma8, xpc8, by decide, "HatsDecide$Hat", xw654, xw655, xw663, xw657, by decide⟩
theorem xpc31 : xpc yX7_sits 1 := by decide +kernel
theorem xw664 : Cond.selects "HatsDecide$Told" ⟨"HatsDecide$Hat", "sits", "(I)I"⟩ ⟨"HatsDecide$Told", "sits", "(I)I"⟩ ∈ xW := xin (xt4 (i := 125) rfl) rfl
theorem xw665 : Cond.instanceMethod ⟨"HatsDecide$Told", "sits", "(I)I"⟩ ∈ xW := xin (xt4 (i := 126) rfl) rfl
theorem xc16 : xCok (2, 41, 7, 4, 31, 1) := ⟨_, xma31, xpc31, by decide, "HatsDecide$Hat", "HatsDecide$Hat", prog_4_method_3_code, 2, (Option.some Jvm.ClassFile.FieldType.int), xw654, xw655, xw657, xw664, xw665, xw384, by decide, xnh3⟩
theorem xw666 : Cond.selects "HatsDecide$Worn" ⟨"HatsDecide$Hat", "sits", "(I)I"⟩ ⟨"HatsDecide$Worn", "sits", "(I)I"⟩ ∈ xW := xin (xt4 (i := 131) rfl) rfl
theorem xc17 : xCok (2, 41, 10, 4, 53, 1) := ⟨_, xma53, xpc53, by decide, "HatsDecide$Hat", "HatsDecide$Hat", prog_4_method_3_code, 2, (Option.some Jvm.ClassFile.FieldType.int), xw654, xw655, xw657, xw666, xw659, xw384, by decide, xnh3⟩
theorem xw667 : Cond.methodLink "HatsDecide$Hat" 45 ⟨"HatsDecide$Hat", "does", "(I)I"⟩ ∈ xW := xin (xt4 (i := 182) rfl) rfl
theorem xw668 : Cond.sameMethod "HatsDecide$Hat" "HatsDecide$Hat" "does" "(I)I" ∈ xW := xin (xt4 (i := 137) rfl) rfl
theorem xw669 : Cond.selects "HatsDecide$Crown" ⟨"HatsDecide$Hat", "does", "(I)I"⟩ ⟨"HatsDecide$Hat", "does", "(I)I"⟩ ∈ xW := xin (xt4 (i := 138) rfl) rfl
theorem xc18 : xCok (2, 45, 0, 5, 9, 1) := ⟨_, xma9, xpc9, by decide, "HatsDecide$Hat", xw667, xw668, xw669, xw640, by decide⟩
theorem xw670 : Cond.selects "HatsDecide$Frayed" ⟨"HatsDecide$Hat", "does", "(I)I"⟩ ⟨"HatsDecide$Hat", "does", "(I)I"⟩ ∈ xW := xin (xt4 (i := 139) rfl) rfl
theorem xc19 : xCok (2, 45, 1, 5, 9, 1) := ⟨_, xma9, xpc9, by decide, "HatsDecide$Hat", xw667, xw668, xw670, xw640, by decide⟩
theorem xw671 : Cond.selects "HatsDecide$Hat" ⟨"HatsDecide$Hat", "does", "(I)I"⟩ ⟨"HatsDecide$Hat", "does", "(I)I"⟩ ∈ xW := xin (xt4 (i := 136) rfl) rfl
theorem xc20 : xCok (2, 45, 2, 3, 9, 1) := ⟨_, xma9, xpc9, by decide, xw667, xw640, xw671, by decide, rfl⟩
theorem xpc20 : xpc yX4_does 1 := by decide +kernel
theorem xw672 : Cond.selects "HatsDecide$Stiff" ⟨"HatsDecide$Hat", "does", "(I)I"⟩ ⟨"HatsDecide$Stiff", "does", "(I)I"⟩ ∈ xW := xin (xt4 (i := 140) rfl) rfl
theorem xw673 : Cond.instanceMethod ⟨"HatsDecide$Stiff", "does", "(I)I"⟩ ∈ xW := xin (xt4 (i := 141) rfl) rfl
theorem xc21 : xCok (2, 45, 4, 4, 20, 1) := ⟨_, xma20, xpc20, by decide, "HatsDecide$Hat", "HatsDecide$Hat", prog_4_method_4_code, 2, (Option.some Jvm.ClassFile.FieldType.int), xw667, xw668, xw640, xw672, xw673, xw385, by decide, xnh3⟩
theorem xpc27 : xpc yX6_does 1 := by decide +kernel
theorem xw674 : Cond.selects "HatsDecide$Tight" ⟨"HatsDecide$Hat", "does", "(I)I"⟩ ⟨"HatsDecide$Tight", "does", "(I)I"⟩ ∈ xW := xin (xt4 (i := 148) rfl) rfl
theorem xw675 : Cond.instanceMethod ⟨"HatsDecide$Tight", "does", "(I)I"⟩ ∈ xW := xin (xt4 (i := 144) rfl) rfl
theorem xc22 : xCok (2, 45, 6, 4, 27, 1) := ⟨_, xma27, xpc27, by decide, "HatsDecide$Hat", "HatsDecide$Hat", prog_4_method_4_code, 2, (Option.some Jvm.ClassFile.FieldType.int), xw667, xw668, xw640, xw674, xw675, xw385, by decide, xnh3⟩
theorem xw676 : Cond.selects "HatsDecide$Told" ⟨"HatsDecide$Hat", "does", "(I)I"⟩ ⟨"HatsDecide$Told", "does", "(I)I"⟩ ∈ xW := xin (xt4 (i := 149) rfl) rfl
theorem xc23 : xCok (2, 45, 7, 4, 30, 1) := ⟨_, xma30, xpc30, by decide, "HatsDecide$Hat", "HatsDecide$Hat", prog_4_method_4_code, 2, (Option.some Jvm.ClassFile.FieldType.int), xw667, xw668, xw640, xw676, xw642, xw385, by decide, xnh3⟩
theorem xw677 : Cond.selects "HatsDecide$Worn" ⟨"HatsDecide$Hat", "does", "(I)I"⟩ ⟨"HatsDecide$Hat", "does", "(I)I"⟩ ∈ xW := xin (xt4 (i := 155) rfl) rfl
theorem xc24 : xCok (2, 45, 10, 5, 9, 1) := ⟨_, xma9, xpc9, by decide, "HatsDecide$Hat", xw667, xw668, xw677, xw640, by decide⟩
theorem xpc16 : xpc yX3_copy 2 := by decide +kernel
theorem xw678 : Cond.methodLink "HatsDecide$Scene" 70 ⟨"HatsDecide$Scene", "copy", "([I[I)V"⟩ ∈ xW := xin (xt4 (i := 87) rfl) rfl
theorem xw679 : Cond.static ⟨"HatsDecide$Scene", "copy", "([I[I)V"⟩ ∈ xW := xin (xt4 (i := 88) rfl) rfl
theorem xc25 : xCok (3, 70, 99, 0, 16, 2) := ⟨_, xma16, xpc16, by decide, xw678, xw679⟩
theorem xpc25 : xpc yX6_init 6 := by decide +kernel
theorem xw680 : Cond.methodLink "HatsDecide$Stiff" 1 ⟨"HatsDecide$Tight", "<init>", "(IIIIILHatsDecide$Trace;)V"⟩ ∈ xW := xin (xt2 (i := 115) rfl) rfl
theorem xw681 : Cond.instanceMethod ⟨"HatsDecide$Tight", "<init>", "(IIIIILHatsDecide$Trace;)V"⟩ ∈ xW := xin (xt2 (i := 35) rfl) rfl
theorem xc26 : xCok (4, 1, 99, 1, 25, 6) := ⟨_, xma25, xpc25, by decide, xw680, xw681, rfl⟩
theorem xpc26 : xpc yX6_deed 4 := by decide +kernel
theorem xw682 : Cond.methodLink "HatsDecide$Stiff" 7 ⟨"HatsDecide$Tight", "deed", "(IIII)I"⟩ ∈ xW := xin (xt2 (i := 231) rfl) rfl
theorem xw683 : Cond.sameMethod "HatsDecide$Tight" "HatsDecide$Tight" "deed" "(IIII)I" ∈ xW := xin (xt7 (i := 168) rfl) rfl
theorem xw684 : Cond.superclass "HatsDecide$Stiff" "HatsDecide$Tight" ∈ xW := xin (xt2 (i := 122) rfl) rfl
theorem xw685 : Cond.instanceMethod ⟨"HatsDecide$Tight", "deed", "(IIII)I"⟩ ∈ xW := xin (xt2 (i := 232) rfl) rfl
theorem xc27 : xCok (4, 7, 99, 2, 26, 4) := ⟨_, xma26, xpc26, by decide, xw682, xw683, xw684, xw685, by decide +kernel⟩
theorem xw686 : Cond.methodLink "HatsDecide$Stiff" 17 ⟨"HatsDecide$Trace", "note", "(I)V"⟩ ∈ xW := xin (xt4 (i := 120) rfl) rfl
theorem xc28 : xCok (4, 17, 9, 3, 50, 1) := ⟨_, xma50, xpc50, by decide, xw686, xw632, xw633, by decide, rfl⟩
theorem xw687 : Cond.methodLink "HatsDecide$Stiff" 23 ⟨"HatsDecide$Tight", "sits", "(I)I"⟩ ∈ xW := xin (xt4 (i := 121) rfl) rfl
theorem xw688 : Cond.sameMethod "HatsDecide$Tight" "HatsDecide$Hat" "sits" "(I)I" ∈ xW := xin (xt4 (i := 122) rfl) rfl
theorem xw689 : Cond.superclass "HatsDecide$Tight" "HatsDecide$Hat" ∈ xW := xin (xt2 (i := 83) rfl) rfl
theorem xc29 : xCok (4, 23, 99, 8, 8, 1) := ⟨_, xma8, xpc8, by decide, "HatsDecide$Tight", xw687, xw688, xw684, xw689, xw657, by decide +kernel⟩
theorem xw690 : Cond.methodLink "HatsDecide$Stiff" 27 ⟨"HatsDecide$Tight", "does", "(I)I"⟩ ∈ xW := xin (xt4 (i := 143) rfl) rfl
theorem xw691 : Cond.sameMethod "HatsDecide$Tight" "HatsDecide$Tight" "does" "(I)I" ∈ xW := xin (xt7 (i := 170) rfl) rfl
theorem xc30 : xCok (4, 27, 99, 2, 27, 1) := ⟨_, xma27, xpc27, by decide, xw690, xw691, xw684, xw675, by decide +kernel⟩
theorem xpc241 : xpc yJ7_fill_d0a16 2 := by decide +kernel
theorem xw692 : Cond.methodLink "HatsDecide$Tape" 22 ⟨"java/util/Arrays", "fill", "([JJ)V"⟩ ∈ xW := xin (xt4 (i := 206) rfl) rfl
theorem xw693 : Cond.static ⟨"java/util/Arrays", "fill", "([JJ)V"⟩ ∈ xW := xin (xt4 (i := 207) rfl) rfl
theorem xc31 : xCok (5, 22, 99, 0, 241, 2) := ⟨_, xma241, xpc241, by decide, xw692, xw693⟩
theorem xw694 : Cond.methodLink "HatsDecide$Tight" 1 ⟨"HatsDecide$Hat", "<init>", "(IIIIILHatsDecide$Trace;)V"⟩ ∈ xW := xin (xt2 (i := 37) rfl) rfl
theorem xc32 : xCok (6, 1, 99, 1, 6, 6) := ⟨_, xma6, xpc6, by decide, xw694, xw626, rfl⟩
theorem xw695 : Cond.methodLink "HatsDecide$Tight" 7 ⟨"HatsDecide$Hat", "deed", "(IIII)I"⟩ ∈ xW := xin (xt2 (i := 234) rfl) rfl
theorem xc33 : xCok (6, 7, 99, 2, 7, 4) := ⟨_, xma7, xpc7, by decide, xw695, xw628, xw689, xw630, by decide +kernel⟩
theorem xw696 : Cond.methodLink "HatsDecide$Tight" 23 ⟨"HatsDecide$Trace", "note", "(I)V"⟩ ∈ xW := xin (xt4 (i := 146) rfl) rfl
theorem xc34 : xCok (6, 23, 9, 3, 50, 1) := ⟨_, xma50, xpc50, by decide, xw696, xw632, xw633, by decide, rfl⟩
theorem xw697 : Cond.methodLink "HatsDecide$Tight" 29 ⟨"HatsDecide$Hat", "does", "(I)I"⟩ ∈ xW := xin (xt4 (i := 147) rfl) rfl
theorem xc35 : xCok (6, 29, 99, 2, 9, 1) := ⟨_, xma9, xpc9, by decide, xw697, xw668, xw689, xw640, by decide +kernel⟩
theorem xpc0 : xpc yX0_init 6 := by decide +kernel
theorem xw698 : Cond.methodLink "HatsDecide$Told" 1 ⟨"HatsDecide$Crown", "<init>", "(IIIIILHatsDecide$Trace;)V"⟩ ∈ xW := xin (xt2 (i := 141) rfl) rfl
theorem xw699 : Cond.instanceMethod ⟨"HatsDecide$Crown", "<init>", "(IIIIILHatsDecide$Trace;)V"⟩ ∈ xW := xin (xt2 (i := 100) rfl) rfl
theorem xc36 : xCok (7, 1, 99, 1, 0, 6) := ⟨_, xma0, xpc0, by decide, xw698, xw699, rfl⟩
theorem xpc1 : xpc yX0_deed 4 := by decide +kernel
theorem xw700 : Cond.methodLink "HatsDecide$Told" 7 ⟨"HatsDecide$Crown", "deed", "(IIII)I"⟩ ∈ xW := xin (xt3 (i := 0) rfl) rfl
theorem xw701 : Cond.sameMethod "HatsDecide$Crown" "HatsDecide$Crown" "deed" "(IIII)I" ∈ xW := xin (xt7 (i := 169) rfl) rfl
theorem xw702 : Cond.superclass "HatsDecide$Told" "HatsDecide$Crown" ∈ xW := xin (xt2 (i := 148) rfl) rfl
theorem xw703 : Cond.instanceMethod ⟨"HatsDecide$Crown", "deed", "(IIII)I"⟩ ∈ xW := xin (xt2 (i := 214) rfl) rfl
theorem xc37 : xCok (7, 7, 99, 2, 1, 4) := ⟨_, xma1, xpc1, by decide, xw700, xw701, xw702, xw703, by decide +kernel⟩
theorem xw704 : Cond.methodLink "HatsDecide$Told" 17 ⟨"HatsDecide$Trace", "note", "(I)V"⟩ ∈ xW := xin (xt4 (i := 128) rfl) rfl
theorem xc38 : xCok (7, 17, 9, 3, 50, 1) := ⟨_, xma50, xpc50, by decide, xw704, xw632, xw633, by decide, rfl⟩
theorem xw705 : Cond.methodLink "HatsDecide$Told" 23 ⟨"HatsDecide$Crown", "does", "(I)I"⟩ ∈ xW := xin (xt4 (i := 152) rfl) rfl
theorem xc39 : xCok (7, 23, 99, 8, 9, 1) := ⟨_, xma9, xpc9, by decide, "HatsDecide$Crown", xw705, xw638, xw702, xw629, xw640, by decide +kernel⟩
theorem xw706 : Cond.methodLink "HatsDecide$Told" 27 ⟨"HatsDecide$Crown", "sits", "(I)I"⟩ ∈ xW := xin (xt4 (i := 129) rfl) rfl
theorem xw707 : Cond.sameMethod "HatsDecide$Crown" "HatsDecide$Hat" "sits" "(I)I" ∈ xW := xin (xt4 (i := 130) rfl) rfl
theorem xc40 : xCok (7, 27, 99, 8, 8, 1) := ⟨_, xma8, xpc8, by decide, "HatsDecide$Crown", xw706, xw707, xw702, xw629, xw657, by decide +kernel⟩
theorem xpc36 : xpc yX8_holds 2 := by decide +kernel
theorem xw708 : Cond.methodLink "HatsDecide$Town" 54 ⟨"HatsDecide$Town", "holds", "(I[I)Z"⟩ ∈ xW := xin (xt2 (i := 197) rfl) rfl
theorem xw709 : Cond.instanceMethod ⟨"HatsDecide$Town", "holds", "(I[I)Z"⟩ ∈ xW := xin (xt2 (i := 199) rfl) rfl
theorem xw710 : Cond.selects "HatsDecide$Town" ⟨"HatsDecide$Town", "holds", "(I[I)Z"⟩ ⟨"HatsDecide$Town", "holds", "(I[I)Z"⟩ ∈ xW := xsel (i := 3) rfl
theorem xc41 : xCok (8, 54, 8, 3, 36, 2) := ⟨_, xma36, xpc36, by decide, xw708, xw709, xw710, by decide, rfl⟩
theorem xpc38 : xpc yX8_isTrue 2 := by decide +kernel
theorem xw711 : Cond.methodLink "HatsDecide$Town" 58 ⟨"HatsDecide$Town", "isTrue", "(I[I)Z"⟩ ∈ xW := xin (xt2 (i := 201) rfl) rfl
theorem xw712 : Cond.static ⟨"HatsDecide$Town", "isTrue", "(I[I)Z"⟩ ∈ xW := xin (xt2 (i := 202) rfl) rfl
theorem xc42 : xCok (8, 58, 99, 0, 38, 2) := ⟨_, xma38, xpc38, by decide, xw711, xw712⟩
theorem xpc235 : xpc yJ0_length_8abf5 0 := by decide +kernel
theorem xw713 : Cond.methodLink "HatsDecide$Town" 63 ⟨"java/lang/String", "length", "()I"⟩ ∈ xW := xin (xt2 (i := 205) rfl) rfl
theorem xw714 : Cond.instanceMethod ⟨"java/lang/String", "length", "()I"⟩ ∈ xW := xin (xt1 (i := 178) rfl) rfl
theorem xw715 : Cond.selects "java/lang/String" ⟨"java/lang/String", "length", "()I"⟩ ⟨"java/lang/String", "length", "()I"⟩ ∈ xW := xin (xt1 (i := 179) rfl) rfl
theorem xc43 : xCok (8, 63, 16, 9, 235, 0) := ⟨_, xma235, xpc235, by decide, xw713, xw714, xw715, rfl⟩
theorem xpc233 : xpc yJ6_compare_7cf53 2 := by decide +kernel
theorem xw716 : Cond.methodLink "HatsDecide$Town" 69 ⟨"java/lang/Integer", "compare", "(II)I"⟩ ∈ xW := xin (xt2 (i := 206) rfl) rfl
theorem xw717 : Cond.static ⟨"java/lang/Integer", "compare", "(II)I"⟩ ∈ xW := xin (xt2 (i := 207) rfl) rfl
theorem xc44 : xCok (8, 69, 99, 0, 233, 2) := ⟨_, xma233, xpc233, by decide, xw716, xw717⟩
theorem xpc46 : xpc yX8_expect 1 := by decide +kernel
theorem xw718 : Cond.methodLink "HatsDecide$Town" 80 ⟨"HatsDecide$Town", "expect", "(C)V"⟩ ∈ xW := xin (xt3 (i := 43) rfl) rfl
theorem xw719 : Cond.instanceMethod ⟨"HatsDecide$Town", "expect", "(C)V"⟩ ∈ xW := xin (xt3 (i := 45) rfl) rfl
theorem xw720 : Cond.selects "HatsDecide$Town" ⟨"HatsDecide$Town", "expect", "(C)V"⟩ ⟨"HatsDecide$Town", "expect", "(C)V"⟩ ∈ xW := xsel (i := 5) rfl
theorem xc45 : xCok (8, 80, 8, 3, 46, 1) := ⟨_, xma46, xpc46, by decide, xw718, xw719, xw720, by decide, rfl⟩
theorem xpc40 : xpc yX8_parseClause 1 := by decide +kernel
theorem xw721 : Cond.methodLink "HatsDecide$Town" 84 ⟨"HatsDecide$Town", "parseClause", "(I)V"⟩ ∈ xW := xin (xt3 (i := 51) rfl) rfl
theorem xw722 : Cond.instanceMethod ⟨"HatsDecide$Town", "parseClause", "(I)V"⟩ ∈ xW := xin (xt3 (i := 53) rfl) rfl
theorem xw723 : Cond.selects "HatsDecide$Town" ⟨"HatsDecide$Town", "parseClause", "(I)V"⟩ ⟨"HatsDecide$Town", "parseClause", "(I)V"⟩ ∈ xW := xsel (i := 7) rfl
theorem xc46 : xCok (8, 84, 8, 3, 40, 1) := ⟨_, xma40, xpc40, by decide, xw721, xw722, xw723, by decide, rfl⟩
theorem xpc47 : xpc yX8_oneOf 1 := by decide +kernel
theorem xw724 : Cond.methodLink "HatsDecide$Town" 90 ⟨"HatsDecide$Town", "oneOf", "(Ljava/lang/String;)I"⟩ ∈ xW := xin (xt3 (i := 56) rfl) rfl
theorem xw725 : Cond.instanceMethod ⟨"HatsDecide$Town", "oneOf", "(Ljava/lang/String;)I"⟩ ∈ xW := xin (xt3 (i := 58) rfl) rfl
theorem xw726 : Cond.selects "HatsDecide$Town" ⟨"HatsDecide$Town", "oneOf", "(Ljava/lang/String;)I"⟩ ⟨"HatsDecide$Town", "oneOf", "(Ljava/lang/String;)I"⟩ ∈ xW := xsel (i := 8) rfl
theorem xc47 : xCok (8, 90, 8, 3, 47, 1) := ⟨_, xma47, xpc47, by decide, xw724, xw725, xw726, by decide, rfl⟩
theorem xpc236 : xpc yJ0_charAt_5068e 1 := by decide +kernel
theorem xw727 : Cond.methodLink "HatsDecide$Town" 96 ⟨"java/lang/String", "charAt", "(I)C"⟩ ∈ xW := xin (xt3 (i := 60) rfl) rfl
theorem xw728 : Cond.instanceMethod ⟨"java/lang/String", "charAt", "(I)C"⟩ ∈ xW := xin (xt3 (i := 61) rfl) rfl
theorem xw729 : Cond.selects "java/lang/String" ⟨"java/lang/String", "charAt", "(I)C"⟩ ⟨"java/lang/String", "charAt", "(I)C"⟩ ∈ xW := xin (xt3 (i := 62) rfl) rfl
theorem xc48 : xCok (8, 96, 16, 9, 236, 1) := ⟨_, xma236, xpc236, by decide, xw727, xw728, xw729, rfl⟩
theorem xpc43 : xpc yX8_parseNumber 0 := by decide +kernel
theorem xw730 : Cond.methodLink "HatsDecide$Town" 100 ⟨"HatsDecide$Town", "parseNumber", "()I"⟩ ∈ xW := xin (xt3 (i := 99) rfl) rfl
theorem xw731 : Cond.instanceMethod ⟨"HatsDecide$Town", "parseNumber", "()I"⟩ ∈ xW := xin (xt3 (i := 101) rfl) rfl
theorem xw732 : Cond.selects "HatsDecide$Town" ⟨"HatsDecide$Town", "parseNumber", "()I"⟩ ⟨"HatsDecide$Town", "parseNumber", "()I"⟩ ∈ xW := xsel (i := 9) rfl
theorem xc49 : xCok (8, 100, 8, 3, 43, 0) := ⟨_, xma43, xpc43, by decide, xw730, xw731, xw732, by decide, rfl⟩
theorem xpc41 : xpc yX8_parseEither 1 := by decide +kernel
theorem xw733 : Cond.methodLink "HatsDecide$Town" 103 ⟨"HatsDecide$Town", "parseEither", "(I)V"⟩ ∈ xW := xin (xt3 (i := 105) rfl) rfl
theorem xw734 : Cond.instanceMethod ⟨"HatsDecide$Town", "parseEither", "(I)V"⟩ ∈ xW := xin (xt3 (i := 107) rfl) rfl
theorem xw735 : Cond.selects "HatsDecide$Town" ⟨"HatsDecide$Town", "parseEither", "(I)V"⟩ ⟨"HatsDecide$Town", "parseEither", "(I)V"⟩ ∈ xW := xsel (i := 10) rfl
theorem xc50 : xCok (8, 103, 8, 3, 41, 1) := ⟨_, xma41, xpc41, by decide, xw733, xw734, xw735, by decide, rfl⟩
theorem xpc42 : xpc yX8_parsePart 1 := by decide +kernel
theorem xw736 : Cond.methodLink "HatsDecide$Town" 106 ⟨"HatsDecide$Town", "parsePart", "(I)V"⟩ ∈ xW := xin (xt3 (i := 109) rfl) rfl
theorem xw737 : Cond.instanceMethod ⟨"HatsDecide$Town", "parsePart", "(I)V"⟩ ∈ xW := xin (xt3 (i := 111) rfl) rfl
theorem xw738 : Cond.selects "HatsDecide$Town" ⟨"HatsDecide$Town", "parsePart", "(I)V"⟩ ⟨"HatsDecide$Town", "parsePart", "(I)V"⟩ ∈ xW := xsel (i := 11) rfl
theorem xc51 : xCok (8, 106, 8, 3, 42, 1) := ⟨_, xma42, xpc42, by decide, xw736, xw737, xw738, by decide, rfl⟩
theorem xpc45 : xpc yX8_isNext 1 := by decide +kernel
theorem xw739 : Cond.methodLink "HatsDecide$Town" 109 ⟨"HatsDecide$Town", "isNext", "(C)Z"⟩ ∈ xW := xin (xt3 (i := 47) rfl) rfl
theorem xw740 : Cond.instanceMethod ⟨"HatsDecide$Town", "isNext", "(C)Z"⟩ ∈ xW := xin (xt3 (i := 49) rfl) rfl
theorem xw741 : Cond.selects "HatsDecide$Town" ⟨"HatsDecide$Town", "isNext", "(C)Z"⟩ ⟨"HatsDecide$Town", "isNext", "(C)Z"⟩ ∈ xW := xsel (i := 6) rfl
theorem xc52 : xCok (8, 109, 8, 3, 45, 1) := ⟨_, xma45, xpc45, by decide, xw739, xw740, xw741, by decide, rfl⟩
theorem xpc44 : xpc yX8_addCode 1 := by decide +kernel
theorem xw742 : Cond.methodLink "HatsDecide$Town" 113 ⟨"HatsDecide$Town", "addCode", "(I)V"⟩ ∈ xW := xin (xt3 (i := 113) rfl) rfl
theorem xw743 : Cond.instanceMethod ⟨"HatsDecide$Town", "addCode", "(I)V"⟩ ∈ xW := xin (xt3 (i := 115) rfl) rfl
theorem xw744 : Cond.selects "HatsDecide$Town" ⟨"HatsDecide$Town", "addCode", "(I)V"⟩ ⟨"HatsDecide$Town", "addCode", "(I)V"⟩ ∈ xW := xsel (i := 12) rfl
theorem xc53 : xCok (8, 113, 8, 3, 44, 1) := ⟨_, xma44, xpc44, by decide, xw742, xw743, xw744, by decide, rfl⟩
theorem xpc37 : xpc yX8_codeOf 3 := by decide +kernel
theorem xw745 : Cond.methodLink "HatsDecide$Town" 118 ⟨"HatsDecide$Town", "codeOf", "(III)I"⟩ ∈ xW := xin (xt3 (i := 118) rfl) rfl
theorem xw746 : Cond.static ⟨"HatsDecide$Town", "codeOf", "(III)I"⟩ ∈ xW := xin (xt3 (i := 119) rfl) rfl
theorem xc54 : xCok (8, 118, 99, 0, 37, 3) := ⟨_, xma37, xpc37, by decide, xw745, xw746⟩
theorem xpc101 : xpc yX11_within 3 := by decide +kernel
theorem xw747 : Cond.methodLinkNest "HatsDecide$Town" 124 ⟨"HatsDecide", "within", "(III)Z"⟩ "HatsDecide" ∈ xNest := List.mem_of_getElem? (i := 4) rfl
theorem xw748 : Cond.static ⟨"HatsDecide", "within", "(III)Z"⟩ ∈ xW := xin (xt2 (i := 19) rfl) rfl
theorem xc55 : xCok (8, 124, 99, 7, 101, 3) := ⟨_, xma101, xpc101, by decide, xw747, xw748⟩
theorem xw749 : Cond.methodLink "HatsDecide$Worn" 1 ⟨"HatsDecide$Hat", "<init>", "(IIIIILHatsDecide$Trace;)V"⟩ ∈ xW := xin (xt2 (i := 89) rfl) rfl
theorem xc56 : xCok (10, 1, 99, 1, 6, 6) := ⟨_, xma6, xpc6, by decide, xw749, xw626, rfl⟩
theorem xw750 : Cond.methodLink "HatsDecide$Worn" 7 ⟨"HatsDecide$Hat", "deed", "(IIII)I"⟩ ∈ xW := xin (xt2 (i := 223) rfl) rfl
theorem xc57 : xCok (10, 7, 99, 2, 7, 4) := ⟨_, xma7, xpc7, by decide, xw750, xw628, xw652, xw630, by decide +kernel⟩
theorem xw751 : Cond.methodLink "HatsDecide$Worn" 23 ⟨"HatsDecide$Trace", "note", "(I)V"⟩ ∈ xW := xin (xt4 (i := 112) rfl) rfl
theorem xc58 : xCok (10, 23, 9, 3, 50, 1) := ⟨_, xma50, xpc50, by decide, xw751, xw632, xw633, by decide, rfl⟩
theorem xw752 : Cond.methodLink "HatsDecide$Worn" 29 ⟨"HatsDecide$Hat", "sits", "(I)I"⟩ ∈ xW := xin (xt4 (i := 116) rfl) rfl
theorem xc59 : xCok (10, 29, 99, 2, 8, 1) := ⟨_, xma8, xpc8, by decide, xw752, xw655, xw652, xw657, by decide +kernel⟩
theorem xpc11 : xpc yX3_init 0 := by decide +kernel
theorem xw753 : Cond.methodLinkNest "HatsDecide" 13 ⟨"HatsDecide$Scene", "<init>", "()V"⟩ "HatsDecide" ∈ xNest := List.mem_of_getElem? (i := 0) rfl
theorem xw754 : Cond.instanceMethod ⟨"HatsDecide$Scene", "<init>", "()V"⟩ ∈ xW := xin (xt1 (i := 33) rfl) rfl
theorem xc60 : xCok (11, 13, 99, 6, 11, 0) := ⟨_, xma11, xpc11, by decide, xw753, xw754, rfl⟩
theorem xpc32 : xpc yX8_init 0 := by decide +kernel
theorem xw755 : Cond.methodLinkNest "HatsDecide" 39 ⟨"HatsDecide$Town", "<init>", "()V"⟩ "HatsDecide" ∈ xNest := List.mem_of_getElem? (i := 1) rfl
theorem xw756 : Cond.instanceMethod ⟨"HatsDecide$Town", "<init>", "()V"⟩ ∈ xW := xin (xt1 (i := 116) rfl) rfl
theorem xc61 : xCok (11, 39, 99, 6, 32, 0) := ⟨_, xma32, xpc32, by decide, xw755, xw756, rfl⟩
theorem xpc48 : xpc yX9_init 0 := by decide +kernel
theorem xw757 : Cond.methodLinkNest "HatsDecide" 49 ⟨"HatsDecide$Trace", "<init>", "()V"⟩ "HatsDecide" ∈ xNest := List.mem_of_getElem? (i := 2) rfl
theorem xw758 : Cond.instanceMethod ⟨"HatsDecide$Trace", "<init>", "()V"⟩ ∈ xW := xin (xt1 (i := 162) rfl) rfl
theorem xc62 : xCok (11, 49, 99, 6, 48, 0) := ⟨_, xma48, xpc48, by decide, xw757, xw758, rfl⟩
theorem xw759 : Cond.methodLink "HatsDecide" 62 ⟨"java/lang/String", "length", "()I"⟩ ∈ xW := xin (xt1 (i := 177) rfl) rfl
theorem xc63 : xCok (11, 62, 16, 9, 235, 0) := ⟨_, xma235, xpc235, by decide, xw759, xw714, xw715, rfl⟩
theorem xpc21 : xpc yX5_init 0 := by decide +kernel
theorem xw760 : Cond.methodLinkNest "HatsDecide" 84 ⟨"HatsDecide$Tape", "<init>", "()V"⟩ "HatsDecide" ∈ xNest := List.mem_of_getElem? (i := 3) rfl
theorem xw761 : Cond.instanceMethod ⟨"HatsDecide$Tape", "<init>", "()V"⟩ ∈ xW := xin (xt1 (i := 189) rfl) rfl
theorem xc64 : xCok (11, 84, 99, 6, 21, 0) := ⟨_, xma21, xpc21, by decide, xw760, xw761, rfl⟩
theorem xpc102 : xpc yX11_isDigit 1 := by decide +kernel
theorem xw762 : Cond.methodLink "HatsDecide" 85 ⟨"HatsDecide", "isDigit", "(I)Z"⟩ ∈ xW := xin (xt2 (i := 15) rfl) rfl
theorem xw763 : Cond.static ⟨"HatsDecide", "isDigit", "(I)Z"⟩ ∈ xW := xin (xt2 (i := 16) rfl) rfl
theorem xc65 : xCok (11, 85, 99, 0, 102, 1) := ⟨_, xma102, xpc102, by decide, xw762, xw763⟩
theorem xw764 : Cond.methodLink "HatsDecide" 101 ⟨"HatsDecide", "within", "(III)Z"⟩ ∈ xW := xin (xt2 (i := 18) rfl) rfl
theorem xc66 : xCok (11, 101, 99, 0, 101, 3) := ⟨_, xma101, xpc101, by decide, xw764, xw748⟩
theorem xpc103 : xpc yX11_isTrade 1 := by decide +kernel
theorem xw765 : Cond.methodLink "HatsDecide" 105 ⟨"HatsDecide", "isTrade", "(I)Z"⟩ ∈ xW := xin (xt2 (i := 25) rfl) rfl
theorem xw766 : Cond.static ⟨"HatsDecide", "isTrade", "(I)Z"⟩ ∈ xW := xin (xt2 (i := 26) rfl) rfl
theorem xc67 : xCok (11, 105, 99, 0, 103, 1) := ⟨_, xma103, xpc103, by decide, xw765, xw766⟩
theorem xpc57 : xpc yX11_newHat 5 := by decide +kernel
theorem xw767 : Cond.methodLink "HatsDecide" 115 ⟨"HatsDecide", "newHat", "(IIIII)LHatsDecide$Hat;"⟩ ∈ xW := xin (xt2 (i := 28) rfl) rfl
theorem xw768 : Cond.instanceMethod ⟨"HatsDecide", "newHat", "(IIIII)LHatsDecide$Hat;"⟩ ∈ xW := xin (xt2 (i := 30) rfl) rfl
theorem xw769 : Cond.selects "HatsDecide" ⟨"HatsDecide", "newHat", "(IIIII)LHatsDecide$Hat;"⟩ ⟨"HatsDecide", "newHat", "(IIIII)LHatsDecide$Hat;"⟩ ∈ xW := xsel (i := 0) rfl
theorem xc68 : xCok (11, 115, 11, 3, 57, 5) := ⟨_, xma57, xpc57, by decide, xw767, xw768, xw769, by decide, rfl⟩
theorem xw770 : Cond.methodLink "HatsDecide" 130 ⟨"HatsDecide$Tight", "<init>", "(IIIIILHatsDecide$Trace;)V"⟩ ∈ xW := xin (xt2 (i := 34) rfl) rfl
theorem xc69 : xCok (11, 130, 99, 1, 25, 6) := ⟨_, xma25, xpc25, by decide, xw770, xw681, rfl⟩
theorem xw771 : Cond.methodLink "HatsDecide" 135 ⟨"HatsDecide$Worn", "<init>", "(IIIIILHatsDecide$Trace;)V"⟩ ∈ xW := xin (xt2 (i := 86) rfl) rfl
theorem xc70 : xCok (11, 135, 99, 1, 51, 6) := ⟨_, xma51, xpc51, by decide, xw771, xw644, rfl⟩
theorem xw772 : Cond.methodLink "HatsDecide" 138 ⟨"HatsDecide$Crown", "<init>", "(IIIIILHatsDecide$Trace;)V"⟩ ∈ xW := xin (xt2 (i := 99) rfl) rfl
theorem xc71 : xCok (11, 138, 99, 1, 0, 6) := ⟨_, xma0, xpc0, by decide, xw772, xw699, rfl⟩
theorem xpc17 : xpc yX4_init 6 := by decide +kernel
theorem xw773 : Cond.methodLink "HatsDecide" 141 ⟨"HatsDecide$Stiff", "<init>", "(IIIIILHatsDecide$Trace;)V"⟩ ∈ xW := xin (xt2 (i := 112) rfl) rfl
theorem xw774 : Cond.instanceMethod ⟨"HatsDecide$Stiff", "<init>", "(IIIIILHatsDecide$Trace;)V"⟩ ∈ xW := xin (xt2 (i := 113) rfl) rfl
theorem xc72 : xCok (11, 141, 99, 1, 17, 6) := ⟨_, xma17, xpc17, by decide, xw773, xw774, rfl⟩
theorem xpc3 : xpc yX1_init 6 := by decide +kernel
theorem xw775 : Cond.methodLink "HatsDecide" 144 ⟨"HatsDecide$Frayed", "<init>", "(IIIIILHatsDecide$Trace;)V"⟩ ∈ xW := xin (xt2 (i := 125) rfl) rfl
theorem xw776 : Cond.instanceMethod ⟨"HatsDecide$Frayed", "<init>", "(IIIIILHatsDecide$Trace;)V"⟩ ∈ xW := xin (xt2 (i := 126) rfl) rfl
theorem xc73 : xCok (11, 144, 99, 1, 3, 6) := ⟨_, xma3, xpc3, by decide, xw775, xw776, rfl⟩
theorem xpc28 : xpc yX7_init 6 := by decide +kernel
theorem xw777 : Cond.methodLink "HatsDecide" 147 ⟨"HatsDecide$Told", "<init>", "(IIIIILHatsDecide$Trace;)V"⟩ ∈ xW := xin (xt2 (i := 138) rfl) rfl
theorem xw778 : Cond.instanceMethod ⟨"HatsDecide$Told", "<init>", "(IIIIILHatsDecide$Trace;)V"⟩ ∈ xW := xin (xt2 (i := 139) rfl) rfl
theorem xc74 : xCok (11, 147, 99, 1, 28, 6) := ⟨_, xma28, xpc28, by decide, xw777, xw778, rfl⟩
theorem xw779 : Cond.methodLink "HatsDecide" 150 ⟨"HatsDecide$Hat", "<init>", "(IIIIILHatsDecide$Trace;)V"⟩ ∈ xW := xin (xt2 (i := 151) rfl) rfl
theorem xc75 : xCok (11, 150, 99, 1, 6, 6) := ⟨_, xma6, xpc6, by decide, xw779, xw626, rfl⟩
theorem xpc13 : xpc yX3_isHat 1 := by decide +kernel
theorem xw780 : Cond.methodLink "HatsDecide" 151 ⟨"HatsDecide$Scene", "isHat", "(I)Z"⟩ ∈ xW := xin (xt2 (i := 163) rfl) rfl
theorem xw781 : Cond.instanceMethod ⟨"HatsDecide$Scene", "isHat", "(I)Z"⟩ ∈ xW := xin (xt2 (i := 164) rfl) rfl
theorem xw782 : Cond.selects "HatsDecide$Scene" ⟨"HatsDecide$Scene", "isHat", "(I)Z"⟩ ⟨"HatsDecide$Scene", "isHat", "(I)Z"⟩ ∈ xW := xin (xt2 (i := 165) rfl) rfl
theorem xc76 : xCok (11, 151, 3, 3, 13, 1) := ⟨_, xma13, xpc13, by decide, xw780, xw781, xw782, by decide, rfl⟩
theorem xpc14 : xpc yX3_wearer 1 := by decide +kernel
theorem xw783 : Cond.methodLink "HatsDecide" 166 ⟨"HatsDecide$Scene", "wearer", "(I)I"⟩ ∈ xW := xin (xt2 (i := 167) rfl) rfl
theorem xw784 : Cond.instanceMethod ⟨"HatsDecide$Scene", "wearer", "(I)I"⟩ ∈ xW := xin (xt2 (i := 168) rfl) rfl
theorem xw785 : Cond.selects "HatsDecide$Scene" ⟨"HatsDecide$Scene", "wearer", "(I)I"⟩ ⟨"HatsDecide$Scene", "wearer", "(I)I"⟩ ∈ xW := xin (xt2 (i := 169) rfl) rfl
theorem xc77 : xCok (11, 166, 3, 3, 14, 1) := ⟨_, xma14, xpc14, by decide, xw783, xw784, xw785, by decide, rfl⟩
theorem xpc107 : xpc yX11_orNotAny 1 := by decide +kernel
theorem xw786 : Cond.methodLink "HatsDecide" 170 ⟨"HatsDecide", "orNotAny", "(I)I"⟩ ∈ xW := xin (xt2 (i := 171) rfl) rfl
theorem xw787 : Cond.static ⟨"HatsDecide", "orNotAny", "(I)I"⟩ ∈ xW := xin (xt2 (i := 172) rfl) rfl
theorem xc78 : xCok (11, 170, 99, 0, 107, 1) := ⟨_, xma107, xpc107, by decide, xw786, xw787⟩
theorem xpc12 : xpc yX3_isHead 1 := by decide +kernel
theorem xw788 : Cond.methodLink "HatsDecide" 173 ⟨"HatsDecide$Scene", "isHead", "(I)Z"⟩ ∈ xW := xin (xt2 (i := 174) rfl) rfl
theorem xw789 : Cond.instanceMethod ⟨"HatsDecide$Scene", "isHead", "(I)Z"⟩ ∈ xW := xin (xt2 (i := 175) rfl) rfl
theorem xw790 : Cond.selects "HatsDecide$Scene" ⟨"HatsDecide$Scene", "isHead", "(I)Z"⟩ ⟨"HatsDecide$Scene", "isHead", "(I)Z"⟩ ∈ xW := xin (xt2 (i := 176) rfl) rfl
theorem xc79 : xCok (11, 173, 3, 3, 12, 1) := ⟨_, xma12, xpc12, by decide, xw788, xw789, xw790, by decide, rfl⟩
theorem xpc110 : xpc yX11_deedOn 3 := by decide +kernel
theorem xw791 : Cond.methodLink "HatsDecide" 176 ⟨"HatsDecide", "deedOn", "(III)I"⟩ ∈ xW := xin (xt2 (i := 178) rfl) rfl
theorem xw792 : Cond.instanceMethod ⟨"HatsDecide", "deedOn", "(III)I"⟩ ∈ xW := xin (xt2 (i := 180) rfl) rfl
theorem xw793 : Cond.selects "HatsDecide" ⟨"HatsDecide", "deedOn", "(III)I"⟩ ⟨"HatsDecide", "deedOn", "(III)I"⟩ ∈ xW := xsel (i := 1) rfl
theorem xc80 : xCok (11, 176, 11, 3, 110, 3) := ⟨_, xma110, xpc110, by decide, xw791, xw792, xw793, by decide, rfl⟩
theorem xpc106 : xpc yX11_isHeadOrEmpty 1 := by decide +kernel
theorem xw794 : Cond.methodLink "HatsDecide" 180 ⟨"HatsDecide", "isHeadOrEmpty", "(I)Z"⟩ ∈ xW := xin (xt3 (i := 16) rfl) rfl
theorem xw795 : Cond.instanceMethod ⟨"HatsDecide", "isHeadOrEmpty", "(I)Z"⟩ ∈ xW := xin (xt3 (i := 18) rfl) rfl
theorem xw796 : Cond.selects "HatsDecide" ⟨"HatsDecide", "isHeadOrEmpty", "(I)Z"⟩ ⟨"HatsDecide", "isHeadOrEmpty", "(I)Z"⟩ ∈ xW := xsel (i := 4) rfl
theorem xc81 : xCok (11, 180, 11, 3, 106, 1) := ⟨_, xma106, xpc106, by decide, xw794, xw795, xw796, by decide, rfl⟩
theorem xpc39 : xpc yX8_parse 2 := by decide +kernel
theorem xw797 : Cond.methodLink "HatsDecide" 183 ⟨"HatsDecide$Town", "parse", "([BI)I"⟩ ∈ xW := xin (xt3 (i := 36) rfl) rfl
theorem xw798 : Cond.instanceMethod ⟨"HatsDecide$Town", "parse", "([BI)I"⟩ ∈ xW := xin (xt3 (i := 37) rfl) rfl
theorem xw799 : Cond.selects "HatsDecide$Town" ⟨"HatsDecide$Town", "parse", "([BI)I"⟩ ⟨"HatsDecide$Town", "parse", "([BI)I"⟩ ∈ xW := xin (xt3 (i := 38) rfl) rfl
theorem xc82 : xCok (11, 183, 8, 3, 39, 2) := ⟨_, xma39, xpc39, by decide, xw797, xw798, xw799, by decide, rfl⟩
theorem xpc109 : xpc yX11_holding 0 := by decide +kernel
theorem xw800 : Cond.methodLink "HatsDecide" 193 ⟨"HatsDecide", "holding", "()LHatsDecide$Town;"⟩ ∈ xW := xin (xt2 (i := 182) rfl) rfl
theorem xw801 : Cond.instanceMethod ⟨"HatsDecide", "holding", "()LHatsDecide$Town;"⟩ ∈ xW := xin (xt2 (i := 184) rfl) rfl
theorem xw802 : Cond.selects "HatsDecide" ⟨"HatsDecide", "holding", "()LHatsDecide$Town;"⟩ ⟨"HatsDecide", "holding", "()LHatsDecide$Town;"⟩ ∈ xW := xsel (i := 2) rfl
theorem xc83 : xCok (11, 193, 11, 3, 109, 0) := ⟨_, xma109, xpc109, by decide, xw800, xw801, xw802, by decide, rfl⟩
theorem xpc33 : xpc yX8_moth 0 := by decide +kernel
theorem xw803 : Cond.methodLink "HatsDecide" 197 ⟨"HatsDecide$Town", "moth", "()I"⟩ ∈ xW := xin (xt2 (i := 189) rfl) rfl
theorem xw804 : Cond.instanceMethod ⟨"HatsDecide$Town", "moth", "()I"⟩ ∈ xW := xin (xt2 (i := 190) rfl) rfl
theorem xw805 : Cond.selects "HatsDecide$Town" ⟨"HatsDecide$Town", "moth", "()I"⟩ ⟨"HatsDecide$Town", "moth", "()I"⟩ ∈ xW := xin (xt2 (i := 191) rfl) rfl
theorem xc84 : xCok (11, 197, 8, 3, 33, 0) := ⟨_, xma33, xpc33, by decide, xw803, xw804, xw805, by decide, rfl⟩
theorem xpc34 : xpc yX8_work 1 := by decide +kernel
theorem xw806 : Cond.methodLink "HatsDecide" 203 ⟨"HatsDecide$Town", "work", "(I)I"⟩ ∈ xW := xin (xt3 (i := 125) rfl) rfl
theorem xw807 : Cond.instanceMethod ⟨"HatsDecide$Town", "work", "(I)I"⟩ ∈ xW := xin (xt3 (i := 126) rfl) rfl
theorem xw808 : Cond.selects "HatsDecide$Town" ⟨"HatsDecide$Town", "work", "(I)I"⟩ ⟨"HatsDecide$Town", "work", "(I)I"⟩ ∈ xW := xin (xt3 (i := 127) rfl) rfl
theorem xc85 : xCok (11, 203, 8, 3, 34, 1) := ⟨_, xma34, xpc34, by decide, xw806, xw807, xw808, by decide, rfl⟩
theorem xpc111 : xpc yX11_total 3 := by decide +kernel
theorem xw809 : Cond.methodLink "HatsDecide" 206 ⟨"HatsDecide", "total", "(III)I"⟩ ∈ xW := xin (xt3 (i := 133) rfl) rfl
theorem xw810 : Cond.instanceMethod ⟨"HatsDecide", "total", "(III)I"⟩ ∈ xW := xin (xt3 (i := 135) rfl) rfl
theorem xw811 : Cond.selects "HatsDecide" ⟨"HatsDecide", "total", "(III)I"⟩ ⟨"HatsDecide", "total", "(III)I"⟩ ∈ xW := xsel (i := 13) rfl
theorem xc86 : xCok (11, 206, 11, 3, 111, 3) := ⟨_, xma111, xpc111, by decide, xw809, xw810, xw811, by decide, rfl⟩
theorem xpc104 : xpc yX11_isGust 1 := by decide +kernel
theorem xw812 : Cond.methodLink "HatsDecide" 216 ⟨"HatsDecide", "isGust", "(I)Z"⟩ ∈ xW := xin (xt3 (i := 143) rfl) rfl
theorem xw813 : Cond.static ⟨"HatsDecide", "isGust", "(I)Z"⟩ ∈ xW := xin (xt3 (i := 144) rfl) rfl
theorem xc87 : xCok (11, 216, 99, 0, 104, 1) := ⟨_, xma104, xpc104, by decide, xw812, xw813⟩
theorem xpc112 : xpc yX11_isEnough 3 := by decide +kernel
theorem xw814 : Cond.methodLink "HatsDecide" 225 ⟨"HatsDecide", "isEnough", "(III)Z"⟩ ∈ xW := xin (xt3 (i := 161) rfl) rfl
theorem xw815 : Cond.instanceMethod ⟨"HatsDecide", "isEnough", "(III)Z"⟩ ∈ xW := xin (xt3 (i := 163) rfl) rfl
theorem xw816 : Cond.selects "HatsDecide" ⟨"HatsDecide", "isEnough", "(III)Z"⟩ ⟨"HatsDecide", "isEnough", "(III)Z"⟩ ∈ xW := xsel (i := 14) rfl
theorem xc88 : xCok (11, 225, 11, 3, 112, 3) := ⟨_, xma112, xpc112, by decide, xw814, xw815, xw816, by decide, rfl⟩
theorem xpc113 : xpc yX11_noteDeeds 0 := by decide +kernel
theorem xw817 : Cond.methodLink "HatsDecide" 228 ⟨"HatsDecide", "noteDeeds", "()V"⟩ ∈ xW := xin (xt3 (i := 181) rfl) rfl
theorem xw818 : Cond.instanceMethod ⟨"HatsDecide", "noteDeeds", "()V"⟩ ∈ xW := xin (xt3 (i := 183) rfl) rfl
theorem xw819 : Cond.selects "HatsDecide" ⟨"HatsDecide", "noteDeeds", "()V"⟩ ⟨"HatsDecide", "noteDeeds", "()V"⟩ ∈ xW := xsel (i := 15) rfl
theorem xc89 : xCok (11, 228, 11, 3, 113, 0) := ⟨_, xma113, xpc113, by decide, xw817, xw818, xw819, by decide, rfl⟩
theorem xpc116 : xpc yX11_weighWays 1 := by decide +kernel
theorem xw820 : Cond.methodLink "HatsDecide" 231 ⟨"HatsDecide", "weighWays", "(I)V"⟩ ∈ xW := xin (xt3 (i := 185) rfl) rfl
theorem xw821 : Cond.instanceMethod ⟨"HatsDecide", "weighWays", "(I)V"⟩ ∈ xW := xin (xt3 (i := 187) rfl) rfl
theorem xw822 : Cond.selects "HatsDecide" ⟨"HatsDecide", "weighWays", "(I)V"⟩ ⟨"HatsDecide", "weighWays", "(I)V"⟩ ∈ xW := xsel (i := 16) rfl
theorem xc90 : xCok (11, 231, 11, 3, 116, 1) := ⟨_, xma116, xpc116, by decide, xw820, xw821, xw822, by decide, rfl⟩
theorem xpc119 : xpc yX11_wornByBestWay 1 := by decide +kernel
theorem xw823 : Cond.methodLink "HatsDecide" 235 ⟨"HatsDecide", "wornByBestWay", "(I)I"⟩ ∈ xW := xin (xt3 (i := 208) rfl) rfl
theorem xw824 : Cond.instanceMethod ⟨"HatsDecide", "wornByBestWay", "(I)I"⟩ ∈ xW := xin (xt3 (i := 210) rfl) rfl
theorem xw825 : Cond.selects "HatsDecide" ⟨"HatsDecide", "wornByBestWay", "(I)I"⟩ ⟨"HatsDecide", "wornByBestWay", "(I)I"⟩ ∈ xW := xsel (i := 20) rfl
theorem xc91 : xCok (11, 235, 11, 3, 119, 1) := ⟨_, xma119, xpc119, by decide, xw823, xw824, xw825, by decide, rfl⟩
theorem xpc115 : xpc yX11_hatsOf 1 := by decide +kernel
theorem xw826 : Cond.methodLink "HatsDecide" 238 ⟨"HatsDecide", "hatsOf", "(I)I"⟩ ∈ xW := xin (xt3 (i := 220) rfl) rfl
theorem xw827 : Cond.instanceMethod ⟨"HatsDecide", "hatsOf", "(I)I"⟩ ∈ xW := xin (xt3 (i := 222) rfl) rfl
theorem xw828 : Cond.selects "HatsDecide" ⟨"HatsDecide", "hatsOf", "(I)I"⟩ ⟨"HatsDecide", "hatsOf", "(I)I"⟩ ∈ xW := xsel (i := 22) rfl
theorem xc92 : xCok (11, 238, 11, 3, 115, 1) := ⟨_, xma115, xpc115, by decide, xw826, xw827, xw828, by decide, rfl⟩
theorem xpc121 : xpc yX11_isOwnedBelow 2 := by decide +kernel
theorem xw829 : Cond.methodLink "HatsDecide" 241 ⟨"HatsDecide", "isOwnedBelow", "(II)Z"⟩ ∈ xW := xin (xt3 (i := 228) rfl) rfl
theorem xw830 : Cond.instanceMethod ⟨"HatsDecide", "isOwnedBelow", "(II)Z"⟩ ∈ xW := xin (xt3 (i := 230) rfl) rfl
theorem xw831 : Cond.selects "HatsDecide" ⟨"HatsDecide", "isOwnedBelow", "(II)Z"⟩ ⟨"HatsDecide", "isOwnedBelow", "(II)Z"⟩ ∈ xW := xsel (i := 23) rfl
theorem xc93 : xCok (11, 241, 11, 3, 121, 2) := ⟨_, xma121, xpc121, by decide, xw829, xw830, xw831, by decide, rfl⟩
theorem xpc122 : xpc yX11_joinGroups 2 := by decide +kernel
theorem xw832 : Cond.methodLink "HatsDecide" 245 ⟨"HatsDecide", "joinGroups", "(II)Z"⟩ ∈ xW := xin (xt3 (i := 232) rfl) rfl
theorem xw833 : Cond.instanceMethod ⟨"HatsDecide", "joinGroups", "(II)Z"⟩ ∈ xW := xin (xt3 (i := 234) rfl) rfl
theorem xw834 : Cond.selects "HatsDecide" ⟨"HatsDecide", "joinGroups", "(II)Z"⟩ ⟨"HatsDecide", "joinGroups", "(II)Z"⟩ ∈ xW := xsel (i := 24) rfl
theorem xc94 : xCok (11, 245, 11, 3, 122, 2) := ⟨_, xma122, xpc122, by decide, xw832, xw833, xw834, by decide, rfl⟩
theorem xpc114 : xpc yX11_noted 2 := by decide +kernel
theorem xw835 : Cond.methodLink "HatsDecide" 248 ⟨"HatsDecide", "noted", "(II)I"⟩ ∈ xW := xin (xt3 (i := 203) rfl) rfl
theorem xw836 : Cond.instanceMethod ⟨"HatsDecide", "noted", "(II)I"⟩ ∈ xW := xin (xt3 (i := 205) rfl) rfl
theorem xw837 : Cond.selects "HatsDecide" ⟨"HatsDecide", "noted", "(II)I"⟩ ⟨"HatsDecide", "noted", "(II)I"⟩ ∈ xW := xsel (i := 19) rfl
theorem xc95 : xCok (11, 248, 11, 3, 114, 2) := ⟨_, xma114, xpc114, by decide, xw835, xw836, xw837, by decide, rfl⟩
theorem xpc125 : xpc yX11_wearers 1 := by decide +kernel
theorem xw838 : Cond.methodLink "HatsDecide" 260 ⟨"HatsDecide", "wearers", "(I)I"⟩ ∈ xW := xin (xt4 (i := 24) rfl) rfl
theorem xw839 : Cond.instanceMethod ⟨"HatsDecide", "wearers", "(I)I"⟩ ∈ xW := xin (xt4 (i := 26) rfl) rfl
theorem xw840 : Cond.selects "HatsDecide" ⟨"HatsDecide", "wearers", "(I)I"⟩ ⟨"HatsDecide", "wearers", "(I)I"⟩ ∈ xW := xsel (i := 25) rfl
theorem xc96 : xCok (11, 260, 11, 3, 125, 1) := ⟨_, xma125, xpc125, by decide, xw838, xw839, xw840, by decide, rfl⟩
theorem xpc242 : xpc yJ7_fill_53178 2 := by decide +kernel
theorem xw841 : Cond.methodLink "HatsDecide" 263 ⟨"java/util/Arrays", "fill", "([II)V"⟩ ∈ xW := xin (xt4 (i := 36) rfl) rfl
theorem xw842 : Cond.static ⟨"java/util/Arrays", "fill", "([II)V"⟩ ∈ xW := xin (xt4 (i := 37) rfl) rfl
theorem xc97 : xCok (11, 263, 99, 0, 242, 2) := ⟨_, xma242, xpc242, by decide, xw841, xw842⟩
theorem xpc123 : xpc yX11_isSeen 1 := by decide +kernel
theorem xw843 : Cond.methodLink "HatsDecide" 269 ⟨"HatsDecide", "isSeen", "(I)Z"⟩ ∈ xW := xin (xt4 (i := 39) rfl) rfl
theorem xw844 : Cond.instanceMethod ⟨"HatsDecide", "isSeen", "(I)Z"⟩ ∈ xW := xin (xt4 (i := 41) rfl) rfl
theorem xw845 : Cond.selects "HatsDecide" ⟨"HatsDecide", "isSeen", "(I)Z"⟩ ⟨"HatsDecide", "isSeen", "(I)Z"⟩ ∈ xW := xsel (i := 27) rfl
theorem xc98 : xCok (11, 269, 11, 3, 123, 1) := ⟨_, xma123, xpc123, by decide, xw843, xw844, xw845, by decide, rfl⟩
theorem xpc126 : xpc yX11_addHatToWays 1 := by decide +kernel
theorem xw846 : Cond.methodLink "HatsDecide" 272 ⟨"HatsDecide", "addHatToWays", "(I)V"⟩ ∈ xW := xin (xt4 (i := 43) rfl) rfl
theorem xw847 : Cond.instanceMethod ⟨"HatsDecide", "addHatToWays", "(I)V"⟩ ∈ xW := xin (xt4 (i := 45) rfl) rfl
theorem xw848 : Cond.selects "HatsDecide" ⟨"HatsDecide", "addHatToWays", "(I)V"⟩ ⟨"HatsDecide", "addHatToWays", "(I)V"⟩ ∈ xW := xsel (i := 28) rfl
theorem xc99 : xCok (11, 272, 11, 3, 126, 1) := ⟨_, xma126, xpc126, by decide, xw846, xw847, xw848, by decide, rfl⟩
theorem xpc127 : xpc yX11_perHeads 2 := by decide +kernel
theorem xw849 : Cond.methodLink "HatsDecide" 277 ⟨"HatsDecide", "perHeads", "(II)J"⟩ ∈ xW := xin (xt4 (i := 52) rfl) rfl
theorem xw850 : Cond.instanceMethod ⟨"HatsDecide", "perHeads", "(II)J"⟩ ∈ xW := xin (xt4 (i := 54) rfl) rfl
theorem xw851 : Cond.selects "HatsDecide" ⟨"HatsDecide", "perHeads", "(II)J"⟩ ⟨"HatsDecide", "perHeads", "(II)J"⟩ ∈ xW := xsel (i := 29) rfl
theorem xc100 : xCok (11, 277, 11, 3, 127, 2) := ⟨_, xma127, xpc127, by decide, xw849, xw850, xw851, by decide, rfl⟩
theorem xpc105 : xpc yX11_isTape 1 := by decide +kernel
theorem xw852 : Cond.methodLink "HatsDecide" 290 ⟨"HatsDecide", "isTape", "(I)Z"⟩ ∈ xW := xin (xt4 (i := 72) rfl) rfl
theorem xw853 : Cond.static ⟨"HatsDecide", "isTape", "(I)Z"⟩ ∈ xW := xin (xt4 (i := 73) rfl) rfl
theorem xc101 : xCok (11, 290, 99, 0, 105, 1) := ⟨_, xma105, xpc105, by decide, xw852, xw853⟩
theorem xpc23 : xpc yX5_spans 2 := by decide +kernel
theorem xw854 : Cond.methodLink "HatsDecide" 296 ⟨"HatsDecide$Tape", "spans", "(II)Z"⟩ ∈ xW := xin (xt4 (i := 75) rfl) rfl
theorem xw855 : Cond.instanceMethod ⟨"HatsDecide$Tape", "spans", "(II)Z"⟩ ∈ xW := xin (xt4 (i := 76) rfl) rfl
theorem xw856 : Cond.selects "HatsDecide$Tape" ⟨"HatsDecide$Tape", "spans", "(II)Z"⟩ ⟨"HatsDecide$Tape", "spans", "(II)Z"⟩ ∈ xW := xin (xt4 (i := 77) rfl) rfl
theorem xc102 : xCok (11, 296, 5, 3, 23, 2) := ⟨_, xma23, xpc23, by decide, xw854, xw855, xw856, by decide, rfl⟩
theorem xpc15 : xpc yX3_become 1 := by decide +kernel
theorem xw857 : Cond.methodLink "HatsDecide" 303 ⟨"HatsDecide$Scene", "become", "(LHatsDecide$Scene;)V"⟩ ∈ xW := xin (xt4 (i := 83) rfl) rfl
theorem xw858 : Cond.instanceMethod ⟨"HatsDecide$Scene", "become", "(LHatsDecide$Scene;)V"⟩ ∈ xW := xin (xt4 (i := 84) rfl) rfl
theorem xw859 : Cond.selects "HatsDecide$Scene" ⟨"HatsDecide$Scene", "become", "(LHatsDecide$Scene;)V"⟩ ⟨"HatsDecide$Scene", "become", "(LHatsDecide$Scene;)V"⟩ ∈ xW := xin (xt4 (i := 85) rfl) rfl
theorem xc103 : xCok (11, 303, 3, 3, 15, 1) := ⟨_, xma15, xpc15, by decide, xw857, xw858, xw859, by decide, rfl⟩
theorem xpc49 : xpc yX9_clear 0 := by decide +kernel
theorem xw860 : Cond.methodLink "HatsDecide" 307 ⟨"HatsDecide$Trace", "clear", "()V"⟩ ∈ xW := xin (xt4 (i := 100) rfl) rfl
theorem xw861 : Cond.instanceMethod ⟨"HatsDecide$Trace", "clear", "()V"⟩ ∈ xW := xin (xt4 (i := 101) rfl) rfl
theorem xw862 : Cond.selects "HatsDecide$Trace" ⟨"HatsDecide$Trace", "clear", "()V"⟩ ⟨"HatsDecide$Trace", "clear", "()V"⟩ ∈ xW := xin (xt4 (i := 102) rfl) rfl
theorem xc104 : xCok (11, 307, 9, 3, 49, 0) := ⟨_, xma49, xpc49, by decide, xw860, xw861, xw862, by decide, rfl⟩
theorem xw863 : Cond.methodLink "HatsDecide" 310 ⟨"HatsDecide$Hat", "sits", "(I)I"⟩ ∈ xW := xin (xt4 (i := 104) rfl) rfl
theorem xc105 : xCok (11, 310, 0, 5, 8, 1) := ⟨_, xma8, xpc8, by decide, "HatsDecide$Hat", xw863, xw655, xw656, xw657, by decide⟩
theorem xc106 : xCok (11, 310, 1, 4, 53, 1) := ⟨_, xma53, xpc53, by decide, "HatsDecide$Hat", "HatsDecide$Hat", prog_4_method_3_code, 2, (Option.some Jvm.ClassFile.FieldType.int), xw863, xw655, xw657, xw658, xw659, xw384, by decide, xnh3⟩
theorem xc107 : xCok (11, 310, 2, 3, 8, 1) := ⟨_, xma8, xpc8, by decide, xw863, xw657, xw660, by decide, rfl⟩
theorem xc108 : xCok (11, 310, 4, 4, 19, 1) := ⟨_, xma19, xpc19, by decide, "HatsDecide$Hat", "HatsDecide$Hat", prog_4_method_3_code, 2, (Option.some Jvm.ClassFile.FieldType.int), xw863, xw655, xw657, xw661, xw662, xw384, by decide, xnh3⟩
theorem xc109 : xCok (11, 310, 6, 5, 8, 1) := ⟨_, xma8, xpc8, by decide, "HatsDecide$Hat", xw863, xw655, xw663, xw657, by decide⟩
theorem xc110 : xCok (11, 310, 7, 4, 31, 1) := ⟨_, xma31, xpc31, by decide, "HatsDecide$Hat", "HatsDecide$Hat", prog_4_method_3_code, 2, (Option.some Jvm.ClassFile.FieldType.int), xw863, xw655, xw657, xw664, xw665, xw384, by decide, xnh3⟩
theorem xc111 : xCok (11, 310, 10, 4, 53, 1) := ⟨_, xma53, xpc53, by decide, "HatsDecide$Hat", "HatsDecide$Hat", prog_4_method_3_code, 2, (Option.some Jvm.ClassFile.FieldType.int), xw863, xw655, xw657, xw666, xw659, xw384, by decide, xnh3⟩
theorem xw864 : Cond.methodLink "HatsDecide" 313 ⟨"HatsDecide$Hat", "does", "(I)I"⟩ ∈ xW := xin (xt4 (i := 134) rfl) rfl
theorem xc112 : xCok (11, 313, 0, 5, 9, 1) := ⟨_, xma9, xpc9, by decide, "HatsDecide$Hat", xw864, xw668, xw669, xw640, by decide⟩
theorem xc113 : xCok (11, 313, 1, 5, 9, 1) := ⟨_, xma9, xpc9, by decide, "HatsDecide$Hat", xw864, xw668, xw670, xw640, by decide⟩
theorem xc114 : xCok (11, 313, 2, 3, 9, 1) := ⟨_, xma9, xpc9, by decide, xw864, xw640, xw671, by decide, rfl⟩
theorem xc115 : xCok (11, 313, 4, 4, 20, 1) := ⟨_, xma20, xpc20, by decide, "HatsDecide$Hat", "HatsDecide$Hat", prog_4_method_4_code, 2, (Option.some Jvm.ClassFile.FieldType.int), xw864, xw668, xw640, xw672, xw673, xw385, by decide, xnh3⟩
theorem xc116 : xCok (11, 313, 6, 4, 27, 1) := ⟨_, xma27, xpc27, by decide, "HatsDecide$Hat", "HatsDecide$Hat", prog_4_method_4_code, 2, (Option.some Jvm.ClassFile.FieldType.int), xw864, xw668, xw640, xw674, xw675, xw385, by decide, xnh3⟩
theorem xc117 : xCok (11, 313, 7, 4, 30, 1) := ⟨_, xma30, xpc30, by decide, "HatsDecide$Hat", "HatsDecide$Hat", prog_4_method_4_code, 2, (Option.some Jvm.ClassFile.FieldType.int), xw864, xw668, xw640, xw676, xw642, xw385, by decide, xnh3⟩
theorem xc118 : xCok (11, 313, 10, 5, 9, 1) := ⟨_, xma9, xpc9, by decide, "HatsDecide$Hat", xw864, xw668, xw677, xw640, by decide⟩
theorem xpc2 : xpc yX0_tells 1 := by decide +kernel
theorem xw865 : Cond.methodLink "HatsDecide" 316 ⟨"HatsDecide$Hat", "tells", "(I)I"⟩ ∈ xW := xin (xt4 (i := 158) rfl) rfl
theorem xw866 : Cond.selects "HatsDecide$Crown" ⟨"HatsDecide$Hat", "tells", "(I)I"⟩ ⟨"HatsDecide$Crown", "tells", "(I)I"⟩ ∈ xW := xin (xt4 (i := 162) rfl) rfl
theorem xw867 : Cond.instanceMethod ⟨"HatsDecide$Crown", "tells", "(I)I"⟩ ∈ xW := xin (xt4 (i := 163) rfl) rfl
theorem xc119 : xCok (11, 316, 0, 4, 2, 1) := ⟨_, xma2, xpc2, by decide, "HatsDecide$Hat", "HatsDecide$Hat", prog_4_method_5_code, 2, (Option.some Jvm.ClassFile.FieldType.int), xw865, xw635, xw636, xw866, xw867, xw386, by decide, xnh3⟩
theorem xpc5 : xpc yX1_tells 1 := by decide +kernel
theorem xw868 : Cond.selects "HatsDecide$Frayed" ⟨"HatsDecide$Hat", "tells", "(I)I"⟩ ⟨"HatsDecide$Frayed", "tells", "(I)I"⟩ ∈ xW := xin (xt4 (i := 170) rfl) rfl
theorem xw869 : Cond.instanceMethod ⟨"HatsDecide$Frayed", "tells", "(I)I"⟩ ∈ xW := xin (xt4 (i := 171) rfl) rfl
theorem xc120 : xCok (11, 316, 1, 4, 5, 1) := ⟨_, xma5, xpc5, by decide, "HatsDecide$Hat", "HatsDecide$Hat", prog_4_method_5_code, 2, (Option.some Jvm.ClassFile.FieldType.int), xw865, xw635, xw636, xw868, xw869, xw386, by decide, xnh3⟩
theorem xw870 : Cond.selects "HatsDecide$Hat" ⟨"HatsDecide$Hat", "tells", "(I)I"⟩ ⟨"HatsDecide$Hat", "tells", "(I)I"⟩ ∈ xW := xin (xt4 (i := 160) rfl) rfl
theorem xc121 : xCok (11, 316, 2, 3, 10, 1) := ⟨_, xma10, xpc10, by decide, xw865, xw636, xw870, by decide, rfl⟩
theorem xw871 : Cond.selects "HatsDecide$Stiff" ⟨"HatsDecide$Hat", "tells", "(I)I"⟩ ⟨"HatsDecide$Hat", "tells", "(I)I"⟩ ∈ xW := xin (xt4 (i := 177) rfl) rfl
theorem xc122 : xCok (11, 316, 4, 5, 10, 1) := ⟨_, xma10, xpc10, by decide, "HatsDecide$Hat", xw865, xw635, xw871, xw636, by decide⟩
theorem xw872 : Cond.selects "HatsDecide$Tight" ⟨"HatsDecide$Hat", "tells", "(I)I"⟩ ⟨"HatsDecide$Hat", "tells", "(I)I"⟩ ∈ xW := xin (xt4 (i := 178) rfl) rfl
theorem xc123 : xCok (11, 316, 6, 5, 10, 1) := ⟨_, xma10, xpc10, by decide, "HatsDecide$Hat", xw865, xw635, xw872, xw636, by decide⟩
theorem xw873 : Cond.selects "HatsDecide$Told" ⟨"HatsDecide$Hat", "tells", "(I)I"⟩ ⟨"HatsDecide$Crown", "tells", "(I)I"⟩ ∈ xW := xin (xt4 (i := 179) rfl) rfl
theorem xc124 : xCok (11, 316, 7, 4, 2, 1) := ⟨_, xma2, xpc2, by decide, "HatsDecide$Hat", "HatsDecide$Hat", prog_4_method_5_code, 2, (Option.some Jvm.ClassFile.FieldType.int), xw865, xw635, xw636, xw873, xw867, xw386, by decide, xnh3⟩
theorem xw874 : Cond.selects "HatsDecide$Worn" ⟨"HatsDecide$Hat", "tells", "(I)I"⟩ ⟨"HatsDecide$Hat", "tells", "(I)I"⟩ ∈ xW := xin (xt4 (i := 180) rfl) rfl
theorem xc125 : xCok (11, 316, 10, 5, 10, 1) := ⟨_, xma10, xpc10, by decide, "HatsDecide$Hat", xw865, xw635, xw874, xw636, by decide⟩
theorem xpc108 : xpc yX11_isOfKind 2 := by decide +kernel
theorem xw875 : Cond.methodLink "HatsDecide" 324 ⟨"HatsDecide", "isOfKind", "(LHatsDecide$Hat;I)Z"⟩ ∈ xW := xin (xt4 (i := 191) rfl) rfl
theorem xw876 : Cond.static ⟨"HatsDecide", "isOfKind", "(LHatsDecide$Hat;I)Z"⟩ ∈ xW := xin (xt4 (i := 192) rfl) rfl
theorem xc126 : xCok (11, 324, 99, 0, 108, 2) := ⟨_, xma108, xpc108, by decide, xw875, xw876⟩
theorem xpc22 : xpc yX5_begin 2 := by decide +kernel
theorem xw877 : Cond.methodLink "HatsDecide" 328 ⟨"HatsDecide$Tape", "begin", "(II)V"⟩ ∈ xW := xin (xt4 (i := 202) rfl) rfl
theorem xw878 : Cond.instanceMethod ⟨"HatsDecide$Tape", "begin", "(II)V"⟩ ∈ xW := xin (xt4 (i := 203) rfl) rfl
theorem xw879 : Cond.selects "HatsDecide$Tape" ⟨"HatsDecide$Tape", "begin", "(II)V"⟩ ⟨"HatsDecide$Tape", "begin", "(II)V"⟩ ∈ xW := xin (xt4 (i := 204) rfl) rfl
theorem xc127 : xCok (11, 328, 5, 3, 22, 2) := ⟨_, xma22, xpc22, by decide, xw877, xw878, xw879, by decide, rfl⟩
theorem xpc24 : xpc yX5_asItem 1 := by decide +kernel
theorem xw880 : Cond.methodLink "HatsDecide" 332 ⟨"HatsDecide$Tape", "asItem", "(J)J"⟩ ∈ xW := xin (xt4 (i := 213) rfl) rfl
theorem xw881 : Cond.instanceMethod ⟨"HatsDecide$Tape", "asItem", "(J)J"⟩ ∈ xW := xin (xt4 (i := 214) rfl) rfl
theorem xw882 : Cond.selects "HatsDecide$Tape" ⟨"HatsDecide$Tape", "asItem", "(J)J"⟩ ⟨"HatsDecide$Tape", "asItem", "(J)J"⟩ ∈ xW := xin (xt4 (i := 215) rfl) rfl
theorem xc128 : xCok (11, 332, 5, 3, 24, 1) := ⟨_, xma24, xpc24, by decide, xw880, xw881, xw882, by decide, rfl⟩
theorem xpc35 : xpc yX8_fits 1 := by decide +kernel
theorem xw883 : Cond.methodLink "HatsDecide" 339 ⟨"HatsDecide$Town", "fits", "([I)I"⟩ ∈ xW := xin (xt2 (i := 193) rfl) rfl
theorem xw884 : Cond.instanceMethod ⟨"HatsDecide$Town", "fits", "([I)I"⟩ ∈ xW := xin (xt2 (i := 194) rfl) rfl
theorem xw885 : Cond.selects "HatsDecide$Town" ⟨"HatsDecide$Town", "fits", "([I)I"⟩ ⟨"HatsDecide$Town", "fits", "([I)I"⟩ ∈ xW := xin (xt2 (i := 195) rfl) rfl
theorem xc129 : xCok (11, 339, 8, 3, 35, 1) := ⟨_, xma35, xpc35, by decide, xw883, xw884, xw885, by decide, rfl⟩
theorem xw886 : Cond.methodLink "HatsDecide" 343 ⟨"HatsDecide$Hat", "deed", "(IIII)I"⟩ ∈ xW := xin (xt2 (i := 209) rfl) rfl
theorem xw887 : Cond.selects "HatsDecide$Crown" ⟨"HatsDecide$Hat", "deed", "(IIII)I"⟩ ⟨"HatsDecide$Crown", "deed", "(IIII)I"⟩ ∈ xW := xin (xt2 (i := 213) rfl) rfl
theorem xc130 : xCok (11, 343, 0, 4, 1, 4) := ⟨_, xma1, xpc1, by decide, "HatsDecide$Hat", "HatsDecide$Hat", prog_4_method_2_code, 5, (Option.some Jvm.ClassFile.FieldType.int), xw886, xw628, xw630, xw887, xw703, xw383, by decide, xnh3⟩
theorem xpc4 : xpc yX1_deed 4 := by decide +kernel
theorem xw888 : Cond.selects "HatsDecide$Frayed" ⟨"HatsDecide$Hat", "deed", "(IIII)I"⟩ ⟨"HatsDecide$Frayed", "deed", "(IIII)I"⟩ ∈ xW := xin (xt2 (i := 217) rfl) rfl
theorem xw889 : Cond.instanceMethod ⟨"HatsDecide$Frayed", "deed", "(IIII)I"⟩ ∈ xW := xin (xt2 (i := 218) rfl) rfl
theorem xc131 : xCok (11, 343, 1, 4, 4, 4) := ⟨_, xma4, xpc4, by decide, "HatsDecide$Hat", "HatsDecide$Hat", prog_4_method_2_code, 5, (Option.some Jvm.ClassFile.FieldType.int), xw886, xw628, xw630, xw888, xw889, xw383, by decide, xnh3⟩
theorem xw890 : Cond.selects "HatsDecide$Hat" ⟨"HatsDecide$Hat", "deed", "(IIII)I"⟩ ⟨"HatsDecide$Hat", "deed", "(IIII)I"⟩ ∈ xW := xin (xt2 (i := 211) rfl) rfl
theorem xc132 : xCok (11, 343, 2, 3, 7, 4) := ⟨_, xma7, xpc7, by decide, xw886, xw630, xw890, by decide, rfl⟩
theorem xpc18 : xpc yX4_deed 4 := by decide +kernel
theorem xw891 : Cond.selects "HatsDecide$Stiff" ⟨"HatsDecide$Hat", "deed", "(IIII)I"⟩ ⟨"HatsDecide$Stiff", "deed", "(IIII)I"⟩ ∈ xW := xin (xt2 (i := 228) rfl) rfl
theorem xw892 : Cond.instanceMethod ⟨"HatsDecide$Stiff", "deed", "(IIII)I"⟩ ∈ xW := xin (xt2 (i := 229) rfl) rfl
theorem xc133 : xCok (11, 343, 4, 4, 18, 4) := ⟨_, xma18, xpc18, by decide, "HatsDecide$Hat", "HatsDecide$Hat", prog_4_method_2_code, 5, (Option.some Jvm.ClassFile.FieldType.int), xw886, xw628, xw630, xw891, xw892, xw383, by decide, xnh3⟩
theorem xw893 : Cond.selects "HatsDecide$Tight" ⟨"HatsDecide$Hat", "deed", "(IIII)I"⟩ ⟨"HatsDecide$Tight", "deed", "(IIII)I"⟩ ∈ xW := xin (xt2 (i := 236) rfl) rfl
theorem xc134 : xCok (11, 343, 6, 4, 26, 4) := ⟨_, xma26, xpc26, by decide, "HatsDecide$Hat", "HatsDecide$Hat", prog_4_method_2_code, 5, (Option.some Jvm.ClassFile.FieldType.int), xw886, xw628, xw630, xw893, xw685, xw383, by decide, xnh3⟩
theorem xpc29 : xpc yX7_deed 4 := by decide +kernel
theorem xw894 : Cond.selects "HatsDecide$Told" ⟨"HatsDecide$Hat", "deed", "(IIII)I"⟩ ⟨"HatsDecide$Told", "deed", "(IIII)I"⟩ ∈ xW := xin (xt2 (i := 237) rfl) rfl
theorem xw895 : Cond.instanceMethod ⟨"HatsDecide$Told", "deed", "(IIII)I"⟩ ∈ xW := xin (xt2 (i := 238) rfl) rfl
theorem xc135 : xCok (11, 343, 7, 4, 29, 4) := ⟨_, xma29, xpc29, by decide, "HatsDecide$Hat", "HatsDecide$Hat", prog_4_method_2_code, 5, (Option.some Jvm.ClassFile.FieldType.int), xw886, xw628, xw630, xw894, xw895, xw383, by decide, xnh3⟩
theorem xw896 : Cond.selects "HatsDecide$Worn" ⟨"HatsDecide$Hat", "deed", "(IIII)I"⟩ ⟨"HatsDecide$Worn", "deed", "(IIII)I"⟩ ∈ xW := xin (xt3 (i := 1) rfl) rfl
theorem xc136 : xCok (11, 343, 10, 4, 52, 4) := ⟨_, xma52, xpc52, by decide, "HatsDecide$Hat", "HatsDecide$Hat", prog_4_method_2_code, 5, (Option.some Jvm.ClassFile.FieldType.int), xw886, xw628, xw630, xw896, xw648, xw383, by decide, xnh3⟩
theorem xpc234 : xpc yJ6_bitCount_0f7a4 1 := by decide +kernel
theorem xw897 : Cond.methodLink "HatsDecide" 347 ⟨"java/lang/Integer", "bitCount", "(I)I"⟩ ∈ xW := xin (xt3 (i := 189) rfl) rfl
theorem xw898 : Cond.static ⟨"java/lang/Integer", "bitCount", "(I)I"⟩ ∈ xW := xin (xt3 (i := 190) rfl) rfl
theorem xc137 : xCok (11, 347, 99, 0, 234, 1) := ⟨_, xma234, xpc234, by decide, xw897, xw898⟩
theorem xpc117 : xpc yX11_mostFrom 3 := by decide +kernel
theorem xw899 : Cond.methodLink "HatsDecide" 352 ⟨"HatsDecide", "mostFrom", "(III)I"⟩ ∈ xW := xin (xt3 (i := 195) rfl) rfl
theorem xw900 : Cond.instanceMethod ⟨"HatsDecide", "mostFrom", "(III)I"⟩ ∈ xW := xin (xt3 (i := 197) rfl) rfl
theorem xw901 : Cond.selects "HatsDecide" ⟨"HatsDecide", "mostFrom", "(III)I"⟩ ⟨"HatsDecide", "mostFrom", "(III)I"⟩ ∈ xW := xsel (i := 17) rfl
theorem xc138 : xCok (11, 352, 11, 3, 117, 3) := ⟨_, xma117, xpc117, by decide, xw899, xw900, xw901, by decide, rfl⟩
theorem xpc118 : xpc yX11_mostWith 3 := by decide +kernel
theorem xw902 : Cond.methodLink "HatsDecide" 355 ⟨"HatsDecide", "mostWith", "(III)I"⟩ ∈ xW := xin (xt3 (i := 199) rfl) rfl
theorem xw903 : Cond.instanceMethod ⟨"HatsDecide", "mostWith", "(III)I"⟩ ∈ xW := xin (xt3 (i := 201) rfl) rfl
theorem xw904 : Cond.selects "HatsDecide" ⟨"HatsDecide", "mostWith", "(III)I"⟩ ⟨"HatsDecide", "mostWith", "(III)I"⟩ ∈ xW := xsel (i := 18) rfl
theorem xc139 : xCok (11, 355, 11, 3, 118, 3) := ⟨_, xma118, xpc118, by decide, xw902, xw903, xw904, by decide, rfl⟩
theorem xpc120 : xpc yX11_firstOfBest 2 := by decide +kernel
theorem xw905 : Cond.methodLink "HatsDecide" 361 ⟨"HatsDecide", "firstOfBest", "(II)I"⟩ ∈ xW := xin (xt3 (i := 212) rfl) rfl
theorem xw906 : Cond.instanceMethod ⟨"HatsDecide", "firstOfBest", "(II)I"⟩ ∈ xW := xin (xt3 (i := 214) rfl) rfl
theorem xw907 : Cond.selects "HatsDecide" ⟨"HatsDecide", "firstOfBest", "(II)I"⟩ ⟨"HatsDecide", "firstOfBest", "(II)I"⟩ ∈ xW := xsel (i := 21) rfl
theorem xc140 : xCok (11, 361, 11, 3, 120, 2) := ⟨_, xma120, xpc120, by decide, xw905, xw906, xw907, by decide, rfl⟩
theorem xpc124 : xpc yX11_isAsSeen 2 := by decide +kernel
theorem xw908 : Cond.methodLink "HatsDecide" 364 ⟨"HatsDecide", "isAsSeen", "(II)Z"⟩ ∈ xW := xin (xt4 (i := 28) rfl) rfl
theorem xw909 : Cond.instanceMethod ⟨"HatsDecide", "isAsSeen", "(II)Z"⟩ ∈ xW := xin (xt4 (i := 30) rfl) rfl
theorem xw910 : Cond.selects "HatsDecide" ⟨"HatsDecide", "isAsSeen", "(II)Z"⟩ ⟨"HatsDecide", "isAsSeen", "(II)Z"⟩ ∈ xW := xsel (i := 26) rfl
theorem xc141 : xCok (11, 364, 11, 3, 124, 2) := ⟨_, xma124, xpc124, by decide, xw908, xw909, xw910, by decide, rfl⟩
theorem xpc129 : xpc yX12_in 3 := by decide +kernel
theorem xw911 : Cond.methodLink "HatsDecideModel" 248 ⟨"HatsDecideModel", "in", "(III)Z"⟩ ∈ xW := xin (xt5 (i := 231) rfl) rfl
theorem xw912 : Cond.instanceMethod ⟨"HatsDecideModel", "in", "(III)Z"⟩ ∈ xW := xin (xt5 (i := 233) rfl) rfl
theorem xw913 : Cond.selects "HatsDecideModel" ⟨"HatsDecideModel", "in", "(III)Z"⟩ ⟨"HatsDecideModel", "in", "(III)Z"⟩ ∈ xW := xsel (i := 30) rfl
theorem xc142 : xCok (12, 248, 12, 3, 129, 3) := ⟨_, xma129, xpc129, by decide, xw911, xw912, xw913, by decide, rfl⟩
theorem xpc134 : xpc yX12_isTrade 1 := by decide +kernel
theorem xw914 : Cond.methodLink "HatsDecideModel" 252 ⟨"HatsDecideModel", "isTrade", "(I)Z"⟩ ∈ xW := xin (xt5 (i := 239) rfl) rfl
theorem xw915 : Cond.instanceMethod ⟨"HatsDecideModel", "isTrade", "(I)Z"⟩ ∈ xW := xin (xt6 (i := 1) rfl) rfl
theorem xw916 : Cond.selects "HatsDecideModel" ⟨"HatsDecideModel", "isTrade", "(I)Z"⟩ ⟨"HatsDecideModel", "isTrade", "(I)Z"⟩ ∈ xW := xsel (i := 31) rfl
theorem xc143 : xCok (12, 252, 12, 3, 134, 1) := ⟨_, xma134, xpc134, by decide, xw914, xw915, xw916, by decide, rfl⟩
theorem xpc133 : xpc yX12_isHat 1 := by decide +kernel
theorem xw917 : Cond.methodLink "HatsDecideModel" 256 ⟨"HatsDecideModel", "isHat", "(I)Z"⟩ ∈ xW := xin (xt6 (i := 7) rfl) rfl
theorem xw918 : Cond.instanceMethod ⟨"HatsDecideModel", "isHat", "(I)Z"⟩ ∈ xW := xin (xt6 (i := 9) rfl) rfl
theorem xw919 : Cond.selects "HatsDecideModel" ⟨"HatsDecideModel", "isHat", "(I)Z"⟩ ⟨"HatsDecideModel", "isHat", "(I)Z"⟩ ∈ xW := xsel (i := 32) rfl
theorem xc144 : xCok (12, 256, 12, 3, 133, 1) := ⟨_, xma133, xpc133, by decide, xw917, xw918, xw919, by decide, rfl⟩
theorem xpc132 : xpc yX12_isHead 1 := by decide +kernel
theorem xw920 : Cond.methodLink "HatsDecideModel" 259 ⟨"HatsDecideModel", "isHead", "(I)Z"⟩ ∈ xW := xin (xt6 (i := 15) rfl) rfl
theorem xw921 : Cond.instanceMethod ⟨"HatsDecideModel", "isHead", "(I)Z"⟩ ∈ xW := xin (xt6 (i := 17) rfl) rfl
theorem xw922 : Cond.selects "HatsDecideModel" ⟨"HatsDecideModel", "isHead", "(I)Z"⟩ ⟨"HatsDecideModel", "isHead", "(I)Z"⟩ ∈ xW := xsel (i := 33) rfl
theorem xc145 : xCok (12, 259, 12, 3, 132, 1) := ⟨_, xma132, xpc132, by decide, xw920, xw921, xw922, by decide, rfl⟩
theorem xpc138 : xpc yX12_headOf 1 := by decide +kernel
theorem xw923 : Cond.methodLink "HatsDecideModel" 262 ⟨"HatsDecideModel", "headOf", "(I)I"⟩ ∈ xW := xin (xt6 (i := 19) rfl) rfl
theorem xw924 : Cond.instanceMethod ⟨"HatsDecideModel", "headOf", "(I)I"⟩ ∈ xW := xin (xt6 (i := 21) rfl) rfl
theorem xw925 : Cond.selects "HatsDecideModel" ⟨"HatsDecideModel", "headOf", "(I)I"⟩ ⟨"HatsDecideModel", "headOf", "(I)I"⟩ ∈ xW := xsel (i := 34) rfl
theorem xc146 : xCok (12, 262, 12, 3, 138, 1) := ⟨_, xma138, xpc138, by decide, xw923, xw924, xw925, by decide, rfl⟩
theorem xpc135 : xpc yX12_orNone 1 := by decide +kernel
theorem xw926 : Cond.methodLink "HatsDecideModel" 266 ⟨"HatsDecideModel", "orNone", "(I)I"⟩ ∈ xW := xin (xt6 (i := 27) rfl) rfl
theorem xw927 : Cond.instanceMethod ⟨"HatsDecideModel", "orNone", "(I)I"⟩ ∈ xW := xin (xt6 (i := 29) rfl) rfl
theorem xw928 : Cond.selects "HatsDecideModel" ⟨"HatsDecideModel", "orNone", "(I)I"⟩ ⟨"HatsDecideModel", "orNone", "(I)I"⟩ ∈ xW := xsel (i := 35) rfl
theorem xc147 : xCok (12, 266, 12, 3, 135, 1) := ⟨_, xma135, xpc135, by decide, xw926, xw927, xw928, by decide, rfl⟩
theorem xpc144 : xpc yX12_next 0 := by decide +kernel
theorem xw929 : Cond.methodLink "HatsDecideModel" 269 ⟨"HatsDecideModel", "next", "()I"⟩ ∈ xW := xin (xt6 (i := 55) rfl) rfl
theorem xw930 : Cond.instanceMethod ⟨"HatsDecideModel", "next", "()I"⟩ ∈ xW := xin (xt6 (i := 57) rfl) rfl
theorem xw931 : Cond.selects "HatsDecideModel" ⟨"HatsDecideModel", "next", "()I"⟩ ⟨"HatsDecideModel", "next", "()I"⟩ ∈ xW := xsel (i := 39) rfl
theorem xc148 : xCok (12, 269, 12, 3, 144, 0) := ⟨_, xma144, xpc144, by decide, xw929, xw930, xw931, by decide, rfl⟩
theorem xpc145 : xpc yX12_takes 1 := by decide +kernel
theorem xw932 : Cond.methodLink "HatsDecideModel" 273 ⟨"HatsDecideModel", "takes", "(I)Z"⟩ ∈ xW := xin (xt6 (i := 63) rfl) rfl
theorem xw933 : Cond.instanceMethod ⟨"HatsDecideModel", "takes", "(I)Z"⟩ ∈ xW := xin (xt6 (i := 65) rfl) rfl
theorem xw934 : Cond.selects "HatsDecideModel" ⟨"HatsDecideModel", "takes", "(I)Z"⟩ ⟨"HatsDecideModel", "takes", "(I)Z"⟩ ∈ xW := xsel (i := 41) rfl
theorem xc149 : xCok (12, 273, 12, 3, 145, 1) := ⟨_, xma145, xpc145, by decide, xw932, xw933, xw934, by decide, rfl⟩
theorem xpc147 : xpc yX12_isDigit 0 := by decide +kernel
theorem xw935 : Cond.methodLink "HatsDecideModel" 276 ⟨"HatsDecideModel", "isDigit", "()Z"⟩ ∈ xW := xin (xt6 (i := 71) rfl) rfl
theorem xw936 : Cond.instanceMethod ⟨"HatsDecideModel", "isDigit", "()Z"⟩ ∈ xW := xin (xt6 (i := 73) rfl) rfl
theorem xw937 : Cond.selects "HatsDecideModel" ⟨"HatsDecideModel", "isDigit", "()Z"⟩ ⟨"HatsDecideModel", "isDigit", "()Z"⟩ ∈ xW := xsel (i := 43) rfl
theorem xc150 : xCok (12, 276, 12, 3, 147, 0) := ⟨_, xma147, xpc147, by decide, xw935, xw936, xw937, by decide, rfl⟩
theorem xpc149 : xpc yX12_emits 1 := by decide +kernel
theorem xw938 : Cond.methodLink "HatsDecideModel" 280 ⟨"HatsDecideModel", "emits", "(I)V"⟩ ∈ xW := xin (xt6 (i := 87) rfl) rfl
theorem xw939 : Cond.instanceMethod ⟨"HatsDecideModel", "emits", "(I)V"⟩ ∈ xW := xin (xt6 (i := 89) rfl) rfl
theorem xw940 : Cond.selects "HatsDecideModel" ⟨"HatsDecideModel", "emits", "(I)V"⟩ ⟨"HatsDecideModel", "emits", "(I)V"⟩ ∈ xW := xsel (i := 47) rfl
theorem xc151 : xCok (12, 280, 12, 3, 149, 1) := ⟨_, xma149, xpc149, by decide, xw938, xw939, xw940, by decide, rfl⟩
theorem xpc152 : xpc yX12_place 1 := by decide +kernel
theorem xw941 : Cond.methodLink "HatsDecideModel" 284 ⟨"HatsDecideModel", "place", "(I)I"⟩ ∈ xW := xin (xt6 (i := 83) rfl) rfl
theorem xw942 : Cond.instanceMethod ⟨"HatsDecideModel", "place", "(I)I"⟩ ∈ xW := xin (xt6 (i := 85) rfl) rfl
theorem xw943 : Cond.selects "HatsDecideModel" ⟨"HatsDecideModel", "place", "(I)I"⟩ ⟨"HatsDecideModel", "place", "(I)I"⟩ ∈ xW := xsel (i := 46) rfl
theorem xc152 : xCok (12, 284, 12, 3, 152, 1) := ⟨_, xma152, xpc152, by decide, xw941, xw942, xw943, by decide, rfl⟩
theorem xpc148 : xpc yX12_takesNumber 0 := by decide +kernel
theorem xw944 : Cond.methodLink "HatsDecideModel" 287 ⟨"HatsDecideModel", "takesNumber", "()Z"⟩ ∈ xW := xin (xt6 (i := 67) rfl) rfl
theorem xw945 : Cond.instanceMethod ⟨"HatsDecideModel", "takesNumber", "()Z"⟩ ∈ xW := xin (xt6 (i := 69) rfl) rfl
theorem xw946 : Cond.selects "HatsDecideModel" ⟨"HatsDecideModel", "takesNumber", "()Z"⟩ ⟨"HatsDecideModel", "takesNumber", "()Z"⟩ ∈ xW := xsel (i := 42) rfl
theorem xc153 : xCok (12, 287, 12, 3, 148, 0) := ⟨_, xma148, xpc148, by decide, xw944, xw945, xw946, by decide, rfl⟩
theorem xpc150 : xpc yX12_whole 0 := by decide +kernel
theorem xw947 : Cond.methodLink "HatsDecideModel" 290 ⟨"HatsDecideModel", "whole", "()V"⟩ ∈ xW := xin (xt6 (i := 91) rfl) rfl
theorem xw948 : Cond.instanceMethod ⟨"HatsDecideModel", "whole", "()V"⟩ ∈ xW := xin (xt6 (i := 93) rfl) rfl
theorem xw949 : Cond.selects "HatsDecideModel" ⟨"HatsDecideModel", "whole", "()V"⟩ ⟨"HatsDecideModel", "whole", "()V"⟩ ∈ xW := xsel (i := 48) rfl
theorem xc154 : xCok (12, 290, 12, 3, 150, 0) := ⟨_, xma150, xpc150, by decide, xw947, xw948, xw949, by decide, rfl⟩
theorem xpc153 : xpc yX12_takesTest 0 := by decide +kernel
theorem xw950 : Cond.methodLink "HatsDecideModel" 293 ⟨"HatsDecideModel", "takesTest", "()Z"⟩ ∈ xW := xin (xt6 (i := 79) rfl) rfl
theorem xw951 : Cond.instanceMethod ⟨"HatsDecideModel", "takesTest", "()Z"⟩ ∈ xW := xin (xt6 (i := 81) rfl) rfl
theorem xw952 : Cond.selects "HatsDecideModel" ⟨"HatsDecideModel", "takesTest", "()Z"⟩ ⟨"HatsDecideModel", "takesTest", "()Z"⟩ ∈ xW := xsel (i := 45) rfl
theorem xc155 : xCok (12, 293, 12, 3, 153, 0) := ⟨_, xma153, xpc153, by decide, xw950, xw951, xw952, by decide, rfl⟩
theorem xpc151 : xpc yX12_settle 1 := by decide +kernel
theorem xw953 : Cond.methodLink "HatsDecideModel" 296 ⟨"HatsDecideModel", "settle", "(I)V"⟩ ∈ xW := xin (xt6 (i := 95) rfl) rfl
theorem xw954 : Cond.instanceMethod ⟨"HatsDecideModel", "settle", "(I)V"⟩ ∈ xW := xin (xt6 (i := 97) rfl) rfl
theorem xw955 : Cond.selects "HatsDecideModel" ⟨"HatsDecideModel", "settle", "(I)V"⟩ ⟨"HatsDecideModel", "settle", "(I)V"⟩ ∈ xW := xsel (i := 49) rfl
theorem xc156 : xCok (12, 296, 12, 3, 151, 1) := ⟨_, xma151, xpc151, by decide, xw953, xw954, xw955, by decide, rfl⟩
theorem xpc146 : xpc yX12_takesWord 2 := by decide +kernel
theorem xw956 : Cond.methodLink "HatsDecideModel" 299 ⟨"HatsDecideModel", "takesWord", "(II)Z"⟩ ∈ xW := xin (xt6 (i := 59) rfl) rfl
theorem xw957 : Cond.instanceMethod ⟨"HatsDecideModel", "takesWord", "(II)Z"⟩ ∈ xW := xin (xt6 (i := 61) rfl) rfl
theorem xw958 : Cond.selects "HatsDecideModel" ⟨"HatsDecideModel", "takesWord", "(II)Z"⟩ ⟨"HatsDecideModel", "takesWord", "(II)Z"⟩ ∈ xW := xsel (i := 40) rfl
theorem xc157 : xCok (12, 299, 12, 3, 146, 2) := ⟨_, xma146, xpc146, by decide, xw956, xw957, xw958, by decide, rfl⟩
theorem xpc155 : xpc yX12_takesHead 1 := by decide +kernel
theorem xw959 : Cond.methodLink "HatsDecideModel" 303 ⟨"HatsDecideModel", "takesHead", "(I)Z"⟩ ∈ xW := xin (xt6 (i := 51) rfl) rfl
theorem xw960 : Cond.instanceMethod ⟨"HatsDecideModel", "takesHead", "(I)Z"⟩ ∈ xW := xin (xt6 (i := 53) rfl) rfl
theorem xw961 : Cond.selects "HatsDecideModel" ⟨"HatsDecideModel", "takesHead", "(I)Z"⟩ ⟨"HatsDecideModel", "takesHead", "(I)Z"⟩ ∈ xW := xsel (i := 38) rfl
theorem xc158 : xCok (12, 303, 12, 3, 155, 1) := ⟨_, xma155, xpc155, by decide, xw959, xw960, xw961, by decide, rfl⟩
theorem xpc154 : xpc yX12_takesE 1 := by decide +kernel
theorem xw962 : Cond.methodLink "HatsDecideModel" 306 ⟨"HatsDecideModel", "takesE", "(I)Z"⟩ ∈ xW := xin (xt6 (i := 75) rfl) rfl
theorem xw963 : Cond.instanceMethod ⟨"HatsDecideModel", "takesE", "(I)Z"⟩ ∈ xW := xin (xt6 (i := 77) rfl) rfl
theorem xw964 : Cond.selects "HatsDecideModel" ⟨"HatsDecideModel", "takesE", "(I)Z"⟩ ⟨"HatsDecideModel", "takesE", "(I)Z"⟩ ∈ xW := xsel (i := 44) rfl
theorem xc159 : xCok (12, 306, 12, 3, 154, 1) := ⟨_, xma154, xpc154, by decide, xw962, xw963, xw964, by decide, rfl⟩
theorem xpc156 : xpc yX12_takesClause 1 := by decide +kernel
theorem xw965 : Cond.methodLink "HatsDecideModel" 309 ⟨"HatsDecideModel", "takesClause", "(I)Z"⟩ ∈ xW := xin (xt6 (i := 47) rfl) rfl
theorem xw966 : Cond.instanceMethod ⟨"HatsDecideModel", "takesClause", "(I)Z"⟩ ∈ xW := xin (xt6 (i := 49) rfl) rfl
theorem xw967 : Cond.selects "HatsDecideModel" ⟨"HatsDecideModel", "takesClause", "(I)Z"⟩ ⟨"HatsDecideModel", "takesClause", "(I)Z"⟩ ∈ xW := xsel (i := 37) rfl
theorem xc160 : xCok (12, 309, 12, 3, 156, 1) := ⟨_, xma156, xpc156, by decide, xw965, xw966, xw967, by decide, rfl⟩
theorem xpc157 : xpc yX12_goesText 1 := by decide +kernel
theorem xw968 : Cond.methodLink "HatsDecideModel" 312 ⟨"HatsDecideModel", "goesText", "(I)Z"⟩ ∈ xW := xin (xt6 (i := 43) rfl) rfl
theorem xw969 : Cond.instanceMethod ⟨"HatsDecideModel", "goesText", "(I)Z"⟩ ∈ xW := xin (xt6 (i := 45) rfl) rfl
theorem xw970 : Cond.selects "HatsDecideModel" ⟨"HatsDecideModel", "goesText", "(I)Z"⟩ ⟨"HatsDecideModel", "goesText", "(I)Z"⟩ ∈ xW := xsel (i := 36) rfl
theorem xc161 : xCok (12, 312, 12, 3, 157, 1) := ⟨_, xma157, xpc157, by decide, xw968, xw969, xw970, by decide, rfl⟩
theorem xpc159 : xpc yX12_begin 0 := by decide +kernel
theorem xw971 : Cond.methodLink "HatsDecideModel" 315 ⟨"HatsDecideModel", "begin", "()I"⟩ ∈ xW := xin (xt6 (i := 111) rfl) rfl
theorem xw972 : Cond.instanceMethod ⟨"HatsDecideModel", "begin", "()I"⟩ ∈ xW := xin (xt6 (i := 113) rfl) rfl
theorem xw973 : Cond.selects "HatsDecideModel" ⟨"HatsDecideModel", "begin", "()I"⟩ ⟨"HatsDecideModel", "begin", "()I"⟩ ∈ xW := xsel (i := 52) rfl
theorem xc162 : xCok (12, 315, 12, 3, 159, 0) := ⟨_, xma159, xpc159, by decide, xw971, xw972, xw973, by decide, rfl⟩
theorem xpc160 : xpc yX12_behind 0 := by decide +kernel
theorem xw974 : Cond.methodLink "HatsDecideModel" 318 ⟨"HatsDecideModel", "behind", "()I"⟩ ∈ xW := xin (xt6 (i := 115) rfl) rfl
theorem xw975 : Cond.instanceMethod ⟨"HatsDecideModel", "behind", "()I"⟩ ∈ xW := xin (xt6 (i := 117) rfl) rfl
theorem xw976 : Cond.selects "HatsDecideModel" ⟨"HatsDecideModel", "behind", "()I"⟩ ⟨"HatsDecideModel", "behind", "()I"⟩ ∈ xW := xsel (i := 53) rfl
theorem xc163 : xCok (12, 318, 12, 3, 160, 0) := ⟨_, xma160, xpc160, by decide, xw974, xw975, xw976, by decide, rfl⟩
theorem xpc163 : xpc yX12_factOf 3 := by decide +kernel
theorem xw977 : Cond.methodLink "HatsDecideModel" 321 ⟨"HatsDecideModel", "factOf", "(III)I"⟩ ∈ xW := xin (xt6 (i := 123) rfl) rfl
theorem xw978 : Cond.instanceMethod ⟨"HatsDecideModel", "factOf", "(III)I"⟩ ∈ xW := xin (xt6 (i := 125) rfl) rfl
theorem xw979 : Cond.selects "HatsDecideModel" ⟨"HatsDecideModel", "factOf", "(III)I"⟩ ⟨"HatsDecideModel", "factOf", "(III)I"⟩ ∈ xW := xsel (i := 55) rfl
theorem xc164 : xCok (12, 321, 12, 3, 163, 3) := ⟨_, xma163, xpc163, by decide, xw977, xw978, xw979, by decide, rfl⟩
theorem xpc164 : xpc yX12_holds 3 := by decide +kernel
theorem xw980 : Cond.methodLink "HatsDecideModel" 325 ⟨"HatsDecideModel", "holds", "(III)Z"⟩ ∈ xW := xin (xt6 (i := 119) rfl) rfl
theorem xw981 : Cond.instanceMethod ⟨"HatsDecideModel", "holds", "(III)Z"⟩ ∈ xW := xin (xt6 (i := 121) rfl) rfl
theorem xw982 : Cond.selects "HatsDecideModel" ⟨"HatsDecideModel", "holds", "(III)Z"⟩ ⟨"HatsDecideModel", "holds", "(III)Z"⟩ ∈ xW := xsel (i := 54) rfl
theorem xc165 : xCok (12, 325, 12, 3, 164, 3) := ⟨_, xma164, xpc164, by decide, xw980, xw981, xw982, by decide, rfl⟩
theorem xpc165 : xpc yX12_fits 2 := by decide +kernel
theorem xw983 : Cond.methodLink "HatsDecideModel" 328 ⟨"HatsDecideModel", "fits", "(II)I"⟩ ∈ xW := xin (xt6 (i := 107) rfl) rfl
theorem xw984 : Cond.instanceMethod ⟨"HatsDecideModel", "fits", "(II)I"⟩ ∈ xW := xin (xt6 (i := 109) rfl) rfl
theorem xw985 : Cond.selects "HatsDecideModel" ⟨"HatsDecideModel", "fits", "(II)I"⟩ ⟨"HatsDecideModel", "fits", "(II)I"⟩ ∈ xW := xsel (i := 51) rfl
theorem xc166 : xCok (12, 328, 12, 3, 165, 2) := ⟨_, xma165, xpc165, by decide, xw983, xw984, xw985, by decide, rfl⟩
theorem xpc131 : xpc yX12_most 2 := by decide +kernel
theorem xw986 : Cond.methodLink "HatsDecideModel" 332 ⟨"HatsDecideModel", "most", "(II)I"⟩ ∈ xW := xin (xt6 (i := 127) rfl) rfl
theorem xw987 : Cond.instanceMethod ⟨"HatsDecideModel", "most", "(II)I"⟩ ∈ xW := xin (xt6 (i := 129) rfl) rfl
theorem xw988 : Cond.selects "HatsDecideModel" ⟨"HatsDecideModel", "most", "(II)I"⟩ ⟨"HatsDecideModel", "most", "(II)I"⟩ ∈ xW := xsel (i := 56) rfl
theorem xc167 : xCok (12, 332, 12, 3, 131, 2) := ⟨_, xma131, xpc131, by decide, xw986, xw987, xw988, by decide, rfl⟩
theorem xpc166 : xpc yX12_apart 2 := by decide +kernel
theorem xw989 : Cond.methodLink "HatsDecideModel" 335 ⟨"HatsDecideModel", "apart", "(II)I"⟩ ∈ xW := xin (xt6 (i := 131) rfl) rfl
theorem xw990 : Cond.instanceMethod ⟨"HatsDecideModel", "apart", "(II)I"⟩ ∈ xW := xin (xt6 (i := 133) rfl) rfl
theorem xw991 : Cond.selects "HatsDecideModel" ⟨"HatsDecideModel", "apart", "(II)I"⟩ ⟨"HatsDecideModel", "apart", "(II)I"⟩ ∈ xW := xsel (i := 57) rfl
theorem xc168 : xCok (12, 335, 12, 3, 166, 2) := ⟨_, xma166, xpc166, by decide, xw989, xw990, xw991, by decide, rfl⟩
theorem xpc161 : xpc yX12_moth 0 := by decide +kernel
theorem xw992 : Cond.methodLink "HatsDecideModel" 338 ⟨"HatsDecideModel", "moth", "()I"⟩ ∈ xW := xin (xt6 (i := 135) rfl) rfl
theorem xw993 : Cond.instanceMethod ⟨"HatsDecideModel", "moth", "()I"⟩ ∈ xW := xin (xt6 (i := 137) rfl) rfl
theorem xw994 : Cond.selects "HatsDecideModel" ⟨"HatsDecideModel", "moth", "()I"⟩ ⟨"HatsDecideModel", "moth", "()I"⟩ ∈ xW := xsel (i := 58) rfl
theorem xc169 : xCok (12, 338, 12, 3, 161, 0) := ⟨_, xma161, xpc161, by decide, xw992, xw993, xw994, by decide, rfl⟩
theorem xpc167 : xpc yX12_deed 2 := by decide +kernel
theorem xw995 : Cond.methodLink "HatsDecideModel" 341 ⟨"HatsDecideModel", "deed", "(II)I"⟩ ∈ xW := xin (xt6 (i := 103) rfl) rfl
theorem xw996 : Cond.instanceMethod ⟨"HatsDecideModel", "deed", "(II)I"⟩ ∈ xW := xin (xt6 (i := 105) rfl) rfl
theorem xw997 : Cond.selects "HatsDecideModel" ⟨"HatsDecideModel", "deed", "(II)I"⟩ ⟨"HatsDecideModel", "deed", "(II)I"⟩ ∈ xW := xsel (i := 50) rfl
theorem xc170 : xCok (12, 341, 12, 3, 167, 2) := ⟨_, xma167, xpc167, by decide, xw995, xw996, xw997, by decide, rfl⟩
theorem xpc162 : xpc yX12_work 1 := by decide +kernel
theorem xw998 : Cond.methodLink "HatsDecideModel" 344 ⟨"HatsDecideModel", "work", "(I)I"⟩ ∈ xW := xin (xt6 (i := 147) rfl) rfl
theorem xw999 : Cond.instanceMethod ⟨"HatsDecideModel", "work", "(I)I"⟩ ∈ xW := xin (xt6 (i := 149) rfl) rfl
theorem xw1000 : Cond.selects "HatsDecideModel" ⟨"HatsDecideModel", "work", "(I)I"⟩ ⟨"HatsDecideModel", "work", "(I)I"⟩ ∈ xW := xsel (i := 59) rfl
theorem xc171 : xCok (12, 344, 12, 3, 162, 1) := ⟨_, xma162, xpc162, by decide, xw998, xw999, xw1000, by decide, rfl⟩
theorem xpc171 : xpc yX12_todayOf 1 := by decide +kernel
theorem xw1001 : Cond.methodLink "HatsDecideModel" 347 ⟨"HatsDecideModel", "todayOf", "(I)I"⟩ ∈ xW := xin (xt6 (i := 155) rfl) rfl
theorem xw1002 : Cond.instanceMethod ⟨"HatsDecideModel", "todayOf", "(I)I"⟩ ∈ xW := xin (xt6 (i := 157) rfl) rfl
theorem xw1003 : Cond.selects "HatsDecideModel" ⟨"HatsDecideModel", "todayOf", "(I)I"⟩ ⟨"HatsDecideModel", "todayOf", "(I)I"⟩ ∈ xW := xsel (i := 60) rfl
theorem xc172 : xCok (12, 347, 12, 3, 171, 1) := ⟨_, xma171, xpc171, by decide, xw1001, xw1002, xw1003, by decide, rfl⟩
theorem xpc172 : xpc yX12_goDay 0 := by decide +kernel
theorem xw1004 : Cond.methodLink "HatsDecideModel" 351 ⟨"HatsDecideModel", "goDay", "()V"⟩ ∈ xW := xin (xt6 (i := 160) rfl) rfl
theorem xw1005 : Cond.instanceMethod ⟨"HatsDecideModel", "goDay", "()V"⟩ ∈ xW := xin (xt6 (i := 162) rfl) rfl
theorem xw1006 : Cond.selects "HatsDecideModel" ⟨"HatsDecideModel", "goDay", "()V"⟩ ⟨"HatsDecideModel", "goDay", "()V"⟩ ∈ xW := xsel (i := 61) rfl
theorem xc173 : xCok (12, 351, 12, 3, 172, 0) := ⟨_, xma172, xpc172, by decide, xw1004, xw1005, xw1006, by decide, rfl⟩
theorem xpc174 : xpc yX12_goGust 1 := by decide +kernel
theorem xw1007 : Cond.methodLink "HatsDecideModel" 354 ⟨"HatsDecideModel", "goGust", "(I)I"⟩ ∈ xW := xin (xt6 (i := 168) rfl) rfl
theorem xw1008 : Cond.instanceMethod ⟨"HatsDecideModel", "goGust", "(I)I"⟩ ∈ xW := xin (xt6 (i := 170) rfl) rfl
theorem xw1009 : Cond.selects "HatsDecideModel" ⟨"HatsDecideModel", "goGust", "(I)I"⟩ ⟨"HatsDecideModel", "goGust", "(I)I"⟩ ∈ xW := xsel (i := 62) rfl
theorem xc174 : xCok (12, 354, 12, 3, 174, 1) := ⟨_, xma174, xpc174, by decide, xw1007, xw1008, xw1009, by decide, rfl⟩
theorem xpc176 : xpc yX12_swaps 2 := by decide +kernel
theorem xw1010 : Cond.methodLink "HatsDecideModel" 357 ⟨"HatsDecideModel", "swaps", "(II)V"⟩ ∈ xW := xin (xt6 (i := 176) rfl) rfl
theorem xw1011 : Cond.instanceMethod ⟨"HatsDecideModel", "swaps", "(II)V"⟩ ∈ xW := xin (xt6 (i := 178) rfl) rfl
theorem xw1012 : Cond.selects "HatsDecideModel" ⟨"HatsDecideModel", "swaps", "(II)V"⟩ ⟨"HatsDecideModel", "swaps", "(II)V"⟩ ∈ xW := xsel (i := 63) rfl
theorem xc175 : xCok (12, 357, 12, 3, 176, 2) := ⟨_, xma176, xpc176, by decide, xw1010, xw1011, xw1012, by decide, rfl⟩
theorem xpc181 : xpc yX12_save 0 := by decide +kernel
theorem xw1013 : Cond.methodLink "HatsDecideModel" 362 ⟨"HatsDecideModel", "save", "()V"⟩ ∈ xW := xin (xt6 (i := 196) rfl) rfl
theorem xw1014 : Cond.instanceMethod ⟨"HatsDecideModel", "save", "()V"⟩ ∈ xW := xin (xt6 (i := 198) rfl) rfl
theorem xw1015 : Cond.selects "HatsDecideModel" ⟨"HatsDecideModel", "save", "()V"⟩ ⟨"HatsDecideModel", "save", "()V"⟩ ∈ xW := xsel (i := 64) rfl
theorem xc176 : xCok (12, 362, 12, 3, 181, 0) := ⟨_, xma181, xpc181, by decide, xw1013, xw1014, xw1015, by decide, rfl⟩
theorem xpc182 : xpc yX12_putBack 0 := by decide +kernel
theorem xw1016 : Cond.methodLink "HatsDecideModel" 365 ⟨"HatsDecideModel", "putBack", "()V"⟩ ∈ xW := xin (xt6 (i := 201) rfl) rfl
theorem xw1017 : Cond.instanceMethod ⟨"HatsDecideModel", "putBack", "()V"⟩ ∈ xW := xin (xt6 (i := 203) rfl) rfl
theorem xw1018 : Cond.selects "HatsDecideModel" ⟨"HatsDecideModel", "putBack", "()V"⟩ ⟨"HatsDecideModel", "putBack", "()V"⟩ ∈ xW := xsel (i := 65) rfl
theorem xc177 : xCok (12, 365, 12, 3, 182, 0) := ⟨_, xma182, xpc182, by decide, xw1016, xw1017, xw1018, by decide, rfl⟩
theorem xpc130 : xpc yX12_has 2 := by decide +kernel
theorem xw1019 : Cond.methodLink "HatsDecideModel" 368 ⟨"HatsDecideModel", "has", "(II)Z"⟩ ∈ xW := xin (xt6 (i := 229) rfl) rfl
theorem xw1020 : Cond.instanceMethod ⟨"HatsDecideModel", "has", "(II)Z"⟩ ∈ xW := xin (xt6 (i := 231) rfl) rfl
theorem xw1021 : Cond.selects "HatsDecideModel" ⟨"HatsDecideModel", "has", "(II)Z"⟩ ⟨"HatsDecideModel", "has", "(II)Z"⟩ ∈ xW := xsel (i := 70) rfl
theorem xc178 : xCok (12, 368, 12, 3, 130, 2) := ⟨_, xma130, xpc130, by decide, xw1019, xw1020, xw1021, by decide, rfl⟩
theorem xpc185 : xpc yX12_layDeeds 0 := by decide +kernel
theorem xw1022 : Cond.methodLink "HatsDecideModel" 371 ⟨"HatsDecideModel", "layDeeds", "()V"⟩ ∈ xW := xin (xt6 (i := 217) rfl) rfl
theorem xw1023 : Cond.instanceMethod ⟨"HatsDecideModel", "layDeeds", "()V"⟩ ∈ xW := xin (xt6 (i := 219) rfl) rfl
theorem xw1024 : Cond.selects "HatsDecideModel" ⟨"HatsDecideModel", "layDeeds", "()V"⟩ ⟨"HatsDecideModel", "layDeeds", "()V"⟩ ∈ xW := xsel (i := 67) rfl
theorem xc179 : xCok (12, 371, 12, 3, 185, 0) := ⟨_, xma185, xpc185, by decide, xw1022, xw1023, xw1024, by decide, rfl⟩
theorem xpc186 : xpc yX12_ones 1 := by decide +kernel
theorem xw1025 : Cond.methodLink "HatsDecideModel" 374 ⟨"HatsDecideModel", "ones", "(I)I"⟩ ∈ xW := xin (xt6 (i := 221) rfl) rfl
theorem xw1026 : Cond.instanceMethod ⟨"HatsDecideModel", "ones", "(I)I"⟩ ∈ xW := xin (xt6 (i := 223) rfl) rfl
theorem xw1027 : Cond.selects "HatsDecideModel" ⟨"HatsDecideModel", "ones", "(I)I"⟩ ⟨"HatsDecideModel", "ones", "(I)I"⟩ ∈ xW := xsel (i := 68) rfl
theorem xc180 : xCok (12, 374, 12, 3, 186, 1) := ⟨_, xma186, xpc186, by decide, xw1025, xw1026, xw1027, by decide, rfl⟩
theorem xpc187 : xpc yX12_onwardBy 3 := by decide +kernel
theorem xw1028 : Cond.methodLink "HatsDecideModel" 377 ⟨"HatsDecideModel", "onwardBy", "(III)I"⟩ ∈ xW := xin (xt6 (i := 225) rfl) rfl
theorem xw1029 : Cond.instanceMethod ⟨"HatsDecideModel", "onwardBy", "(III)I"⟩ ∈ xW := xin (xt6 (i := 227) rfl) rfl
theorem xw1030 : Cond.selects "HatsDecideModel" ⟨"HatsDecideModel", "onwardBy", "(III)I"⟩ ⟨"HatsDecideModel", "onwardBy", "(III)I"⟩ ∈ xW := xsel (i := 69) rfl
theorem xc181 : xCok (12, 377, 12, 3, 187, 3) := ⟨_, xma187, xpc187, by decide, xw1028, xw1029, xw1030, by decide, rfl⟩
theorem xpc188 : xpc yX12_layBest 0 := by decide +kernel
theorem xw1031 : Cond.methodLink "HatsDecideModel" 380 ⟨"HatsDecideModel", "layBest", "()V"⟩ ∈ xW := xin (xt6 (i := 213) rfl) rfl
theorem xw1032 : Cond.instanceMethod ⟨"HatsDecideModel", "layBest", "()V"⟩ ∈ xW := xin (xt6 (i := 215) rfl) rfl
theorem xw1033 : Cond.selects "HatsDecideModel" ⟨"HatsDecideModel", "layBest", "()V"⟩ ⟨"HatsDecideModel", "layBest", "()V"⟩ ∈ xW := xsel (i := 66) rfl
theorem xc182 : xCok (12, 380, 12, 3, 188, 0) := ⟨_, xma188, xpc188, by decide, xw1031, xw1032, xw1033, by decide, rfl⟩
theorem xpc190 : xpc yX12_mostOf 1 := by decide +kernel
theorem xw1034 : Cond.methodLink "HatsDecideModel" 383 ⟨"HatsDecideModel", "mostOf", "(I)I"⟩ ∈ xW := xin (xt6 (i := 237) rfl) rfl
theorem xw1035 : Cond.instanceMethod ⟨"HatsDecideModel", "mostOf", "(I)I"⟩ ∈ xW := xin (xt6 (i := 239) rfl) rfl
theorem xw1036 : Cond.selects "HatsDecideModel" ⟨"HatsDecideModel", "mostOf", "(I)I"⟩ ⟨"HatsDecideModel", "mostOf", "(I)I"⟩ ∈ xW := xsel (i := 71) rfl
theorem xc183 : xCok (12, 383, 12, 3, 190, 1) := ⟨_, xma190, xpc190, by decide, xw1034, xw1035, xw1036, by decide, rfl⟩
theorem xpc193 : xpc yX12_dueFor 1 := by decide +kernel
theorem xw1037 : Cond.methodLink "HatsDecideModel" 386 ⟨"HatsDecideModel", "dueFor", "(I)I"⟩ ∈ xW := xin (xt7 (i := 9) rfl) rfl
theorem xw1038 : Cond.instanceMethod ⟨"HatsDecideModel", "dueFor", "(I)I"⟩ ∈ xW := xin (xt7 (i := 11) rfl) rfl
theorem xw1039 : Cond.selects "HatsDecideModel" ⟨"HatsDecideModel", "dueFor", "(I)I"⟩ ⟨"HatsDecideModel", "dueFor", "(I)I"⟩ ∈ xW := xsel (i := 73) rfl
theorem xc184 : xCok (12, 386, 12, 3, 193, 1) := ⟨_, xma193, xpc193, by decide, xw1037, xw1038, xw1039, by decide, rfl⟩
theorem xpc192 : xpc yX12_isClash 0 := by decide +kernel
theorem xw1040 : Cond.methodLink "HatsDecideModel" 389 ⟨"HatsDecideModel", "isClash", "()Z"⟩ ∈ xW := xin (xt7 (i := 5) rfl) rfl
theorem xw1041 : Cond.instanceMethod ⟨"HatsDecideModel", "isClash", "()Z"⟩ ∈ xW := xin (xt7 (i := 7) rfl) rfl
theorem xw1042 : Cond.selects "HatsDecideModel" ⟨"HatsDecideModel", "isClash", "()Z"⟩ ⟨"HatsDecideModel", "isClash", "()Z"⟩ ∈ xW := xsel (i := 72) rfl
theorem xc185 : xCok (12, 389, 12, 3, 192, 0) := ⟨_, xma192, xpc192, by decide, xw1040, xw1041, xw1042, by decide, rfl⟩
theorem xpc194 : xpc yX12_isRing 1 := by decide +kernel
theorem xw1043 : Cond.methodLink "HatsDecideModel" 392 ⟨"HatsDecideModel", "isRing", "(I)Z"⟩ ∈ xW := xin (xt7 (i := 13) rfl) rfl
theorem xw1044 : Cond.instanceMethod ⟨"HatsDecideModel", "isRing", "(I)Z"⟩ ∈ xW := xin (xt7 (i := 15) rfl) rfl
theorem xw1045 : Cond.selects "HatsDecideModel" ⟨"HatsDecideModel", "isRing", "(I)Z"⟩ ⟨"HatsDecideModel", "isRing", "(I)Z"⟩ ∈ xW := xsel (i := 74) rfl
theorem xc186 : xCok (12, 392, 12, 3, 194, 1) := ⟨_, xma194, xpc194, by decide, xw1043, xw1044, xw1045, by decide, rfl⟩
theorem xpc196 : xpc yX12_gustedBy 1 := by decide +kernel
theorem xw1046 : Cond.methodLink "HatsDecideModel" 395 ⟨"HatsDecideModel", "gustedBy", "(I)I"⟩ ∈ xW := xin (xt7 (i := 21) rfl) rfl
theorem xw1047 : Cond.instanceMethod ⟨"HatsDecideModel", "gustedBy", "(I)I"⟩ ∈ xW := xin (xt7 (i := 23) rfl) rfl
theorem xw1048 : Cond.selects "HatsDecideModel" ⟨"HatsDecideModel", "gustedBy", "(I)I"⟩ ⟨"HatsDecideModel", "gustedBy", "(I)I"⟩ ∈ xW := xsel (i := 75) rfl
theorem xc187 : xCok (12, 395, 12, 3, 196, 1) := ⟨_, xma196, xpc196, by decide, xw1046, xw1047, xw1048, by decide, rfl⟩
theorem xpc203 : xpc yX12_woreOn 1 := by decide +kernel
theorem xw1049 : Cond.methodLink "HatsDecideModel" 398 ⟨"HatsDecideModel", "woreOn", "(I)I"⟩ ∈ xW := xin (xt7 (i := 49) rfl) rfl
theorem xw1050 : Cond.instanceMethod ⟨"HatsDecideModel", "woreOn", "(I)I"⟩ ∈ xW := xin (xt7 (i := 51) rfl) rfl
theorem xw1051 : Cond.selects "HatsDecideModel" ⟨"HatsDecideModel", "woreOn", "(I)I"⟩ ⟨"HatsDecideModel", "woreOn", "(I)I"⟩ ∈ xW := xsel (i := 76) rfl
theorem xc188 : xCok (12, 398, 12, 3, 203, 1) := ⟨_, xma203, xpc203, by decide, xw1049, xw1050, xw1051, by decide, rfl⟩
theorem xpc206 : xpc yX12_divisor 2 := by decide +kernel
theorem xw1052 : Cond.methodLink "HatsDecideModel" 401 ⟨"HatsDecideModel", "divisor", "(II)I"⟩ ∈ xW := xin (xt7 (i := 66) rfl) rfl
theorem xw1053 : Cond.instanceMethod ⟨"HatsDecideModel", "divisor", "(II)I"⟩ ∈ xW := xin (xt7 (i := 68) rfl) rfl
theorem xw1054 : Cond.selects "HatsDecideModel" ⟨"HatsDecideModel", "divisor", "(II)I"⟩ ⟨"HatsDecideModel", "divisor", "(II)I"⟩ ∈ xW := xsel (i := 78) rfl
theorem xc189 : xCok (12, 401, 12, 3, 206, 2) := ⟨_, xma206, xpc206, by decide, xw1052, xw1053, xw1054, by decide, rfl⟩
theorem xpc207 : xpc yX12_lowest 3 := by decide +kernel
theorem xw1055 : Cond.methodLink "HatsDecideModel" 406 ⟨"HatsDecideModel", "lowest", "(III)J"⟩ ∈ xW := xin (xt7 (i := 62) rfl) rfl
theorem xw1056 : Cond.instanceMethod ⟨"HatsDecideModel", "lowest", "(III)J"⟩ ∈ xW := xin (xt7 (i := 64) rfl) rfl
theorem xw1057 : Cond.selects "HatsDecideModel" ⟨"HatsDecideModel", "lowest", "(III)J"⟩ ⟨"HatsDecideModel", "lowest", "(III)J"⟩ ∈ xW := xsel (i := 77) rfl
theorem xc190 : xCok (12, 406, 12, 3, 207, 3) := ⟨_, xma207, xpc207, by decide, xw1055, xw1056, xw1057, by decide, rfl⟩
theorem xpc227 : xpc yX12_isTape 1 := by decide +kernel
theorem xw1058 : Cond.methodLink "HatsDecideModel" 410 ⟨"HatsDecideModel", "isTape", "(I)Z"⟩ ∈ xW := xin (xt7 (i := 86) rfl) rfl
theorem xw1059 : Cond.instanceMethod ⟨"HatsDecideModel", "isTape", "(I)Z"⟩ ∈ xW := xin (xt7 (i := 88) rfl) rfl
theorem xw1060 : Cond.selects "HatsDecideModel" ⟨"HatsDecideModel", "isTape", "(I)Z"⟩ ⟨"HatsDecideModel", "isTape", "(I)Z"⟩ ∈ xW := xsel (i := 79) rfl
theorem xc191 : xCok (12, 410, 12, 3, 227, 1) := ⟨_, xma227, xpc227, by decide, xw1058, xw1059, xw1060, by decide, rfl⟩
theorem xpc215 : xpc yX12_body 1 := by decide +kernel
theorem xw1061 : Cond.methodLink "HatsDecideModel" 413 ⟨"HatsDecideModel", "body", "(I)V"⟩ ∈ xW := xin (xt7 (i := 106) rfl) rfl
theorem xw1062 : Cond.instanceMethod ⟨"HatsDecideModel", "body", "(I)V"⟩ ∈ xW := xin (xt7 (i := 108) rfl) rfl
theorem xw1063 : Cond.selects "HatsDecideModel" ⟨"HatsDecideModel", "body", "(I)V"⟩ ⟨"HatsDecideModel", "body", "(I)V"⟩ ∈ xW := xsel (i := 81) rfl
theorem xc192 : xCok (12, 413, 12, 3, 215, 1) := ⟨_, xma215, xpc215, by decide, xw1061, xw1062, xw1063, by decide, rfl⟩
theorem xpc216 : xpc yX12_hatSits 2 := by decide +kernel
theorem xw1064 : Cond.methodLink "HatsDecideModel" 416 ⟨"HatsDecideModel", "hatSits", "(II)I"⟩ ∈ xW := xin (xt7 (i := 110) rfl) rfl
theorem xw1065 : Cond.instanceMethod ⟨"HatsDecideModel", "hatSits", "(II)I"⟩ ∈ xW := xin (xt7 (i := 112) rfl) rfl
theorem xw1066 : Cond.selects "HatsDecideModel" ⟨"HatsDecideModel", "hatSits", "(II)I"⟩ ⟨"HatsDecideModel", "hatSits", "(II)I"⟩ ∈ xW := xsel (i := 82) rfl
theorem xc193 : xCok (12, 416, 12, 3, 216, 2) := ⟨_, xma216, xpc216, by decide, xw1064, xw1065, xw1066, by decide, rfl⟩
theorem xpc217 : xpc yX12_sitsAct 2 := by decide +kernel
theorem xw1067 : Cond.methodLink "HatsDecideModel" 419 ⟨"HatsDecideModel", "sitsAct", "(II)I"⟩ ∈ xW := xin (xt7 (i := 102) rfl) rfl
theorem xw1068 : Cond.instanceMethod ⟨"HatsDecideModel", "sitsAct", "(II)I"⟩ ∈ xW := xin (xt7 (i := 104) rfl) rfl
theorem xw1069 : Cond.selects "HatsDecideModel" ⟨"HatsDecideModel", "sitsAct", "(II)I"⟩ ⟨"HatsDecideModel", "sitsAct", "(II)I"⟩ ∈ xW := xsel (i := 80) rfl
theorem xc194 : xCok (12, 419, 12, 3, 217, 2) := ⟨_, xma217, xpc217, by decide, xw1067, xw1068, xw1069, by decide, rfl⟩
theorem xpc218 : xpc yX12_hatDoes 2 := by decide +kernel
theorem xw1070 : Cond.methodLink "HatsDecideModel" 422 ⟨"HatsDecideModel", "hatDoes", "(II)I"⟩ ∈ xW := xin (xt7 (i := 122) rfl) rfl
theorem xw1071 : Cond.instanceMethod ⟨"HatsDecideModel", "hatDoes", "(II)I"⟩ ∈ xW := xin (xt7 (i := 124) rfl) rfl
theorem xw1072 : Cond.selects "HatsDecideModel" ⟨"HatsDecideModel", "hatDoes", "(II)I"⟩ ⟨"HatsDecideModel", "hatDoes", "(II)I"⟩ ∈ xW := xsel (i := 85) rfl
theorem xc195 : xCok (12, 422, 12, 3, 218, 2) := ⟨_, xma218, xpc218, by decide, xw1070, xw1071, xw1072, by decide, rfl⟩
theorem xpc219 : xpc yX12_tightDoes 2 := by decide +kernel
theorem xw1073 : Cond.methodLink "HatsDecideModel" 425 ⟨"HatsDecideModel", "tightDoes", "(II)I"⟩ ∈ xW := xin (xt7 (i := 118) rfl) rfl
theorem xw1074 : Cond.instanceMethod ⟨"HatsDecideModel", "tightDoes", "(II)I"⟩ ∈ xW := xin (xt7 (i := 120) rfl) rfl
theorem xw1075 : Cond.selects "HatsDecideModel" ⟨"HatsDecideModel", "tightDoes", "(II)I"⟩ ⟨"HatsDecideModel", "tightDoes", "(II)I"⟩ ∈ xW := xsel (i := 84) rfl
theorem xc196 : xCok (12, 425, 12, 3, 219, 2) := ⟨_, xma219, xpc219, by decide, xw1073, xw1074, xw1075, by decide, rfl⟩
theorem xpc220 : xpc yX12_doesAct 2 := by decide +kernel
theorem xw1076 : Cond.methodLink "HatsDecideModel" 428 ⟨"HatsDecideModel", "doesAct", "(II)I"⟩ ∈ xW := xin (xt7 (i := 114) rfl) rfl
theorem xw1077 : Cond.instanceMethod ⟨"HatsDecideModel", "doesAct", "(II)I"⟩ ∈ xW := xin (xt7 (i := 116) rfl) rfl
theorem xw1078 : Cond.selects "HatsDecideModel" ⟨"HatsDecideModel", "doesAct", "(II)I"⟩ ⟨"HatsDecideModel", "doesAct", "(II)I"⟩ ∈ xW := xsel (i := 83) rfl
theorem xc197 : xCok (12, 428, 12, 3, 220, 2) := ⟨_, xma220, xpc220, by decide, xw1076, xw1077, xw1078, by decide, rfl⟩
theorem xpc221 : xpc yX12_hatTells 2 := by decide +kernel
theorem xw1079 : Cond.methodLink "HatsDecideModel" 431 ⟨"HatsDecideModel", "hatTells", "(II)I"⟩ ∈ xW := xin (xt7 (i := 130) rfl) rfl
theorem xw1080 : Cond.instanceMethod ⟨"HatsDecideModel", "hatTells", "(II)I"⟩ ∈ xW := xin (xt7 (i := 132) rfl) rfl
theorem xw1081 : Cond.selects "HatsDecideModel" ⟨"HatsDecideModel", "hatTells", "(II)I"⟩ ⟨"HatsDecideModel", "hatTells", "(II)I"⟩ ∈ xW := xsel (i := 87) rfl
theorem xc198 : xCok (12, 431, 12, 3, 221, 2) := ⟨_, xma221, xpc221, by decide, xw1079, xw1080, xw1081, by decide, rfl⟩
theorem xpc222 : xpc yX12_tellsAct 2 := by decide +kernel
theorem xw1082 : Cond.methodLink "HatsDecideModel" 434 ⟨"HatsDecideModel", "tellsAct", "(II)I"⟩ ∈ xW := xin (xt7 (i := 126) rfl) rfl
theorem xw1083 : Cond.instanceMethod ⟨"HatsDecideModel", "tellsAct", "(II)I"⟩ ∈ xW := xin (xt7 (i := 128) rfl) rfl
theorem xw1084 : Cond.selects "HatsDecideModel" ⟨"HatsDecideModel", "tellsAct", "(II)I"⟩ ⟨"HatsDecideModel", "tellsAct", "(II)I"⟩ ∈ xW := xsel (i := 86) rfl
theorem xc199 : xCok (12, 434, 12, 3, 222, 2) := ⟨_, xma222, xpc222, by decide, xw1082, xw1083, xw1084, by decide, rfl⟩
theorem xpc229 : xpc yX12_narrow 2 := by decide +kernel
theorem xw1085 : Cond.methodLink "HatsDecideModel" 437 ⟨"HatsDecideModel", "narrow", "(IJ)J"⟩ ∈ xW := xin (xt7 (i := 154) rfl) rfl
theorem xw1086 : Cond.instanceMethod ⟨"HatsDecideModel", "narrow", "(IJ)J"⟩ ∈ xW := xin (xt7 (i := 156) rfl) rfl
theorem xw1087 : Cond.selects "HatsDecideModel" ⟨"HatsDecideModel", "narrow", "(IJ)J"⟩ ⟨"HatsDecideModel", "narrow", "(IJ)J"⟩ ∈ xW := xsel (i := 88) rfl
theorem xc200 : xCok (12, 437, 12, 3, 229, 2) := ⟨_, xma229, xpc229, by decide, xw1085, xw1086, xw1087, by decide, rfl⟩
theorem xpc54 : xpc yX11_init 0 := by decide +kernel
theorem xw1088 : Cond.methodLink "HatsDecideLaw" 9 ⟨"HatsDecide", "<init>", "()V"⟩ ∈ xW := xin (xt1 (i := 24) rfl) rfl
theorem xw1089 : Cond.instanceMethod ⟨"HatsDecide", "<init>", "()V"⟩ ∈ xW := xin (xt1 (i := 25) rfl) rfl
theorem xc201 : xCok (13, 9, 99, 1, 54, 0) := ⟨_, xma54, xpc54, by decide, xw1088, xw1089, rfl⟩
theorem xpc128 : xpc yX12_init 0 := by decide +kernel
theorem xw1090 : Cond.methodLink "HatsDecideLaw" 12 ⟨"HatsDecideModel", "<init>", "()V"⟩ ∈ xW := xin (xt4 (i := 227) rfl) rfl
theorem xw1091 : Cond.instanceMethod ⟨"HatsDecideModel", "<init>", "()V"⟩ ∈ xW := xin (xt4 (i := 228) rfl) rfl
theorem xc202 : xCok (13, 12, 99, 1, 128, 0) := ⟨_, xma128, xpc128, by decide, xw1090, xw1091, rfl⟩
theorem xpc55 : xpc yX11_head 1 := by decide +kernel
theorem xw1092 : Cond.methodLink "HatsDecideLaw" 13 ⟨"HatsDecide", "head", "(I)I"⟩ ∈ xW := xin (xt2 (i := 11) rfl) rfl
theorem xw1093 : Cond.instanceMethod ⟨"HatsDecide", "head", "(I)I"⟩ ∈ xW := xin (xt2 (i := 12) rfl) rfl
theorem xw1094 : Cond.selects "HatsDecide" ⟨"HatsDecide", "head", "(I)I"⟩ ⟨"HatsDecide", "head", "(I)I"⟩ ∈ xW := xin (xt2 (i := 13) rfl) rfl
theorem xc203 : xCok (13, 13, 11, 3, 55, 1) := ⟨_, xma55, xpc55, by decide, xw1092, xw1093, xw1094, by decide, rfl⟩
theorem xpc136 : xpc yX12_head 1 := by decide +kernel
theorem xw1095 : Cond.methodLink "HatsDecideLaw" 17 ⟨"HatsDecideModel", "head", "(I)I"⟩ ∈ xW := xin (xt5 (i := 227) rfl) rfl
theorem xw1096 : Cond.instanceMethod ⟨"HatsDecideModel", "head", "(I)I"⟩ ∈ xW := xin (xt5 (i := 228) rfl) rfl
theorem xw1097 : Cond.selects "HatsDecideModel" ⟨"HatsDecideModel", "head", "(I)I"⟩ ⟨"HatsDecideModel", "head", "(I)I"⟩ ∈ xW := xin (xt5 (i := 229) rfl) rfl
theorem xc204 : xCok (13, 17, 12, 3, 136, 1) := ⟨_, xma136, xpc136, by decide, xw1095, xw1096, xw1097, by decide, rfl⟩
theorem xpc56 : xpc yX11_hat 5 := by decide +kernel
theorem xw1098 : Cond.methodLink "HatsDecideLaw" 18 ⟨"HatsDecide", "hat", "(IIIII)I"⟩ ∈ xW := xin (xt2 (i := 21) rfl) rfl
theorem xw1099 : Cond.instanceMethod ⟨"HatsDecide", "hat", "(IIIII)I"⟩ ∈ xW := xin (xt2 (i := 22) rfl) rfl
theorem xw1100 : Cond.selects "HatsDecide" ⟨"HatsDecide", "hat", "(IIIII)I"⟩ ⟨"HatsDecide", "hat", "(IIIII)I"⟩ ∈ xW := xin (xt2 (i := 23) rfl) rfl
theorem xc205 : xCok (13, 18, 11, 3, 56, 5) := ⟨_, xma56, xpc56, by decide, xw1098, xw1099, xw1100, by decide, rfl⟩
theorem xpc137 : xpc yX12_hat 5 := by decide +kernel
theorem xw1101 : Cond.methodLink "HatsDecideLaw" 22 ⟨"HatsDecideModel", "hat", "(IIIII)I"⟩ ∈ xW := xin (xt5 (i := 235) rfl) rfl
theorem xw1102 : Cond.instanceMethod ⟨"HatsDecideModel", "hat", "(IIIII)I"⟩ ∈ xW := xin (xt5 (i := 236) rfl) rfl
theorem xw1103 : Cond.selects "HatsDecideModel" ⟨"HatsDecideModel", "hat", "(IIIII)I"⟩ ⟨"HatsDecideModel", "hat", "(IIIII)I"⟩ ∈ xW := xin (xt5 (i := 237) rfl) rfl
theorem xc206 : xCok (13, 22, 12, 3, 137, 5) := ⟨_, xma137, xpc137, by decide, xw1101, xw1102, xw1103, by decide, rfl⟩
theorem xpc58 : xpc yX11_of 2 := by decide +kernel
theorem xw1104 : Cond.methodLink "HatsDecideLaw" 23 ⟨"HatsDecide", "of", "(II)I"⟩ ∈ xW := xin (xt2 (i := 159) rfl) rfl
theorem xw1105 : Cond.instanceMethod ⟨"HatsDecide", "of", "(II)I"⟩ ∈ xW := xin (xt2 (i := 160) rfl) rfl
theorem xw1106 : Cond.selects "HatsDecide" ⟨"HatsDecide", "of", "(II)I"⟩ ⟨"HatsDecide", "of", "(II)I"⟩ ∈ xW := xin (xt2 (i := 161) rfl) rfl
theorem xc207 : xCok (13, 23, 11, 3, 58, 2) := ⟨_, xma58, xpc58, by decide, xw1104, xw1105, xw1106, by decide, rfl⟩
theorem xpc168 : xpc yX12_of 2 := by decide +kernel
theorem xw1107 : Cond.methodLink "HatsDecideLaw" 27 ⟨"HatsDecideModel", "of", "(II)I"⟩ ∈ xW := xin (xt6 (i := 99) rfl) rfl
theorem xw1108 : Cond.instanceMethod ⟨"HatsDecideModel", "of", "(II)I"⟩ ∈ xW := xin (xt6 (i := 100) rfl) rfl
theorem xw1109 : Cond.selects "HatsDecideModel" ⟨"HatsDecideModel", "of", "(II)I"⟩ ⟨"HatsDecideModel", "of", "(II)I"⟩ ∈ xW := xin (xt6 (i := 101) rfl) rfl
theorem xc208 : xCok (13, 27, 12, 3, 168, 2) := ⟨_, xma168, xpc168, by decide, xw1107, xw1108, xw1109, by decide, rfl⟩
theorem xpc59 : xpc yX11_at 2 := by decide +kernel
theorem xw1110 : Cond.methodLink "HatsDecideLaw" 28 ⟨"HatsDecide", "at", "(II)I"⟩ ∈ xW := xin (xt3 (i := 4) rfl) rfl
theorem xw1111 : Cond.instanceMethod ⟨"HatsDecide", "at", "(II)I"⟩ ∈ xW := xin (xt3 (i := 5) rfl) rfl
theorem xw1112 : Cond.selects "HatsDecide" ⟨"HatsDecide", "at", "(II)I"⟩ ⟨"HatsDecide", "at", "(II)I"⟩ ∈ xW := xin (xt3 (i := 6) rfl) rfl
theorem xc209 : xCok (13, 28, 11, 3, 59, 2) := ⟨_, xma59, xpc59, by decide, xw1110, xw1111, xw1112, by decide, rfl⟩
theorem xpc169 : xpc yX12_at 2 := by decide +kernel
theorem xw1113 : Cond.methodLink "HatsDecideLaw" 31 ⟨"HatsDecideModel", "at", "(II)I"⟩ ∈ xW := xin (xt6 (i := 139) rfl) rfl
theorem xw1114 : Cond.instanceMethod ⟨"HatsDecideModel", "at", "(II)I"⟩ ∈ xW := xin (xt6 (i := 140) rfl) rfl
theorem xw1115 : Cond.selects "HatsDecideModel" ⟨"HatsDecideModel", "at", "(II)I"⟩ ⟨"HatsDecideModel", "at", "(II)I"⟩ ∈ xW := xin (xt6 (i := 141) rfl) rfl
theorem xc210 : xCok (13, 31, 12, 3, 169, 2) := ⟨_, xma169, xpc169, by decide, xw1113, xw1114, xw1115, by decide, rfl⟩
theorem xpc60 : xpc yX11_row 3 := by decide +kernel
theorem xw1116 : Cond.methodLink "HatsDecideLaw" 32 ⟨"HatsDecide", "row", "(III)I"⟩ ∈ xW := xin (xt3 (i := 8) rfl) rfl
theorem xw1117 : Cond.instanceMethod ⟨"HatsDecide", "row", "(III)I"⟩ ∈ xW := xin (xt3 (i := 9) rfl) rfl
theorem xw1118 : Cond.selects "HatsDecide" ⟨"HatsDecide", "row", "(III)I"⟩ ⟨"HatsDecide", "row", "(III)I"⟩ ∈ xW := xin (xt3 (i := 10) rfl) rfl
theorem xc211 : xCok (13, 32, 11, 3, 60, 3) := ⟨_, xma60, xpc60, by decide, xw1116, xw1117, xw1118, by decide, rfl⟩
theorem xpc139 : xpc yX12_row 3 := by decide +kernel
theorem xw1119 : Cond.methodLink "HatsDecideLaw" 36 ⟨"HatsDecideModel", "row", "(III)I"⟩ ∈ xW := xin (xt6 (i := 3) rfl) rfl
theorem xw1120 : Cond.instanceMethod ⟨"HatsDecideModel", "row", "(III)I"⟩ ∈ xW := xin (xt6 (i := 4) rfl) rfl
theorem xw1121 : Cond.selects "HatsDecideModel" ⟨"HatsDecideModel", "row", "(III)I"⟩ ⟨"HatsDecideModel", "row", "(III)I"⟩ ∈ xW := xin (xt6 (i := 5) rfl) rfl
theorem xc212 : xCok (13, 36, 12, 3, 139, 3) := ⟨_, xma139, xpc139, by decide, xw1119, xw1120, xw1121, by decide, rfl⟩
theorem xpc61 : xpc yX11_put 2 := by decide +kernel
theorem xw1122 : Cond.methodLink "HatsDecideLaw" 37 ⟨"HatsDecide", "put", "(II)I"⟩ ∈ xW := xin (xt3 (i := 12) rfl) rfl
theorem xw1123 : Cond.instanceMethod ⟨"HatsDecide", "put", "(II)I"⟩ ∈ xW := xin (xt3 (i := 13) rfl) rfl
theorem xw1124 : Cond.selects "HatsDecide" ⟨"HatsDecide", "put", "(II)I"⟩ ⟨"HatsDecide", "put", "(II)I"⟩ ∈ xW := xin (xt3 (i := 14) rfl) rfl
theorem xc213 : xCok (13, 37, 11, 3, 61, 2) := ⟨_, xma61, xpc61, by decide, xw1122, xw1123, xw1124, by decide, rfl⟩
theorem xpc140 : xpc yX12_put 2 := by decide +kernel
theorem xw1125 : Cond.methodLink "HatsDecideLaw" 40 ⟨"HatsDecideModel", "put", "(II)I"⟩ ∈ xW := xin (xt6 (i := 11) rfl) rfl
theorem xw1126 : Cond.instanceMethod ⟨"HatsDecideModel", "put", "(II)I"⟩ ∈ xW := xin (xt6 (i := 12) rfl) rfl
theorem xw1127 : Cond.selects "HatsDecideModel" ⟨"HatsDecideModel", "put", "(II)I"⟩ ⟨"HatsDecideModel", "put", "(II)I"⟩ ∈ xW := xin (xt6 (i := 13) rfl) rfl
theorem xc214 : xCok (13, 40, 12, 3, 140, 2) := ⟨_, xma140, xpc140, by decide, xw1125, xw1126, xw1127, by decide, rfl⟩
theorem xpc62 : xpc yX11_own 2 := by decide +kernel
theorem xw1128 : Cond.methodLink "HatsDecideLaw" 41 ⟨"HatsDecide", "own", "(II)I"⟩ ∈ xW := xin (xt3 (i := 20) rfl) rfl
theorem xw1129 : Cond.instanceMethod ⟨"HatsDecide", "own", "(II)I"⟩ ∈ xW := xin (xt3 (i := 21) rfl) rfl
theorem xw1130 : Cond.selects "HatsDecide" ⟨"HatsDecide", "own", "(II)I"⟩ ⟨"HatsDecide", "own", "(II)I"⟩ ∈ xW := xin (xt3 (i := 22) rfl) rfl
theorem xc215 : xCok (13, 41, 11, 3, 62, 2) := ⟨_, xma62, xpc62, by decide, xw1128, xw1129, xw1130, by decide, rfl⟩
theorem xpc141 : xpc yX12_own 2 := by decide +kernel
theorem xw1131 : Cond.methodLink "HatsDecideLaw" 44 ⟨"HatsDecideModel", "own", "(II)I"⟩ ∈ xW := xin (xt6 (i := 23) rfl) rfl
theorem xw1132 : Cond.instanceMethod ⟨"HatsDecideModel", "own", "(II)I"⟩ ∈ xW := xin (xt6 (i := 24) rfl) rfl
theorem xw1133 : Cond.selects "HatsDecideModel" ⟨"HatsDecideModel", "own", "(II)I"⟩ ⟨"HatsDecideModel", "own", "(II)I"⟩ ∈ xW := xin (xt6 (i := 25) rfl) rfl
theorem xc216 : xCok (13, 44, 12, 3, 141, 2) := ⟨_, xma141, xpc141, by decide, xw1131, xw1132, xw1133, by decide, rfl⟩
theorem xpc63 : xpc yX11_skill 2 := by decide +kernel
theorem xw1134 : Cond.methodLink "HatsDecideLaw" 45 ⟨"HatsDecide", "skill", "(II)I"⟩ ∈ xW := xin (xt3 (i := 24) rfl) rfl
theorem xw1135 : Cond.instanceMethod ⟨"HatsDecide", "skill", "(II)I"⟩ ∈ xW := xin (xt3 (i := 25) rfl) rfl
theorem xw1136 : Cond.selects "HatsDecide" ⟨"HatsDecide", "skill", "(II)I"⟩ ⟨"HatsDecide", "skill", "(II)I"⟩ ∈ xW := xin (xt3 (i := 26) rfl) rfl
theorem xc217 : xCok (13, 45, 11, 3, 63, 2) := ⟨_, xma63, xpc63, by decide, xw1134, xw1135, xw1136, by decide, rfl⟩
theorem xpc142 : xpc yX12_skill 2 := by decide +kernel
theorem xw1137 : Cond.methodLink "HatsDecideLaw" 48 ⟨"HatsDecideModel", "skill", "(II)I"⟩ ∈ xW := xin (xt6 (i := 31) rfl) rfl
theorem xw1138 : Cond.instanceMethod ⟨"HatsDecideModel", "skill", "(II)I"⟩ ∈ xW := xin (xt6 (i := 32) rfl) rfl
theorem xw1139 : Cond.selects "HatsDecideModel" ⟨"HatsDecideModel", "skill", "(II)I"⟩ ⟨"HatsDecideModel", "skill", "(II)I"⟩ ∈ xW := xin (xt6 (i := 33) rfl) rfl
theorem xc218 : xCok (13, 48, 12, 3, 142, 2) := ⟨_, xma142, xpc142, by decide, xw1137, xw1138, xw1139, by decide, rfl⟩
theorem xpc64 : xpc yX11_feed 1 := by decide +kernel
theorem xw1140 : Cond.methodLink "HatsDecideLaw" 49 ⟨"HatsDecide", "feed", "(I)I"⟩ ∈ xW := xin (xt3 (i := 28) rfl) rfl
theorem xw1141 : Cond.instanceMethod ⟨"HatsDecide", "feed", "(I)I"⟩ ∈ xW := xin (xt3 (i := 29) rfl) rfl
theorem xw1142 : Cond.selects "HatsDecide" ⟨"HatsDecide", "feed", "(I)I"⟩ ⟨"HatsDecide", "feed", "(I)I"⟩ ∈ xW := xin (xt3 (i := 30) rfl) rfl
theorem xc219 : xCok (13, 49, 11, 3, 64, 1) := ⟨_, xma64, xpc64, by decide, xw1140, xw1141, xw1142, by decide, rfl⟩
theorem xpc143 : xpc yX12_feed 1 := by decide +kernel
theorem xw1143 : Cond.methodLink "HatsDecideLaw" 52 ⟨"HatsDecideModel", "feed", "(I)I"⟩ ∈ xW := xin (xt6 (i := 35) rfl) rfl
theorem xw1144 : Cond.instanceMethod ⟨"HatsDecideModel", "feed", "(I)I"⟩ ∈ xW := xin (xt6 (i := 36) rfl) rfl
theorem xw1145 : Cond.selects "HatsDecideModel" ⟨"HatsDecideModel", "feed", "(I)I"⟩ ⟨"HatsDecideModel", "feed", "(I)I"⟩ ∈ xW := xin (xt6 (i := 37) rfl) rfl
theorem xc220 : xCok (13, 52, 12, 3, 143, 1) := ⟨_, xma143, xpc143, by decide, xw1143, xw1144, xw1145, by decide, rfl⟩
theorem xpc65 : xpc yX11_town 0 := by decide +kernel
theorem xw1146 : Cond.methodLink "HatsDecideLaw" 53 ⟨"HatsDecide", "town", "()I"⟩ ∈ xW := xin (xt3 (i := 32) rfl) rfl
theorem xw1147 : Cond.instanceMethod ⟨"HatsDecide", "town", "()I"⟩ ∈ xW := xin (xt3 (i := 33) rfl) rfl
theorem xw1148 : Cond.selects "HatsDecide" ⟨"HatsDecide", "town", "()I"⟩ ⟨"HatsDecide", "town", "()I"⟩ ∈ xW := xin (xt3 (i := 34) rfl) rfl
theorem xc221 : xCok (13, 53, 11, 3, 65, 0) := ⟨_, xma65, xpc65, by decide, xw1146, xw1147, xw1148, by decide, rfl⟩
theorem xpc158 : xpc yX12_town 0 := by decide +kernel
theorem xw1149 : Cond.methodLink "HatsDecideLaw" 57 ⟨"HatsDecideModel", "town", "()I"⟩ ∈ xW := xin (xt6 (i := 39) rfl) rfl
theorem xw1150 : Cond.instanceMethod ⟨"HatsDecideModel", "town", "()I"⟩ ∈ xW := xin (xt6 (i := 40) rfl) rfl
theorem xw1151 : Cond.selects "HatsDecideModel" ⟨"HatsDecideModel", "town", "()I"⟩ ⟨"HatsDecideModel", "town", "()I"⟩ ∈ xW := xin (xt6 (i := 41) rfl) rfl
theorem xc222 : xCok (13, 57, 12, 3, 158, 0) := ⟨_, xma158, xpc158, by decide, xw1149, xw1150, xw1151, by decide, rfl⟩
theorem xpc66 : xpc yX11_told 1 := by decide +kernel
theorem xw1152 : Cond.methodLink "HatsDecideLaw" 58 ⟨"HatsDecide", "told", "(I)I"⟩ ∈ xW := xin (xt3 (i := 121) rfl) rfl
theorem xw1153 : Cond.instanceMethod ⟨"HatsDecide", "told", "(I)I"⟩ ∈ xW := xin (xt3 (i := 122) rfl) rfl
theorem xw1154 : Cond.selects "HatsDecide" ⟨"HatsDecide", "told", "(I)I"⟩ ⟨"HatsDecide", "told", "(I)I"⟩ ∈ xW := xin (xt3 (i := 123) rfl) rfl
theorem xc223 : xCok (13, 58, 11, 3, 66, 1) := ⟨_, xma66, xpc66, by decide, xw1152, xw1153, xw1154, by decide, rfl⟩
theorem xpc170 : xpc yX12_told 1 := by decide +kernel
theorem xw1155 : Cond.methodLink "HatsDecideLaw" 61 ⟨"HatsDecideModel", "told", "(I)I"⟩ ∈ xW := xin (xt6 (i := 143) rfl) rfl
theorem xw1156 : Cond.instanceMethod ⟨"HatsDecideModel", "told", "(I)I"⟩ ∈ xW := xin (xt6 (i := 144) rfl) rfl
theorem xw1157 : Cond.selects "HatsDecideModel" ⟨"HatsDecideModel", "told", "(I)I"⟩ ⟨"HatsDecideModel", "told", "(I)I"⟩ ∈ xW := xin (xt6 (i := 145) rfl) rfl
theorem xc224 : xCok (13, 61, 12, 3, 170, 1) := ⟨_, xma170, xpc170, by decide, xw1155, xw1156, xw1157, by decide, rfl⟩
theorem xpc67 : xpc yX11_day 0 := by decide +kernel
theorem xw1158 : Cond.methodLink "HatsDecideLaw" 62 ⟨"HatsDecide", "day", "()I"⟩ ∈ xW := xin (xt3 (i := 129) rfl) rfl
theorem xw1159 : Cond.instanceMethod ⟨"HatsDecide", "day", "()I"⟩ ∈ xW := xin (xt3 (i := 130) rfl) rfl
theorem xw1160 : Cond.selects "HatsDecide" ⟨"HatsDecide", "day", "()I"⟩ ⟨"HatsDecide", "day", "()I"⟩ ∈ xW := xin (xt3 (i := 131) rfl) rfl
theorem xc225 : xCok (13, 62, 11, 3, 67, 0) := ⟨_, xma67, xpc67, by decide, xw1158, xw1159, xw1160, by decide, rfl⟩
theorem xpc173 : xpc yX12_day 0 := by decide +kernel
theorem xw1161 : Cond.methodLink "HatsDecideLaw" 65 ⟨"HatsDecideModel", "day", "()I"⟩ ∈ xW := xin (xt6 (i := 151) rfl) rfl
theorem xw1162 : Cond.instanceMethod ⟨"HatsDecideModel", "day", "()I"⟩ ∈ xW := xin (xt6 (i := 152) rfl) rfl
theorem xw1163 : Cond.selects "HatsDecideModel" ⟨"HatsDecideModel", "day", "()I"⟩ ⟨"HatsDecideModel", "day", "()I"⟩ ∈ xW := xin (xt6 (i := 153) rfl) rfl
theorem xc226 : xCok (13, 65, 12, 3, 173, 0) := ⟨_, xma173, xpc173, by decide, xw1161, xw1162, xw1163, by decide, rfl⟩
theorem xpc68 : xpc yX11_gust 1 := by decide +kernel
theorem xw1164 : Cond.methodLink "HatsDecideLaw" 66 ⟨"HatsDecide", "gust", "(I)I"⟩ ∈ xW := xin (xt3 (i := 139) rfl) rfl
theorem xw1165 : Cond.instanceMethod ⟨"HatsDecide", "gust", "(I)I"⟩ ∈ xW := xin (xt3 (i := 140) rfl) rfl
theorem xw1166 : Cond.selects "HatsDecide" ⟨"HatsDecide", "gust", "(I)I"⟩ ⟨"HatsDecide", "gust", "(I)I"⟩ ∈ xW := xin (xt3 (i := 141) rfl) rfl
theorem xc227 : xCok (13, 66, 11, 3, 68, 1) := ⟨_, xma68, xpc68, by decide, xw1164, xw1165, xw1166, by decide, rfl⟩
theorem xpc175 : xpc yX12_gust 1 := by decide +kernel
theorem xw1167 : Cond.methodLink "HatsDecideLaw" 69 ⟨"HatsDecideModel", "gust", "(I)I"⟩ ∈ xW := xin (xt6 (i := 164) rfl) rfl
theorem xw1168 : Cond.instanceMethod ⟨"HatsDecideModel", "gust", "(I)I"⟩ ∈ xW := xin (xt6 (i := 165) rfl) rfl
theorem xw1169 : Cond.selects "HatsDecideModel" ⟨"HatsDecideModel", "gust", "(I)I"⟩ ⟨"HatsDecideModel", "gust", "(I)I"⟩ ∈ xW := xin (xt6 (i := 166) rfl) rfl
theorem xc228 : xCok (13, 69, 12, 3, 175, 1) := ⟨_, xma175, xpc175, by decide, xw1167, xw1168, xw1169, by decide, rfl⟩
theorem xpc69 : xpc yX11_change 2 := by decide +kernel
theorem xw1170 : Cond.methodLink "HatsDecideLaw" 70 ⟨"HatsDecide", "change", "(II)I"⟩ ∈ xW := xin (xt3 (i := 149) rfl) rfl
theorem xw1171 : Cond.instanceMethod ⟨"HatsDecide", "change", "(II)I"⟩ ∈ xW := xin (xt3 (i := 150) rfl) rfl
theorem xw1172 : Cond.selects "HatsDecide" ⟨"HatsDecide", "change", "(II)I"⟩ ⟨"HatsDecide", "change", "(II)I"⟩ ∈ xW := xin (xt3 (i := 151) rfl) rfl
theorem xc229 : xCok (13, 70, 11, 3, 69, 2) := ⟨_, xma69, xpc69, by decide, xw1170, xw1171, xw1172, by decide, rfl⟩
theorem xpc177 : xpc yX12_change 2 := by decide +kernel
theorem xw1173 : Cond.methodLink "HatsDecideLaw" 73 ⟨"HatsDecideModel", "change", "(II)I"⟩ ∈ xW := xin (xt6 (i := 172) rfl) rfl
theorem xw1174 : Cond.instanceMethod ⟨"HatsDecideModel", "change", "(II)I"⟩ ∈ xW := xin (xt6 (i := 173) rfl) rfl
theorem xw1175 : Cond.selects "HatsDecideModel" ⟨"HatsDecideModel", "change", "(II)I"⟩ ⟨"HatsDecideModel", "change", "(II)I"⟩ ∈ xW := xin (xt6 (i := 174) rfl) rfl
theorem xc230 : xCok (13, 73, 12, 3, 177, 2) := ⟨_, xma177, xpc177, by decide, xw1173, xw1174, xw1175, by decide, rfl⟩
theorem xpc70 : xpc yX11_today 1 := by decide +kernel
theorem xw1176 : Cond.methodLink "HatsDecideLaw" 74 ⟨"HatsDecide", "today", "(I)I"⟩ ∈ xW := xin (xt3 (i := 153) rfl) rfl
theorem xw1177 : Cond.instanceMethod ⟨"HatsDecide", "today", "(I)I"⟩ ∈ xW := xin (xt3 (i := 154) rfl) rfl
theorem xw1178 : Cond.selects "HatsDecide" ⟨"HatsDecide", "today", "(I)I"⟩ ⟨"HatsDecide", "today", "(I)I"⟩ ∈ xW := xin (xt3 (i := 155) rfl) rfl
theorem xc231 : xCok (13, 74, 11, 3, 70, 1) := ⟨_, xma70, xpc70, by decide, xw1176, xw1177, xw1178, by decide, rfl⟩
theorem xpc178 : xpc yX12_today 1 := by decide +kernel
theorem xw1179 : Cond.methodLink "HatsDecideLaw" 77 ⟨"HatsDecideModel", "today", "(I)I"⟩ ∈ xW := xin (xt6 (i := 180) rfl) rfl
theorem xw1180 : Cond.instanceMethod ⟨"HatsDecideModel", "today", "(I)I"⟩ ∈ xW := xin (xt6 (i := 181) rfl) rfl
theorem xw1181 : Cond.selects "HatsDecideModel" ⟨"HatsDecideModel", "today", "(I)I"⟩ ⟨"HatsDecideModel", "today", "(I)I"⟩ ∈ xW := xin (xt6 (i := 182) rfl) rfl
theorem xc232 : xCok (13, 77, 12, 3, 178, 1) := ⟨_, xma178, xpc178, by decide, xw1179, xw1180, xw1181, by decide, rfl⟩
theorem xpc71 : xpc yX11_enough 0 := by decide +kernel
theorem xw1182 : Cond.methodLink "HatsDecideLaw" 78 ⟨"HatsDecide", "enough", "()I"⟩ ∈ xW := xin (xt3 (i := 157) rfl) rfl
theorem xw1183 : Cond.instanceMethod ⟨"HatsDecide", "enough", "()I"⟩ ∈ xW := xin (xt3 (i := 158) rfl) rfl
theorem xw1184 : Cond.selects "HatsDecide" ⟨"HatsDecide", "enough", "()I"⟩ ⟨"HatsDecide", "enough", "()I"⟩ ∈ xW := xin (xt3 (i := 159) rfl) rfl
theorem xc233 : xCok (13, 78, 11, 3, 71, 0) := ⟨_, xma71, xpc71, by decide, xw1182, xw1183, xw1184, by decide, rfl⟩
theorem xpc179 : xpc yX12_enough 0 := by decide +kernel
theorem xw1185 : Cond.methodLink "HatsDecideLaw" 81 ⟨"HatsDecideModel", "enough", "()I"⟩ ∈ xW := xin (xt6 (i := 184) rfl) rfl
theorem xw1186 : Cond.instanceMethod ⟨"HatsDecideModel", "enough", "()I"⟩ ∈ xW := xin (xt6 (i := 185) rfl) rfl
theorem xw1187 : Cond.selects "HatsDecideModel" ⟨"HatsDecideModel", "enough", "()I"⟩ ⟨"HatsDecideModel", "enough", "()I"⟩ ∈ xW := xin (xt6 (i := 186) rfl) rfl
theorem xc234 : xCok (13, 81, 12, 3, 179, 0) := ⟨_, xma179, xpc179, by decide, xw1185, xw1186, xw1187, by decide, rfl⟩
theorem xpc72 : xpc yX11_best 1 := by decide +kernel
theorem xw1188 : Cond.methodLink "HatsDecideLaw" 82 ⟨"HatsDecide", "best", "(I)I"⟩ ∈ xW := xin (xt3 (i := 165) rfl) rfl
theorem xw1189 : Cond.instanceMethod ⟨"HatsDecide", "best", "(I)I"⟩ ∈ xW := xin (xt3 (i := 166) rfl) rfl
theorem xw1190 : Cond.selects "HatsDecide" ⟨"HatsDecide", "best", "(I)I"⟩ ⟨"HatsDecide", "best", "(I)I"⟩ ∈ xW := xin (xt3 (i := 167) rfl) rfl
theorem xc235 : xCok (13, 82, 11, 3, 72, 1) := ⟨_, xma72, xpc72, by decide, xw1188, xw1189, xw1190, by decide, rfl⟩
theorem xpc180 : xpc yX12_best 1 := by decide +kernel
theorem xw1191 : Cond.methodLink "HatsDecideLaw" 85 ⟨"HatsDecideModel", "best", "(I)I"⟩ ∈ xW := xin (xt6 (i := 188) rfl) rfl
theorem xw1192 : Cond.instanceMethod ⟨"HatsDecideModel", "best", "(I)I"⟩ ∈ xW := xin (xt6 (i := 189) rfl) rfl
theorem xw1193 : Cond.selects "HatsDecideModel" ⟨"HatsDecideModel", "best", "(I)I"⟩ ⟨"HatsDecideModel", "best", "(I)I"⟩ ∈ xW := xin (xt6 (i := 190) rfl) rfl
theorem xc236 : xCok (13, 85, 12, 3, 180, 1) := ⟨_, xma180, xpc180, by decide, xw1191, xw1192, xw1193, by decide, rfl⟩
theorem xpc73 : xpc yX11_on 2 := by decide +kernel
theorem xw1194 : Cond.methodLink "HatsDecideLaw" 86 ⟨"HatsDecide", "on", "(II)I"⟩ ∈ xW := xin (xt3 (i := 169) rfl) rfl
theorem xw1195 : Cond.instanceMethod ⟨"HatsDecide", "on", "(II)I"⟩ ∈ xW := xin (xt3 (i := 170) rfl) rfl
theorem xw1196 : Cond.selects "HatsDecide" ⟨"HatsDecide", "on", "(II)I"⟩ ⟨"HatsDecide", "on", "(II)I"⟩ ∈ xW := xin (xt3 (i := 171) rfl) rfl
theorem xc237 : xCok (13, 86, 11, 3, 73, 2) := ⟨_, xma73, xpc73, by decide, xw1194, xw1195, xw1196, by decide, rfl⟩
theorem xpc183 : xpc yX12_on 2 := by decide +kernel
theorem xw1197 : Cond.methodLink "HatsDecideLaw" 89 ⟨"HatsDecideModel", "on", "(II)I"⟩ ∈ xW := xin (xt6 (i := 192) rfl) rfl
theorem xw1198 : Cond.instanceMethod ⟨"HatsDecideModel", "on", "(II)I"⟩ ∈ xW := xin (xt6 (i := 193) rfl) rfl
theorem xw1199 : Cond.selects "HatsDecideModel" ⟨"HatsDecideModel", "on", "(II)I"⟩ ⟨"HatsDecideModel", "on", "(II)I"⟩ ∈ xW := xin (xt6 (i := 194) rfl) rfl
theorem xc238 : xCok (13, 89, 12, 3, 183, 2) := ⟨_, xma183, xpc183, by decide, xw1197, xw1198, xw1199, by decide, rfl⟩
theorem xpc74 : xpc yX11_lasts 1 := by decide +kernel
theorem xw1200 : Cond.methodLink "HatsDecideLaw" 90 ⟨"HatsDecide", "lasts", "(I)I"⟩ ∈ xW := xin (xt3 (i := 173) rfl) rfl
theorem xw1201 : Cond.instanceMethod ⟨"HatsDecide", "lasts", "(I)I"⟩ ∈ xW := xin (xt3 (i := 174) rfl) rfl
theorem xw1202 : Cond.selects "HatsDecide" ⟨"HatsDecide", "lasts", "(I)I"⟩ ⟨"HatsDecide", "lasts", "(I)I"⟩ ∈ xW := xin (xt3 (i := 175) rfl) rfl
theorem xc239 : xCok (13, 90, 11, 3, 74, 1) := ⟨_, xma74, xpc74, by decide, xw1200, xw1201, xw1202, by decide, rfl⟩
theorem xpc184 : xpc yX12_lasts 1 := by decide +kernel
theorem xw1203 : Cond.methodLink "HatsDecideLaw" 93 ⟨"HatsDecideModel", "lasts", "(I)I"⟩ ∈ xW := xin (xt6 (i := 205) rfl) rfl
theorem xw1204 : Cond.instanceMethod ⟨"HatsDecideModel", "lasts", "(I)I"⟩ ∈ xW := xin (xt6 (i := 206) rfl) rfl
theorem xw1205 : Cond.selects "HatsDecideModel" ⟨"HatsDecideModel", "lasts", "(I)I"⟩ ⟨"HatsDecideModel", "lasts", "(I)I"⟩ ∈ xW := xin (xt6 (i := 207) rfl) rfl
theorem xc240 : xCok (13, 93, 12, 3, 184, 1) := ⟨_, xma184, xpc184, by decide, xw1203, xw1204, xw1205, by decide, rfl⟩
theorem xpc75 : xpc yX11_by 1 := by decide +kernel
theorem xw1206 : Cond.methodLink "HatsDecideLaw" 94 ⟨"HatsDecide", "by", "(I)I"⟩ ∈ xW := xin (xt3 (i := 177) rfl) rfl
theorem xw1207 : Cond.instanceMethod ⟨"HatsDecide", "by", "(I)I"⟩ ∈ xW := xin (xt3 (i := 178) rfl) rfl
theorem xw1208 : Cond.selects "HatsDecide" ⟨"HatsDecide", "by", "(I)I"⟩ ⟨"HatsDecide", "by", "(I)I"⟩ ∈ xW := xin (xt3 (i := 179) rfl) rfl
theorem xc241 : xCok (13, 94, 11, 3, 75, 1) := ⟨_, xma75, xpc75, by decide, xw1206, xw1207, xw1208, by decide, rfl⟩
theorem xpc189 : xpc yX12_by 1 := by decide +kernel
theorem xw1209 : Cond.methodLink "HatsDecideLaw" 97 ⟨"HatsDecideModel", "by", "(I)I"⟩ ∈ xW := xin (xt6 (i := 209) rfl) rfl
theorem xw1210 : Cond.instanceMethod ⟨"HatsDecideModel", "by", "(I)I"⟩ ∈ xW := xin (xt6 (i := 210) rfl) rfl
theorem xw1211 : Cond.selects "HatsDecideModel" ⟨"HatsDecideModel", "by", "(I)I"⟩ ⟨"HatsDecideModel", "by", "(I)I"⟩ ∈ xW := xin (xt6 (i := 211) rfl) rfl
theorem xc242 : xCok (13, 97, 12, 3, 189, 1) := ⟨_, xma189, xpc189, by decide, xw1209, xw1210, xw1211, by decide, rfl⟩
theorem xpc76 : xpc yX11_can 0 := by decide +kernel
theorem xw1212 : Cond.methodLink "HatsDecideLaw" 98 ⟨"HatsDecide", "can", "()I"⟩ ∈ xW := xin (xt3 (i := 216) rfl) rfl
theorem xw1213 : Cond.instanceMethod ⟨"HatsDecide", "can", "()I"⟩ ∈ xW := xin (xt3 (i := 217) rfl) rfl
theorem xw1214 : Cond.selects "HatsDecide" ⟨"HatsDecide", "can", "()I"⟩ ⟨"HatsDecide", "can", "()I"⟩ ∈ xW := xin (xt3 (i := 218) rfl) rfl
theorem xc243 : xCok (13, 98, 11, 3, 76, 0) := ⟨_, xma76, xpc76, by decide, xw1212, xw1213, xw1214, by decide, rfl⟩
theorem xpc191 : xpc yX12_can 0 := by decide +kernel
theorem xw1215 : Cond.methodLink "HatsDecideLaw" 101 ⟨"HatsDecideModel", "can", "()I"⟩ ∈ xW := xin (xt6 (i := 233) rfl) rfl
theorem xw1216 : Cond.instanceMethod ⟨"HatsDecideModel", "can", "()I"⟩ ∈ xW := xin (xt6 (i := 234) rfl) rfl
theorem xw1217 : Cond.selects "HatsDecideModel" ⟨"HatsDecideModel", "can", "()I"⟩ ⟨"HatsDecideModel", "can", "()I"⟩ ∈ xW := xin (xt6 (i := 235) rfl) rfl
theorem xc244 : xCok (13, 101, 12, 3, 191, 0) := ⟨_, xma191, xpc191, by decide, xw1215, xw1216, xw1217, by decide, rfl⟩
theorem xpc77 : xpc yX11_back 0 := by decide +kernel
theorem xw1218 : Cond.methodLink "HatsDecideLaw" 102 ⟨"HatsDecide", "back", "()I"⟩ ∈ xW := xin (xt3 (i := 224) rfl) rfl
theorem xw1219 : Cond.instanceMethod ⟨"HatsDecide", "back", "()I"⟩ ∈ xW := xin (xt3 (i := 225) rfl) rfl
theorem xw1220 : Cond.selects "HatsDecide" ⟨"HatsDecide", "back", "()I"⟩ ⟨"HatsDecide", "back", "()I"⟩ ∈ xW := xin (xt3 (i := 226) rfl) rfl
theorem xc245 : xCok (13, 102, 11, 3, 77, 0) := ⟨_, xma77, xpc77, by decide, xw1218, xw1219, xw1220, by decide, rfl⟩
theorem xpc195 : xpc yX12_back 0 := by decide +kernel
theorem xw1221 : Cond.methodLink "HatsDecideLaw" 105 ⟨"HatsDecideModel", "back", "()I"⟩ ∈ xW := xin (xt7 (i := 1) rfl) rfl
theorem xw1222 : Cond.instanceMethod ⟨"HatsDecideModel", "back", "()I"⟩ ∈ xW := xin (xt7 (i := 2) rfl) rfl
theorem xw1223 : Cond.selects "HatsDecideModel" ⟨"HatsDecideModel", "back", "()I"⟩ ⟨"HatsDecideModel", "back", "()I"⟩ ∈ xW := xin (xt7 (i := 3) rfl) rfl
theorem xc246 : xCok (13, 105, 12, 3, 195, 0) := ⟨_, xma195, xpc195, by decide, xw1221, xw1222, xw1223, by decide, rfl⟩
theorem xpc78 : xpc yX11_gusted 1 := by decide +kernel
theorem xw1224 : Cond.methodLink "HatsDecideLaw" 106 ⟨"HatsDecide", "gusted", "(I)I"⟩ ∈ xW := xin (xt3 (i := 236) rfl) rfl
theorem xw1225 : Cond.instanceMethod ⟨"HatsDecide", "gusted", "(I)I"⟩ ∈ xW := xin (xt3 (i := 237) rfl) rfl
theorem xw1226 : Cond.selects "HatsDecide" ⟨"HatsDecide", "gusted", "(I)I"⟩ ⟨"HatsDecide", "gusted", "(I)I"⟩ ∈ xW := xin (xt3 (i := 238) rfl) rfl
theorem xc247 : xCok (13, 106, 11, 3, 78, 1) := ⟨_, xma78, xpc78, by decide, xw1224, xw1225, xw1226, by decide, rfl⟩
theorem xpc197 : xpc yX12_gusted 1 := by decide +kernel
theorem xw1227 : Cond.methodLink "HatsDecideLaw" 109 ⟨"HatsDecideModel", "gusted", "(I)I"⟩ ∈ xW := xin (xt7 (i := 17) rfl) rfl
theorem xw1228 : Cond.instanceMethod ⟨"HatsDecideModel", "gusted", "(I)I"⟩ ∈ xW := xin (xt7 (i := 18) rfl) rfl
theorem xw1229 : Cond.selects "HatsDecideModel" ⟨"HatsDecideModel", "gusted", "(I)I"⟩ ⟨"HatsDecideModel", "gusted", "(I)I"⟩ ∈ xW := xin (xt7 (i := 19) rfl) rfl
theorem xc248 : xCok (13, 109, 12, 3, 197, 1) := ⟨_, xma197, xpc197, by decide, xw1227, xw1228, xw1229, by decide, rfl⟩
theorem xpc79 : xpc yX11_lucky 0 := by decide +kernel
theorem xw1230 : Cond.methodLink "HatsDecideLaw" 110 ⟨"HatsDecide", "lucky", "()I"⟩ ∈ xW := xin (xt4 (i := 0) rfl) rfl
theorem xw1231 : Cond.instanceMethod ⟨"HatsDecide", "lucky", "()I"⟩ ∈ xW := xin (xt4 (i := 1) rfl) rfl
theorem xw1232 : Cond.selects "HatsDecide" ⟨"HatsDecide", "lucky", "()I"⟩ ⟨"HatsDecide", "lucky", "()I"⟩ ∈ xW := xin (xt4 (i := 2) rfl) rfl
theorem xc249 : xCok (13, 110, 11, 3, 79, 0) := ⟨_, xma79, xpc79, by decide, xw1230, xw1231, xw1232, by decide, rfl⟩
theorem xpc198 : xpc yX12_lucky 0 := by decide +kernel
theorem xw1233 : Cond.methodLink "HatsDecideLaw" 113 ⟨"HatsDecideModel", "lucky", "()I"⟩ ∈ xW := xin (xt7 (i := 25) rfl) rfl
theorem xw1234 : Cond.instanceMethod ⟨"HatsDecideModel", "lucky", "()I"⟩ ∈ xW := xin (xt7 (i := 26) rfl) rfl
theorem xw1235 : Cond.selects "HatsDecideModel" ⟨"HatsDecideModel", "lucky", "()I"⟩ ⟨"HatsDecideModel", "lucky", "()I"⟩ ∈ xW := xin (xt7 (i := 27) rfl) rfl
theorem xc250 : xCok (13, 113, 12, 3, 198, 0) := ⟨_, xma198, xpc198, by decide, xw1233, xw1234, xw1235, by decide, rfl⟩
theorem xpc80 : xpc yX11_swap 0 := by decide +kernel
theorem xw1236 : Cond.methodLink "HatsDecideLaw" 114 ⟨"HatsDecide", "swap", "()I"⟩ ∈ xW := xin (xt4 (i := 4) rfl) rfl
theorem xw1237 : Cond.instanceMethod ⟨"HatsDecide", "swap", "()I"⟩ ∈ xW := xin (xt4 (i := 5) rfl) rfl
theorem xw1238 : Cond.selects "HatsDecide" ⟨"HatsDecide", "swap", "()I"⟩ ⟨"HatsDecide", "swap", "()I"⟩ ∈ xW := xin (xt4 (i := 6) rfl) rfl
theorem xc251 : xCok (13, 114, 11, 3, 80, 0) := ⟨_, xma80, xpc80, by decide, xw1236, xw1237, xw1238, by decide, rfl⟩
theorem xpc199 : xpc yX12_swap 0 := by decide +kernel
theorem xw1239 : Cond.methodLink "HatsDecideLaw" 117 ⟨"HatsDecideModel", "swap", "()I"⟩ ∈ xW := xin (xt7 (i := 29) rfl) rfl
theorem xw1240 : Cond.instanceMethod ⟨"HatsDecideModel", "swap", "()I"⟩ ∈ xW := xin (xt7 (i := 30) rfl) rfl
theorem xw1241 : Cond.selects "HatsDecideModel" ⟨"HatsDecideModel", "swap", "()I"⟩ ⟨"HatsDecideModel", "swap", "()I"⟩ ∈ xW := xin (xt7 (i := 31) rfl) rfl
theorem xc252 : xCok (13, 117, 12, 3, 199, 0) := ⟨_, xma199, xpc199, by decide, xw1239, xw1240, xw1241, by decide, rfl⟩
theorem xpc81 : xpc yX11_quarrel 3 := by decide +kernel
theorem xw1242 : Cond.methodLink "HatsDecideLaw" 118 ⟨"HatsDecide", "quarrel", "(III)I"⟩ ∈ xW := xin (xt4 (i := 8) rfl) rfl
theorem xw1243 : Cond.instanceMethod ⟨"HatsDecide", "quarrel", "(III)I"⟩ ∈ xW := xin (xt4 (i := 9) rfl) rfl
theorem xw1244 : Cond.selects "HatsDecide" ⟨"HatsDecide", "quarrel", "(III)I"⟩ ⟨"HatsDecide", "quarrel", "(III)I"⟩ ∈ xW := xin (xt4 (i := 10) rfl) rfl
theorem xc253 : xCok (13, 118, 11, 3, 81, 3) := ⟨_, xma81, xpc81, by decide, xw1242, xw1243, xw1244, by decide, rfl⟩
theorem xpc200 : xpc yX12_quarrel 3 := by decide +kernel
theorem xw1245 : Cond.methodLink "HatsDecideLaw" 121 ⟨"HatsDecideModel", "quarrel", "(III)I"⟩ ∈ xW := xin (xt7 (i := 33) rfl) rfl
theorem xw1246 : Cond.instanceMethod ⟨"HatsDecideModel", "quarrel", "(III)I"⟩ ∈ xW := xin (xt7 (i := 34) rfl) rfl
theorem xw1247 : Cond.selects "HatsDecideModel" ⟨"HatsDecideModel", "quarrel", "(III)I"⟩ ⟨"HatsDecideModel", "quarrel", "(III)I"⟩ ∈ xW := xin (xt7 (i := 35) rfl) rfl
theorem xc254 : xCok (13, 121, 12, 3, 200, 3) := ⟨_, xma200, xpc200, by decide, xw1245, xw1246, xw1247, by decide, rfl⟩
theorem xpc82 : xpc yX11_how 1 := by decide +kernel
theorem xw1248 : Cond.methodLink "HatsDecideLaw" 122 ⟨"HatsDecide", "how", "(I)I"⟩ ∈ xW := xin (xt4 (i := 12) rfl) rfl
theorem xw1249 : Cond.instanceMethod ⟨"HatsDecide", "how", "(I)I"⟩ ∈ xW := xin (xt4 (i := 13) rfl) rfl
theorem xw1250 : Cond.selects "HatsDecide" ⟨"HatsDecide", "how", "(I)I"⟩ ⟨"HatsDecide", "how", "(I)I"⟩ ∈ xW := xin (xt4 (i := 14) rfl) rfl
theorem xc255 : xCok (13, 122, 11, 3, 82, 1) := ⟨_, xma82, xpc82, by decide, xw1248, xw1249, xw1250, by decide, rfl⟩
theorem xpc201 : xpc yX12_how 1 := by decide +kernel
theorem xw1251 : Cond.methodLink "HatsDecideLaw" 125 ⟨"HatsDecideModel", "how", "(I)I"⟩ ∈ xW := xin (xt7 (i := 37) rfl) rfl
theorem xw1252 : Cond.instanceMethod ⟨"HatsDecideModel", "how", "(I)I"⟩ ∈ xW := xin (xt7 (i := 38) rfl) rfl
theorem xw1253 : Cond.selects "HatsDecideModel" ⟨"HatsDecideModel", "how", "(I)I"⟩ ⟨"HatsDecideModel", "how", "(I)I"⟩ ∈ xW := xin (xt7 (i := 39) rfl) rfl
theorem xc256 : xCok (13, 125, 12, 3, 201, 1) := ⟨_, xma201, xpc201, by decide, xw1251, xw1252, xw1253, by decide, rfl⟩
theorem xpc83 : xpc yX11_see 2 := by decide +kernel
theorem xw1254 : Cond.methodLink "HatsDecideLaw" 126 ⟨"HatsDecide", "see", "(II)I"⟩ ∈ xW := xin (xt4 (i := 16) rfl) rfl
theorem xw1255 : Cond.instanceMethod ⟨"HatsDecide", "see", "(II)I"⟩ ∈ xW := xin (xt4 (i := 17) rfl) rfl
theorem xw1256 : Cond.selects "HatsDecide" ⟨"HatsDecide", "see", "(II)I"⟩ ⟨"HatsDecide", "see", "(II)I"⟩ ∈ xW := xin (xt4 (i := 18) rfl) rfl
theorem xc257 : xCok (13, 126, 11, 3, 83, 2) := ⟨_, xma83, xpc83, by decide, xw1254, xw1255, xw1256, by decide, rfl⟩
theorem xpc202 : xpc yX12_see 2 := by decide +kernel
theorem xw1257 : Cond.methodLink "HatsDecideLaw" 129 ⟨"HatsDecideModel", "see", "(II)I"⟩ ∈ xW := xin (xt7 (i := 41) rfl) rfl
theorem xw1258 : Cond.instanceMethod ⟨"HatsDecideModel", "see", "(II)I"⟩ ∈ xW := xin (xt7 (i := 42) rfl) rfl
theorem xw1259 : Cond.selects "HatsDecideModel" ⟨"HatsDecideModel", "see", "(II)I"⟩ ⟨"HatsDecideModel", "see", "(II)I"⟩ ∈ xW := xin (xt7 (i := 43) rfl) rfl
theorem xc258 : xCok (13, 129, 12, 3, 202, 2) := ⟨_, xma202, xpc202, by decide, xw1257, xw1258, xw1259, by decide, rfl⟩
theorem xpc84 : xpc yX11_wore 1 := by decide +kernel
theorem xw1260 : Cond.methodLink "HatsDecideLaw" 130 ⟨"HatsDecide", "wore", "(I)I"⟩ ∈ xW := xin (xt4 (i := 20) rfl) rfl
theorem xw1261 : Cond.instanceMethod ⟨"HatsDecide", "wore", "(I)I"⟩ ∈ xW := xin (xt4 (i := 21) rfl) rfl
theorem xw1262 : Cond.selects "HatsDecide" ⟨"HatsDecide", "wore", "(I)I"⟩ ⟨"HatsDecide", "wore", "(I)I"⟩ ∈ xW := xin (xt4 (i := 22) rfl) rfl
theorem xc259 : xCok (13, 130, 11, 3, 84, 1) := ⟨_, xma84, xpc84, by decide, xw1260, xw1261, xw1262, by decide, rfl⟩
theorem xpc204 : xpc yX12_wore 1 := by decide +kernel
theorem xw1263 : Cond.methodLink "HatsDecideLaw" 133 ⟨"HatsDecideModel", "wore", "(I)I"⟩ ∈ xW := xin (xt7 (i := 45) rfl) rfl
theorem xw1264 : Cond.instanceMethod ⟨"HatsDecideModel", "wore", "(I)I"⟩ ∈ xW := xin (xt7 (i := 46) rfl) rfl
theorem xw1265 : Cond.selects "HatsDecideModel" ⟨"HatsDecideModel", "wore", "(I)I"⟩ ⟨"HatsDecideModel", "wore", "(I)I"⟩ ∈ xW := xin (xt7 (i := 47) rfl) rfl
theorem xc260 : xCok (13, 133, 12, 3, 204, 1) := ⟨_, xma204, xpc204, by decide, xw1263, xw1264, xw1265, by decide, rfl⟩
theorem xpc85 : xpc yX11_who 0 := by decide +kernel
theorem xw1266 : Cond.methodLink "HatsDecideLaw" 134 ⟨"HatsDecide", "who", "()I"⟩ ∈ xW := xin (xt4 (i := 32) rfl) rfl
theorem xw1267 : Cond.instanceMethod ⟨"HatsDecide", "who", "()I"⟩ ∈ xW := xin (xt4 (i := 33) rfl) rfl
theorem xw1268 : Cond.selects "HatsDecide" ⟨"HatsDecide", "who", "()I"⟩ ⟨"HatsDecide", "who", "()I"⟩ ∈ xW := xin (xt4 (i := 34) rfl) rfl
theorem xc261 : xCok (13, 134, 11, 3, 85, 0) := ⟨_, xma85, xpc85, by decide, xw1266, xw1267, xw1268, by decide, rfl⟩
theorem xpc205 : xpc yX12_who 0 := by decide +kernel
theorem xw1269 : Cond.methodLink "HatsDecideLaw" 137 ⟨"HatsDecideModel", "who", "()I"⟩ ∈ xW := xin (xt7 (i := 53) rfl) rfl
theorem xw1270 : Cond.instanceMethod ⟨"HatsDecideModel", "who", "()I"⟩ ∈ xW := xin (xt7 (i := 54) rfl) rfl
theorem xw1271 : Cond.selects "HatsDecideModel" ⟨"HatsDecideModel", "who", "()I"⟩ ⟨"HatsDecideModel", "who", "()I"⟩ ∈ xW := xin (xt7 (i := 55) rfl) rfl
theorem xc262 : xCok (13, 137, 12, 3, 205, 0) := ⟨_, xma205, xpc205, by decide, xw1269, xw1270, xw1271, by decide, rfl⟩
theorem xpc86 : xpc yX11_odds 2 := by decide +kernel
theorem xw1272 : Cond.methodLink "HatsDecideLaw" 138 ⟨"HatsDecide", "odds", "(II)J"⟩ ∈ xW := xin (xt4 (i := 47) rfl) rfl
theorem xw1273 : Cond.instanceMethod ⟨"HatsDecide", "odds", "(II)J"⟩ ∈ xW := xin (xt4 (i := 48) rfl) rfl
theorem xw1274 : Cond.selects "HatsDecide" ⟨"HatsDecide", "odds", "(II)J"⟩ ⟨"HatsDecide", "odds", "(II)J"⟩ ∈ xW := xin (xt4 (i := 49) rfl) rfl
theorem xc263 : xCok (13, 138, 11, 3, 86, 2) := ⟨_, xma86, xpc86, by decide, xw1272, xw1273, xw1274, by decide, rfl⟩
theorem xpc208 : xpc yX12_odds 2 := by decide +kernel
theorem xw1275 : Cond.methodLink "HatsDecideLaw" 142 ⟨"HatsDecideModel", "odds", "(II)J"⟩ ∈ xW := xin (xt7 (i := 57) rfl) rfl
theorem xw1276 : Cond.instanceMethod ⟨"HatsDecideModel", "odds", "(II)J"⟩ ∈ xW := xin (xt7 (i := 58) rfl) rfl
theorem xw1277 : Cond.selects "HatsDecideModel" ⟨"HatsDecideModel", "odds", "(II)J"⟩ ⟨"HatsDecideModel", "odds", "(II)J"⟩ ∈ xW := xin (xt7 (i := 59) rfl) rfl
theorem xc264 : xCok (13, 142, 12, 3, 208, 2) := ⟨_, xma208, xpc208, by decide, xw1275, xw1276, xw1277, by decide, rfl⟩
theorem xpc87 : xpc yX11_mean 2 := by decide +kernel
theorem xw1278 : Cond.methodLink "HatsDecideLaw" 143 ⟨"HatsDecide", "mean", "(II)J"⟩ ∈ xW := xin (xt4 (i := 56) rfl) rfl
theorem xw1279 : Cond.instanceMethod ⟨"HatsDecide", "mean", "(II)J"⟩ ∈ xW := xin (xt4 (i := 57) rfl) rfl
theorem xw1280 : Cond.selects "HatsDecide" ⟨"HatsDecide", "mean", "(II)J"⟩ ⟨"HatsDecide", "mean", "(II)J"⟩ ∈ xW := xin (xt4 (i := 58) rfl) rfl
theorem xc265 : xCok (13, 143, 11, 3, 87, 2) := ⟨_, xma87, xpc87, by decide, xw1278, xw1279, xw1280, by decide, rfl⟩
theorem xpc209 : xpc yX12_mean 2 := by decide +kernel
theorem xw1281 : Cond.methodLink "HatsDecideLaw" 146 ⟨"HatsDecideModel", "mean", "(II)J"⟩ ∈ xW := xin (xt7 (i := 70) rfl) rfl
theorem xw1282 : Cond.instanceMethod ⟨"HatsDecideModel", "mean", "(II)J"⟩ ∈ xW := xin (xt7 (i := 71) rfl) rfl
theorem xw1283 : Cond.selects "HatsDecideModel" ⟨"HatsDecideModel", "mean", "(II)J"⟩ ⟨"HatsDecideModel", "mean", "(II)J"⟩ ∈ xW := xin (xt7 (i := 72) rfl) rfl
theorem xc266 : xCok (13, 146, 12, 3, 209, 2) := ⟨_, xma209, xpc209, by decide, xw1281, xw1282, xw1283, by decide, rfl⟩
theorem xpc88 : xpc yX11_book 2 := by decide +kernel
theorem xw1284 : Cond.methodLink "HatsDecideLaw" 147 ⟨"HatsDecide", "book", "(II)I"⟩ ∈ xW := xin (xt4 (i := 60) rfl) rfl
theorem xw1285 : Cond.instanceMethod ⟨"HatsDecide", "book", "(II)I"⟩ ∈ xW := xin (xt4 (i := 61) rfl) rfl
theorem xw1286 : Cond.selects "HatsDecide" ⟨"HatsDecide", "book", "(II)I"⟩ ⟨"HatsDecide", "book", "(II)I"⟩ ∈ xW := xin (xt4 (i := 62) rfl) rfl
theorem xc267 : xCok (13, 147, 11, 3, 88, 2) := ⟨_, xma88, xpc88, by decide, xw1284, xw1285, xw1286, by decide, rfl⟩
theorem xpc210 : xpc yX12_book 2 := by decide +kernel
theorem xw1287 : Cond.methodLink "HatsDecideLaw" 150 ⟨"HatsDecideModel", "book", "(II)I"⟩ ∈ xW := xin (xt7 (i := 74) rfl) rfl
theorem xw1288 : Cond.instanceMethod ⟨"HatsDecideModel", "book", "(II)I"⟩ ∈ xW := xin (xt7 (i := 75) rfl) rfl
theorem xw1289 : Cond.selects "HatsDecideModel" ⟨"HatsDecideModel", "book", "(II)I"⟩ ⟨"HatsDecideModel", "book", "(II)I"⟩ ∈ xW := xin (xt7 (i := 76) rfl) rfl
theorem xc268 : xCok (13, 150, 12, 3, 210, 2) := ⟨_, xma210, xpc210, by decide, xw1287, xw1288, xw1289, by decide, rfl⟩
theorem xpc89 : xpc yX11_looked 0 := by decide +kernel
theorem xw1290 : Cond.methodLink "HatsDecideLaw" 151 ⟨"HatsDecide", "looked", "()I"⟩ ∈ xW := xin (xt4 (i := 64) rfl) rfl
theorem xw1291 : Cond.instanceMethod ⟨"HatsDecide", "looked", "()I"⟩ ∈ xW := xin (xt4 (i := 65) rfl) rfl
theorem xw1292 : Cond.selects "HatsDecide" ⟨"HatsDecide", "looked", "()I"⟩ ⟨"HatsDecide", "looked", "()I"⟩ ∈ xW := xin (xt4 (i := 66) rfl) rfl
theorem xc269 : xCok (13, 151, 11, 3, 89, 0) := ⟨_, xma89, xpc89, by decide, xw1290, xw1291, xw1292, by decide, rfl⟩
theorem xpc211 : xpc yX12_looked 0 := by decide +kernel
theorem xw1293 : Cond.methodLink "HatsDecideLaw" 154 ⟨"HatsDecideModel", "looked", "()I"⟩ ∈ xW := xin (xt7 (i := 78) rfl) rfl
theorem xw1294 : Cond.instanceMethod ⟨"HatsDecideModel", "looked", "()I"⟩ ∈ xW := xin (xt7 (i := 79) rfl) rfl
theorem xw1295 : Cond.selects "HatsDecideModel" ⟨"HatsDecideModel", "looked", "()I"⟩ ⟨"HatsDecideModel", "looked", "()I"⟩ ∈ xW := xin (xt7 (i := 80) rfl) rfl
theorem xc270 : xCok (13, 154, 12, 3, 211, 0) := ⟨_, xma211, xpc211, by decide, xw1293, xw1294, xw1295, by decide, rfl⟩
theorem xpc90 : xpc yX11_judge 2 := by decide +kernel
theorem xw1296 : Cond.methodLink "HatsDecideLaw" 155 ⟨"HatsDecide", "judge", "(II)I"⟩ ∈ xW := xin (xt4 (i := 68) rfl) rfl
theorem xw1297 : Cond.instanceMethod ⟨"HatsDecide", "judge", "(II)I"⟩ ∈ xW := xin (xt4 (i := 69) rfl) rfl
theorem xw1298 : Cond.selects "HatsDecide" ⟨"HatsDecide", "judge", "(II)I"⟩ ⟨"HatsDecide", "judge", "(II)I"⟩ ∈ xW := xin (xt4 (i := 70) rfl) rfl
theorem xc271 : xCok (13, 155, 11, 3, 90, 2) := ⟨_, xma90, xpc90, by decide, xw1296, xw1297, xw1298, by decide, rfl⟩
theorem xpc212 : xpc yX12_judge 2 := by decide +kernel
theorem xw1299 : Cond.methodLink "HatsDecideLaw" 158 ⟨"HatsDecideModel", "judge", "(II)I"⟩ ∈ xW := xin (xt7 (i := 82) rfl) rfl
theorem xw1300 : Cond.instanceMethod ⟨"HatsDecideModel", "judge", "(II)I"⟩ ∈ xW := xin (xt7 (i := 83) rfl) rfl
theorem xw1301 : Cond.selects "HatsDecideModel" ⟨"HatsDecideModel", "judge", "(II)I"⟩ ⟨"HatsDecideModel", "judge", "(II)I"⟩ ∈ xW := xin (xt7 (i := 84) rfl) rfl
theorem xc272 : xCok (13, 158, 12, 3, 212, 2) := ⟨_, xma212, xpc212, by decide, xw1299, xw1300, xw1301, by decide, rfl⟩
theorem xpc91 : xpc yX11_image 0 := by decide +kernel
theorem xw1302 : Cond.methodLink "HatsDecideLaw" 159 ⟨"HatsDecide", "image", "()I"⟩ ∈ xW := xin (xt4 (i := 79) rfl) rfl
theorem xw1303 : Cond.instanceMethod ⟨"HatsDecide", "image", "()I"⟩ ∈ xW := xin (xt4 (i := 80) rfl) rfl
theorem xw1304 : Cond.selects "HatsDecide" ⟨"HatsDecide", "image", "()I"⟩ ⟨"HatsDecide", "image", "()I"⟩ ∈ xW := xin (xt4 (i := 81) rfl) rfl
theorem xc273 : xCok (13, 159, 11, 3, 91, 0) := ⟨_, xma91, xpc91, by decide, xw1302, xw1303, xw1304, by decide, rfl⟩
theorem xpc213 : xpc yX12_image 0 := by decide +kernel
theorem xw1305 : Cond.methodLink "HatsDecideLaw" 162 ⟨"HatsDecideModel", "image", "()I"⟩ ∈ xW := xin (xt7 (i := 90) rfl) rfl
theorem xw1306 : Cond.instanceMethod ⟨"HatsDecideModel", "image", "()I"⟩ ∈ xW := xin (xt7 (i := 91) rfl) rfl
theorem xw1307 : Cond.selects "HatsDecideModel" ⟨"HatsDecideModel", "image", "()I"⟩ ⟨"HatsDecideModel", "image", "()I"⟩ ∈ xW := xin (xt7 (i := 92) rfl) rfl
theorem xc274 : xCok (13, 162, 12, 3, 213, 0) := ⟨_, xma213, xpc213, by decide, xw1305, xw1306, xw1307, by decide, rfl⟩
theorem xpc92 : xpc yX11_undo 0 := by decide +kernel
theorem xw1308 : Cond.methodLink "HatsDecideLaw" 163 ⟨"HatsDecide", "undo", "()I"⟩ ∈ xW := xin (xt4 (i := 92) rfl) rfl
theorem xw1309 : Cond.instanceMethod ⟨"HatsDecide", "undo", "()I"⟩ ∈ xW := xin (xt4 (i := 93) rfl) rfl
theorem xw1310 : Cond.selects "HatsDecide" ⟨"HatsDecide", "undo", "()I"⟩ ⟨"HatsDecide", "undo", "()I"⟩ ∈ xW := xin (xt4 (i := 94) rfl) rfl
theorem xc275 : xCok (13, 163, 11, 3, 92, 0) := ⟨_, xma92, xpc92, by decide, xw1308, xw1309, xw1310, by decide, rfl⟩
theorem xpc214 : xpc yX12_undo 0 := by decide +kernel
theorem xw1311 : Cond.methodLink "HatsDecideLaw" 166 ⟨"HatsDecideModel", "undo", "()I"⟩ ∈ xW := xin (xt7 (i := 94) rfl) rfl
theorem xw1312 : Cond.instanceMethod ⟨"HatsDecideModel", "undo", "()I"⟩ ∈ xW := xin (xt7 (i := 95) rfl) rfl
theorem xw1313 : Cond.selects "HatsDecideModel" ⟨"HatsDecideModel", "undo", "()I"⟩ ⟨"HatsDecideModel", "undo", "()I"⟩ ∈ xW := xin (xt7 (i := 96) rfl) rfl
theorem xc276 : xCok (13, 166, 12, 3, 214, 0) := ⟨_, xma214, xpc214, by decide, xw1311, xw1312, xw1313, by decide, rfl⟩
theorem xpc93 : xpc yX11_act 3 := by decide +kernel
theorem xw1314 : Cond.methodLink "HatsDecideLaw" 167 ⟨"HatsDecide", "act", "(III)I"⟩ ∈ xW := xin (xt4 (i := 96) rfl) rfl
theorem xw1315 : Cond.instanceMethod ⟨"HatsDecide", "act", "(III)I"⟩ ∈ xW := xin (xt4 (i := 97) rfl) rfl
theorem xw1316 : Cond.selects "HatsDecide" ⟨"HatsDecide", "act", "(III)I"⟩ ⟨"HatsDecide", "act", "(III)I"⟩ ∈ xW := xin (xt4 (i := 98) rfl) rfl
theorem xc277 : xCok (13, 167, 11, 3, 93, 3) := ⟨_, xma93, xpc93, by decide, xw1314, xw1315, xw1316, by decide, rfl⟩
theorem xpc223 : xpc yX12_act 3 := by decide +kernel
theorem xw1317 : Cond.methodLink "HatsDecideLaw" 170 ⟨"HatsDecideModel", "act", "(III)I"⟩ ∈ xW := xin (xt7 (i := 98) rfl) rfl
theorem xw1318 : Cond.instanceMethod ⟨"HatsDecideModel", "act", "(III)I"⟩ ∈ xW := xin (xt7 (i := 99) rfl) rfl
theorem xw1319 : Cond.selects "HatsDecideModel" ⟨"HatsDecideModel", "act", "(III)I"⟩ ⟨"HatsDecideModel", "act", "(III)I"⟩ ∈ xW := xin (xt7 (i := 100) rfl) rfl
theorem xc278 : xCok (13, 170, 12, 3, 223, 3) := ⟨_, xma223, xpc223, by decide, xw1317, xw1318, xw1319, by decide, rfl⟩
theorem xpc94 : xpc yX11_trace 1 := by decide +kernel
theorem xw1320 : Cond.methodLink "HatsDecideLaw" 171 ⟨"HatsDecide", "trace", "(I)I"⟩ ∈ xW := xin (xt4 (i := 183) rfl) rfl
theorem xw1321 : Cond.instanceMethod ⟨"HatsDecide", "trace", "(I)I"⟩ ∈ xW := xin (xt4 (i := 184) rfl) rfl
theorem xw1322 : Cond.selects "HatsDecide" ⟨"HatsDecide", "trace", "(I)I"⟩ ⟨"HatsDecide", "trace", "(I)I"⟩ ∈ xW := xin (xt4 (i := 185) rfl) rfl
theorem xc279 : xCok (13, 171, 11, 3, 94, 1) := ⟨_, xma94, xpc94, by decide, xw1320, xw1321, xw1322, by decide, rfl⟩
theorem xpc224 : xpc yX12_trace 1 := by decide +kernel
theorem xw1323 : Cond.methodLink "HatsDecideLaw" 174 ⟨"HatsDecideModel", "trace", "(I)I"⟩ ∈ xW := xin (xt7 (i := 134) rfl) rfl
theorem xw1324 : Cond.instanceMethod ⟨"HatsDecideModel", "trace", "(I)I"⟩ ∈ xW := xin (xt7 (i := 135) rfl) rfl
theorem xw1325 : Cond.selects "HatsDecideModel" ⟨"HatsDecideModel", "trace", "(I)I"⟩ ⟨"HatsDecideModel", "trace", "(I)I"⟩ ∈ xW := xin (xt7 (i := 136) rfl) rfl
theorem xc280 : xCok (13, 174, 12, 3, 224, 1) := ⟨_, xma224, xpc224, by decide, xw1323, xw1324, xw1325, by decide, rfl⟩
theorem xpc95 : xpc yX11_taken 2 := by decide +kernel
theorem xw1326 : Cond.methodLink "HatsDecideLaw" 175 ⟨"HatsDecide", "taken", "(II)I"⟩ ∈ xW := xin (xt4 (i := 187) rfl) rfl
theorem xw1327 : Cond.instanceMethod ⟨"HatsDecide", "taken", "(II)I"⟩ ∈ xW := xin (xt4 (i := 188) rfl) rfl
theorem xw1328 : Cond.selects "HatsDecide" ⟨"HatsDecide", "taken", "(II)I"⟩ ⟨"HatsDecide", "taken", "(II)I"⟩ ∈ xW := xin (xt4 (i := 189) rfl) rfl
theorem xc281 : xCok (13, 175, 11, 3, 95, 2) := ⟨_, xma95, xpc95, by decide, xw1326, xw1327, xw1328, by decide, rfl⟩
theorem xpc225 : xpc yX12_taken 2 := by decide +kernel
theorem xw1329 : Cond.methodLink "HatsDecideLaw" 178 ⟨"HatsDecideModel", "taken", "(II)I"⟩ ∈ xW := xin (xt7 (i := 138) rfl) rfl
theorem xw1330 : Cond.instanceMethod ⟨"HatsDecideModel", "taken", "(II)I"⟩ ∈ xW := xin (xt7 (i := 139) rfl) rfl
theorem xw1331 : Cond.selects "HatsDecideModel" ⟨"HatsDecideModel", "taken", "(II)I"⟩ ⟨"HatsDecideModel", "taken", "(II)I"⟩ ∈ xW := xin (xt7 (i := 140) rfl) rfl
theorem xc282 : xCok (13, 178, 12, 3, 225, 2) := ⟨_, xma225, xpc225, by decide, xw1329, xw1330, xw1331, by decide, rfl⟩
theorem xpc96 : xpc yX11_count 1 := by decide +kernel
theorem xw1332 : Cond.methodLink "HatsDecideLaw" 179 ⟨"HatsDecide", "count", "(I)I"⟩ ∈ xW := xin (xt4 (i := 194) rfl) rfl
theorem xw1333 : Cond.instanceMethod ⟨"HatsDecide", "count", "(I)I"⟩ ∈ xW := xin (xt4 (i := 195) rfl) rfl
theorem xw1334 : Cond.selects "HatsDecide" ⟨"HatsDecide", "count", "(I)I"⟩ ⟨"HatsDecide", "count", "(I)I"⟩ ∈ xW := xin (xt4 (i := 196) rfl) rfl
theorem xc283 : xCok (13, 179, 11, 3, 96, 1) := ⟨_, xma96, xpc96, by decide, xw1332, xw1333, xw1334, by decide, rfl⟩
theorem xpc226 : xpc yX12_count 1 := by decide +kernel
theorem xw1335 : Cond.methodLink "HatsDecideLaw" 182 ⟨"HatsDecideModel", "count", "(I)I"⟩ ∈ xW := xin (xt7 (i := 142) rfl) rfl
theorem xw1336 : Cond.instanceMethod ⟨"HatsDecideModel", "count", "(I)I"⟩ ∈ xW := xin (xt7 (i := 143) rfl) rfl
theorem xw1337 : Cond.selects "HatsDecideModel" ⟨"HatsDecideModel", "count", "(I)I"⟩ ⟨"HatsDecideModel", "count", "(I)I"⟩ ∈ xW := xin (xt7 (i := 144) rfl) rfl
theorem xc284 : xCok (13, 182, 12, 3, 226, 1) := ⟨_, xma226, xpc226, by decide, xw1335, xw1336, xw1337, by decide, rfl⟩
theorem xpc97 : xpc yX11_tape 3 := by decide +kernel
theorem xw1338 : Cond.methodLink "HatsDecideLaw" 183 ⟨"HatsDecide", "tape", "(III)I"⟩ ∈ xW := xin (xt4 (i := 198) rfl) rfl
theorem xw1339 : Cond.instanceMethod ⟨"HatsDecide", "tape", "(III)I"⟩ ∈ xW := xin (xt4 (i := 199) rfl) rfl
theorem xw1340 : Cond.selects "HatsDecide" ⟨"HatsDecide", "tape", "(III)I"⟩ ⟨"HatsDecide", "tape", "(III)I"⟩ ∈ xW := xin (xt4 (i := 200) rfl) rfl
theorem xc285 : xCok (13, 183, 11, 3, 97, 3) := ⟨_, xma97, xpc97, by decide, xw1338, xw1339, xw1340, by decide, rfl⟩
theorem xpc228 : xpc yX12_tape 3 := by decide +kernel
theorem xw1341 : Cond.methodLink "HatsDecideLaw" 186 ⟨"HatsDecideModel", "tape", "(III)I"⟩ ∈ xW := xin (xt7 (i := 146) rfl) rfl
theorem xw1342 : Cond.instanceMethod ⟨"HatsDecideModel", "tape", "(III)I"⟩ ∈ xW := xin (xt7 (i := 147) rfl) rfl
theorem xw1343 : Cond.selects "HatsDecideModel" ⟨"HatsDecideModel", "tape", "(III)I"⟩ ⟨"HatsDecideModel", "tape", "(III)I"⟩ ∈ xW := xin (xt7 (i := 148) rfl) rfl
theorem xc286 : xCok (13, 186, 12, 3, 228, 3) := ⟨_, xma228, xpc228, by decide, xw1341, xw1342, xw1343, by decide, rfl⟩
theorem xpc98 : xpc yX11_item 3 := by decide +kernel
theorem xw1344 : Cond.methodLink "HatsDecideLaw" 189 ⟨"HatsDecide", "item", "(IIJ)I"⟩ ∈ xW := xin (xt4 (i := 209) rfl) rfl
theorem xw1345 : Cond.instanceMethod ⟨"HatsDecide", "item", "(IIJ)I"⟩ ∈ xW := xin (xt4 (i := 210) rfl) rfl
theorem xw1346 : Cond.selects "HatsDecide" ⟨"HatsDecide", "item", "(IIJ)I"⟩ ⟨"HatsDecide", "item", "(IIJ)I"⟩ ∈ xW := xin (xt4 (i := 211) rfl) rfl
theorem xc287 : xCok (13, 189, 11, 3, 98, 3) := ⟨_, xma98, xpc98, by decide, xw1344, xw1345, xw1346, by decide, rfl⟩
theorem xpc230 : xpc yX12_item 3 := by decide +kernel
theorem xw1347 : Cond.methodLink "HatsDecideLaw" 193 ⟨"HatsDecideModel", "item", "(IIJ)I"⟩ ∈ xW := xin (xt7 (i := 150) rfl) rfl
theorem xw1348 : Cond.instanceMethod ⟨"HatsDecideModel", "item", "(IIJ)I"⟩ ∈ xW := xin (xt7 (i := 151) rfl) rfl
theorem xw1349 : Cond.selects "HatsDecideModel" ⟨"HatsDecideModel", "item", "(IIJ)I"⟩ ⟨"HatsDecideModel", "item", "(IIJ)I"⟩ ∈ xW := xin (xt7 (i := 152) rfl) rfl
theorem xc288 : xCok (13, 193, 12, 3, 230, 3) := ⟨_, xma230, xpc230, by decide, xw1347, xw1348, xw1349, by decide, rfl⟩
theorem xpc99 : xpc yX11_read 2 := by decide +kernel
theorem xw1350 : Cond.methodLink "HatsDecideLaw" 194 ⟨"HatsDecide", "read", "(II)J"⟩ ∈ xW := xin (xt4 (i := 217) rfl) rfl
theorem xw1351 : Cond.instanceMethod ⟨"HatsDecide", "read", "(II)J"⟩ ∈ xW := xin (xt4 (i := 218) rfl) rfl
theorem xw1352 : Cond.selects "HatsDecide" ⟨"HatsDecide", "read", "(II)J"⟩ ⟨"HatsDecide", "read", "(II)J"⟩ ∈ xW := xin (xt4 (i := 219) rfl) rfl
theorem xc289 : xCok (13, 194, 11, 3, 99, 2) := ⟨_, xma99, xpc99, by decide, xw1350, xw1351, xw1352, by decide, rfl⟩
theorem xpc231 : xpc yX12_read 2 := by decide +kernel
theorem xw1353 : Cond.methodLink "HatsDecideLaw" 197 ⟨"HatsDecideModel", "read", "(II)J"⟩ ∈ xW := xin (xt7 (i := 158) rfl) rfl
theorem xw1354 : Cond.instanceMethod ⟨"HatsDecideModel", "read", "(II)J"⟩ ∈ xW := xin (xt7 (i := 159) rfl) rfl
theorem xw1355 : Cond.selects "HatsDecideModel" ⟨"HatsDecideModel", "read", "(II)J"⟩ ⟨"HatsDecideModel", "read", "(II)J"⟩ ∈ xW := xin (xt7 (i := 160) rfl) rfl
theorem xc290 : xCok (13, 197, 12, 3, 231, 2) := ⟨_, xma231, xpc231, by decide, xw1353, xw1354, xw1355, by decide, rfl⟩
theorem xpc100 : xpc yX11_shift 5 := by decide +kernel
theorem xw1356 : Cond.methodLink "HatsDecideLaw" 198 ⟨"HatsDecide", "shift", "(IIIII)I"⟩ ∈ xW := xin (xt4 (i := 221) rfl) rfl
theorem xw1357 : Cond.instanceMethod ⟨"HatsDecide", "shift", "(IIIII)I"⟩ ∈ xW := xin (xt4 (i := 222) rfl) rfl
theorem xw1358 : Cond.selects "HatsDecide" ⟨"HatsDecide", "shift", "(IIIII)I"⟩ ⟨"HatsDecide", "shift", "(IIIII)I"⟩ ∈ xW := xin (xt4 (i := 223) rfl) rfl
theorem xc291 : xCok (13, 198, 11, 3, 100, 5) := ⟨_, xma100, xpc100, by decide, xw1356, xw1357, xw1358, by decide, rfl⟩
theorem xpc232 : xpc yX12_shift 5 := by decide +kernel
theorem xw1359 : Cond.methodLink "HatsDecideLaw" 201 ⟨"HatsDecideModel", "shift", "(IIIII)I"⟩ ∈ xW := xin (xt7 (i := 162) rfl) rfl
theorem xw1360 : Cond.instanceMethod ⟨"HatsDecideModel", "shift", "(IIIII)I"⟩ ∈ xW := xin (xt7 (i := 163) rfl) rfl
theorem xw1361 : Cond.selects "HatsDecideModel" ⟨"HatsDecideModel", "shift", "(IIIII)I"⟩ ⟨"HatsDecideModel", "shift", "(IIIII)I"⟩ ∈ xW := xin (xt7 (i := 164) rfl) rfl
theorem xc292 : xCok (13, 201, 12, 3, 232, 5) := ⟨_, xma232, xpc232, by decide, xw1359, xw1360, xw1361, by decide, rfl⟩
theorem xpc237 : xpc yJ0_coder_7d493 0 := by decide +kernel
theorem xw1362 : Cond.methodLink "java/lang/String" 335 ⟨"java/lang/String", "coder", "()B"⟩ ∈ xW := xin (xt1 (i := 181) rfl) rfl
theorem xw1363 : Cond.instanceMethod ⟨"java/lang/String", "coder", "()B"⟩ ∈ xW := xin (xt1 (i := 182) rfl) rfl
theorem xw1364 : Cond.selects "java/lang/String" ⟨"java/lang/String", "coder", "()B"⟩ ⟨"java/lang/String", "coder", "()B"⟩ ∈ xW := xin (xt1 (i := 183) rfl) rfl
theorem xc293 : xCok (16, 335, 16, 9, 237, 0) := ⟨_, xma237, xpc237, by decide, xw1362, xw1363, xw1364, rfl⟩
theorem xpc238 : xpc yJ0_isLatin1_aae02 0 := by decide +kernel
theorem xw1365 : Cond.methodLink "java/lang/String" 492 ⟨"java/lang/String", "isLatin1", "()Z"⟩ ∈ xW := xin (xt3 (i := 64) rfl) rfl
theorem xw1366 : Cond.instanceMethod ⟨"java/lang/String", "isLatin1", "()Z"⟩ ∈ xW := xin (xt3 (i := 65) rfl) rfl
theorem xw1367 : Cond.selects "java/lang/String" ⟨"java/lang/String", "isLatin1", "()Z"⟩ ⟨"java/lang/String", "isLatin1", "()Z"⟩ ∈ xW := xin (xt3 (i := 66) rfl) rfl
theorem xc294 : xCok (16, 492, 16, 9, 238, 0) := ⟨_, xma238, xpc238, by decide, xw1365, xw1366, xw1367, rfl⟩
theorem xpc240 : xpc yJ1_charAt_3b067 2 := by decide +kernel
theorem xw1368 : Cond.methodLink "java/lang/String" 495 ⟨"java/lang/StringLatin1", "charAt", "([BI)C"⟩ ∈ xW := xin (xt3 (i := 68) rfl) rfl
theorem xw1369 : Cond.static ⟨"java/lang/StringLatin1", "charAt", "([BI)C"⟩ ∈ xW := xin (xt3 (i := 69) rfl) rfl
theorem xc295 : xCok (16, 495, 99, 0, 240, 2) := ⟨_, xma240, xpc240, by decide, xw1368, xw1369⟩
theorem xpc243 : xpc yJ3_checkIndex_8e157 3 := by decide +kernel
theorem xw1370 : Cond.methodLink "java/lang/String" 1059 ⟨"jdk/internal/util/Preconditions", "checkIndex", "(IILjava/util/function/BiFunction;)I"⟩ ∈ xW := xin (xt3 (i := 76) rfl) rfl
theorem xw1371 : Cond.static ⟨"jdk/internal/util/Preconditions", "checkIndex", "(IILjava/util/function/BiFunction;)I"⟩ ∈ xW := xin (xt3 (i := 77) rfl) rfl
theorem xc296 : xCok (16, 1059, 99, 0, 243, 3) := ⟨_, xma243, xpc243, by decide, xw1370, xw1371⟩
theorem xpc239 : xpc yJ0_checkIndex_df160 2 := by decide +kernel
theorem xw1372 : Cond.methodLink "java/lang/StringLatin1" 9 ⟨"java/lang/String", "checkIndex", "(II)V"⟩ ∈ xW := xin (xt3 (i := 71) rfl) rfl
theorem xw1373 : Cond.static ⟨"java/lang/String", "checkIndex", "(II)V"⟩ ∈ xW := xin (xt3 (i := 72) rfl) rfl
theorem xc297 : xCok (17, 9, 99, 0, 239, 2) := ⟨_, xma239, xpc239, by decide, xw1372, xw1373⟩
def xCt_0 : List xCe := [(0, 1, 99, 1, 6, 6), (0, 7, 99, 2, 7, 4), (0, 21, 9, 3, 50, 1), (0, 27, 99, 2, 10, 1), (0, 31, 0, 5, 9, 1), (0, 31, 7, 4, 30, 1), (1, 1, 99, 1, 51, 6), (1, 7, 99, 2, 52, 4), (1, 27, 9, 3, 50, 1), (1, 36, 99, 8, 10, 1), (2, 35, 9, 3, 50, 1), (2, 41, 0, 5, 8, 1), (2, 41, 1, 4, 53, 1), (2, 41, 2, 3, 8, 1), (2, 41, 4, 4, 19, 1), (2, 41, 6, 5, 8, 1), (2, 41, 7, 4, 31, 1), (2, 41, 10, 4, 53, 1), (2, 45, 0, 5, 9, 1), (2, 45, 1, 5, 9, 1), (2, 45, 2, 3, 9, 1), (2, 45, 4, 4, 20, 1), (2, 45, 6, 4, 27, 1), (2, 45, 7, 4, 30, 1), (2, 45, 10, 5, 9, 1), (3, 70, 99, 0, 16, 2), (4, 1, 99, 1, 25, 6), (4, 7, 99, 2, 26, 4), (4, 17, 9, 3, 50, 1), (4, 23, 99, 8, 8, 1), (4, 27, 99, 2, 27, 1), (5, 22, 99, 0, 241, 2)]
theorem xCt_k0 : ∀ e ∈ xCt_0, xCok e := List.forall_mem_cons.mpr ⟨xc0, List.forall_mem_cons.mpr ⟨xc1, List.forall_mem_cons.mpr ⟨xc2, List.forall_mem_cons.mpr ⟨xc3, List.forall_mem_cons.mpr ⟨xc4, List.forall_mem_cons.mpr ⟨xc5, List.forall_mem_cons.mpr ⟨xc6, List.forall_mem_cons.mpr ⟨xc7, List.forall_mem_cons.mpr ⟨xc8, List.forall_mem_cons.mpr ⟨xc9, List.forall_mem_cons.mpr ⟨xc10, List.forall_mem_cons.mpr ⟨xc11, List.forall_mem_cons.mpr ⟨xc12, List.forall_mem_cons.mpr ⟨xc13, List.forall_mem_cons.mpr ⟨xc14, List.forall_mem_cons.mpr ⟨xc15, List.forall_mem_cons.mpr ⟨xc16, List.forall_mem_cons.mpr ⟨xc17, List.forall_mem_cons.mpr ⟨xc18, List.forall_mem_cons.mpr ⟨xc19, List.forall_mem_cons.mpr ⟨xc20, List.forall_mem_cons.mpr ⟨xc21, List.forall_mem_cons.mpr ⟨xc22, List.forall_mem_cons.mpr ⟨xc23, List.forall_mem_cons.mpr ⟨xc24, List.forall_mem_cons.mpr ⟨xc25, List.forall_mem_cons.mpr ⟨xc26, List.forall_mem_cons.mpr ⟨xc27, List.forall_mem_cons.mpr ⟨xc28, List.forall_mem_cons.mpr ⟨xc29, List.forall_mem_cons.mpr ⟨xc30, List.forall_mem_cons.mpr ⟨xc31, fun _ h => absurd h List.not_mem_nil⟩⟩⟩⟩⟩⟩⟩⟩⟩⟩⟩⟩⟩⟩⟩⟩⟩⟩⟩⟩⟩⟩⟩⟩⟩⟩⟩⟩⟩⟩⟩⟩
def xCt_1 : List xCe := [(6, 1, 99, 1, 6, 6), (6, 7, 99, 2, 7, 4), (6, 23, 9, 3, 50, 1), (6, 29, 99, 2, 9, 1), (7, 1, 99, 1, 0, 6), (7, 7, 99, 2, 1, 4), (7, 17, 9, 3, 50, 1), (7, 23, 99, 8, 9, 1), (7, 27, 99, 8, 8, 1), (8, 54, 8, 3, 36, 2), (8, 58, 99, 0, 38, 2), (8, 63, 16, 9, 235, 0), (8, 69, 99, 0, 233, 2), (8, 80, 8, 3, 46, 1), (8, 84, 8, 3, 40, 1), (8, 90, 8, 3, 47, 1), (8, 96, 16, 9, 236, 1), (8, 100, 8, 3, 43, 0), (8, 103, 8, 3, 41, 1), (8, 106, 8, 3, 42, 1), (8, 109, 8, 3, 45, 1), (8, 113, 8, 3, 44, 1), (8, 118, 99, 0, 37, 3), (8, 124, 99, 7, 101, 3), (10, 1, 99, 1, 6, 6), (10, 7, 99, 2, 7, 4), (10, 23, 9, 3, 50, 1), (10, 29, 99, 2, 8, 1), (11, 13, 99, 6, 11, 0), (11, 39, 99, 6, 32, 0), (11, 49, 99, 6, 48, 0), (11, 62, 16, 9, 235, 0)]
theorem xCt_k1 : ∀ e ∈ xCt_1, xCok e := List.forall_mem_cons.mpr ⟨xc32, List.forall_mem_cons.mpr ⟨xc33, List.forall_mem_cons.mpr ⟨xc34, List.forall_mem_cons.mpr ⟨xc35, List.forall_mem_cons.mpr ⟨xc36, List.forall_mem_cons.mpr ⟨xc37, List.forall_mem_cons.mpr ⟨xc38, List.forall_mem_cons.mpr ⟨xc39, List.forall_mem_cons.mpr ⟨xc40, List.forall_mem_cons.mpr ⟨xc41, List.forall_mem_cons.mpr ⟨xc42, List.forall_mem_cons.mpr ⟨xc43, List.forall_mem_cons.mpr ⟨xc44, List.forall_mem_cons.mpr ⟨xc45, List.forall_mem_cons.mpr ⟨xc46, List.forall_mem_cons.mpr ⟨xc47, List.forall_mem_cons.mpr ⟨xc48, List.forall_mem_cons.mpr ⟨xc49, List.forall_mem_cons.mpr ⟨xc50, List.forall_mem_cons.mpr ⟨xc51, List.forall_mem_cons.mpr ⟨xc52, List.forall_mem_cons.mpr ⟨xc53, List.forall_mem_cons.mpr ⟨xc54, List.forall_mem_cons.mpr ⟨xc55, List.forall_mem_cons.mpr ⟨xc56, List.forall_mem_cons.mpr ⟨xc57, List.forall_mem_cons.mpr ⟨xc58, List.forall_mem_cons.mpr ⟨xc59, List.forall_mem_cons.mpr ⟨xc60, List.forall_mem_cons.mpr ⟨xc61, List.forall_mem_cons.mpr ⟨xc62, List.forall_mem_cons.mpr ⟨xc63, fun _ h => absurd h List.not_mem_nil⟩⟩⟩⟩⟩⟩⟩⟩⟩⟩⟩⟩⟩⟩⟩⟩⟩⟩⟩⟩⟩⟩⟩⟩⟩⟩⟩⟩⟩⟩⟩⟩
def xCt_2 : List xCe := [(11, 84, 99, 6, 21, 0), (11, 85, 99, 0, 102, 1), (11, 101, 99, 0, 101, 3), (11, 105, 99, 0, 103, 1), (11, 115, 11, 3, 57, 5), (11, 130, 99, 1, 25, 6), (11, 135, 99, 1, 51, 6), (11, 138, 99, 1, 0, 6), (11, 141, 99, 1, 17, 6), (11, 144, 99, 1, 3, 6), (11, 147, 99, 1, 28, 6), (11, 150, 99, 1, 6, 6), (11, 151, 3, 3, 13, 1), (11, 166, 3, 3, 14, 1), (11, 170, 99, 0, 107, 1), (11, 173, 3, 3, 12, 1), (11, 176, 11, 3, 110, 3), (11, 180, 11, 3, 106, 1), (11, 183, 8, 3, 39, 2), (11, 193, 11, 3, 109, 0), (11, 197, 8, 3, 33, 0), (11, 203, 8, 3, 34, 1), (11, 206, 11, 3, 111, 3), (11, 216, 99, 0, 104, 1), (11, 225, 11, 3, 112, 3), (11, 228, 11, 3, 113, 0), (11, 231, 11, 3, 116, 1), (11, 235, 11, 3, 119, 1), (11, 238, 11, 3, 115, 1), (11, 241, 11, 3, 121, 2), (11, 245, 11, 3, 122, 2), (11, 248, 11, 3, 114, 2)]
theorem xCt_k2 : ∀ e ∈ xCt_2, xCok e := List.forall_mem_cons.mpr ⟨xc64, List.forall_mem_cons.mpr ⟨xc65, List.forall_mem_cons.mpr ⟨xc66, List.forall_mem_cons.mpr ⟨xc67, List.forall_mem_cons.mpr ⟨xc68, List.forall_mem_cons.mpr ⟨xc69, List.forall_mem_cons.mpr ⟨xc70, List.forall_mem_cons.mpr ⟨xc71, List.forall_mem_cons.mpr ⟨xc72, List.forall_mem_cons.mpr ⟨xc73, List.forall_mem_cons.mpr ⟨xc74, List.forall_mem_cons.mpr ⟨xc75, List.forall_mem_cons.mpr ⟨xc76, List.forall_mem_cons.mpr ⟨xc77, List.forall_mem_cons.mpr ⟨xc78, List.forall_mem_cons.mpr ⟨xc79, List.forall_mem_cons.mpr ⟨xc80, List.forall_mem_cons.mpr ⟨xc81, List.forall_mem_cons.mpr ⟨xc82, List.forall_mem_cons.mpr ⟨xc83, List.forall_mem_cons.mpr ⟨xc84, List.forall_mem_cons.mpr ⟨xc85, List.forall_mem_cons.mpr ⟨xc86, List.forall_mem_cons.mpr ⟨xc87, List.forall_mem_cons.mpr ⟨xc88, List.forall_mem_cons.mpr ⟨xc89, List.forall_mem_cons.mpr ⟨xc90, List.forall_mem_cons.mpr ⟨xc91, List.forall_mem_cons.mpr ⟨xc92, List.forall_mem_cons.mpr ⟨xc93, List.forall_mem_cons.mpr ⟨xc94, List.forall_mem_cons.mpr ⟨xc95, fun _ h => absurd h List.not_mem_nil⟩⟩⟩⟩⟩⟩⟩⟩⟩⟩⟩⟩⟩⟩⟩⟩⟩⟩⟩⟩⟩⟩⟩⟩⟩⟩⟩⟩⟩⟩⟩⟩
def xCt_3 : List xCe := [(11, 260, 11, 3, 125, 1), (11, 263, 99, 0, 242, 2), (11, 269, 11, 3, 123, 1), (11, 272, 11, 3, 126, 1), (11, 277, 11, 3, 127, 2), (11, 290, 99, 0, 105, 1), (11, 296, 5, 3, 23, 2), (11, 303, 3, 3, 15, 1), (11, 307, 9, 3, 49, 0), (11, 310, 0, 5, 8, 1), (11, 310, 1, 4, 53, 1), (11, 310, 2, 3, 8, 1), (11, 310, 4, 4, 19, 1), (11, 310, 6, 5, 8, 1), (11, 310, 7, 4, 31, 1), (11, 310, 10, 4, 53, 1), (11, 313, 0, 5, 9, 1), (11, 313, 1, 5, 9, 1), (11, 313, 2, 3, 9, 1), (11, 313, 4, 4, 20, 1), (11, 313, 6, 4, 27, 1), (11, 313, 7, 4, 30, 1), (11, 313, 10, 5, 9, 1), (11, 316, 0, 4, 2, 1), (11, 316, 1, 4, 5, 1), (11, 316, 2, 3, 10, 1), (11, 316, 4, 5, 10, 1), (11, 316, 6, 5, 10, 1), (11, 316, 7, 4, 2, 1), (11, 316, 10, 5, 10, 1), (11, 324, 99, 0, 108, 2), (11, 328, 5, 3, 22, 2)]
theorem xCt_k3 : ∀ e ∈ xCt_3, xCok e := List.forall_mem_cons.mpr ⟨xc96, List.forall_mem_cons.mpr ⟨xc97, List.forall_mem_cons.mpr ⟨xc98, List.forall_mem_cons.mpr ⟨xc99, List.forall_mem_cons.mpr ⟨xc100, List.forall_mem_cons.mpr ⟨xc101, List.forall_mem_cons.mpr ⟨xc102, List.forall_mem_cons.mpr ⟨xc103, List.forall_mem_cons.mpr ⟨xc104, List.forall_mem_cons.mpr ⟨xc105, List.forall_mem_cons.mpr ⟨xc106, List.forall_mem_cons.mpr ⟨xc107, List.forall_mem_cons.mpr ⟨xc108, List.forall_mem_cons.mpr ⟨xc109, List.forall_mem_cons.mpr ⟨xc110, List.forall_mem_cons.mpr ⟨xc111, List.forall_mem_cons.mpr ⟨xc112, List.forall_mem_cons.mpr ⟨xc113, List.forall_mem_cons.mpr ⟨xc114, List.forall_mem_cons.mpr ⟨xc115, List.forall_mem_cons.mpr ⟨xc116, List.forall_mem_cons.mpr ⟨xc117, List.forall_mem_cons.mpr ⟨xc118, List.forall_mem_cons.mpr ⟨xc119, List.forall_mem_cons.mpr ⟨xc120, List.forall_mem_cons.mpr ⟨xc121, List.forall_mem_cons.mpr ⟨xc122, List.forall_mem_cons.mpr ⟨xc123, List.forall_mem_cons.mpr ⟨xc124, List.forall_mem_cons.mpr ⟨xc125, List.forall_mem_cons.mpr ⟨xc126, List.forall_mem_cons.mpr ⟨xc127, fun _ h => absurd h List.not_mem_nil⟩⟩⟩⟩⟩⟩⟩⟩⟩⟩⟩⟩⟩⟩⟩⟩⟩⟩⟩⟩⟩⟩⟩⟩⟩⟩⟩⟩⟩⟩⟩⟩
def xCt_4 : List xCe := [(11, 332, 5, 3, 24, 1), (11, 339, 8, 3, 35, 1), (11, 343, 0, 4, 1, 4), (11, 343, 1, 4, 4, 4), (11, 343, 2, 3, 7, 4), (11, 343, 4, 4, 18, 4), (11, 343, 6, 4, 26, 4), (11, 343, 7, 4, 29, 4), (11, 343, 10, 4, 52, 4), (11, 347, 99, 0, 234, 1), (11, 352, 11, 3, 117, 3), (11, 355, 11, 3, 118, 3), (11, 361, 11, 3, 120, 2), (11, 364, 11, 3, 124, 2), (12, 248, 12, 3, 129, 3), (12, 252, 12, 3, 134, 1), (12, 256, 12, 3, 133, 1), (12, 259, 12, 3, 132, 1), (12, 262, 12, 3, 138, 1), (12, 266, 12, 3, 135, 1), (12, 269, 12, 3, 144, 0), (12, 273, 12, 3, 145, 1), (12, 276, 12, 3, 147, 0), (12, 280, 12, 3, 149, 1), (12, 284, 12, 3, 152, 1), (12, 287, 12, 3, 148, 0), (12, 290, 12, 3, 150, 0), (12, 293, 12, 3, 153, 0), (12, 296, 12, 3, 151, 1), (12, 299, 12, 3, 146, 2), (12, 303, 12, 3, 155, 1), (12, 306, 12, 3, 154, 1)]
theorem xCt_k4 : ∀ e ∈ xCt_4, xCok e := List.forall_mem_cons.mpr ⟨xc128, List.forall_mem_cons.mpr ⟨xc129, List.forall_mem_cons.mpr ⟨xc130, List.forall_mem_cons.mpr ⟨xc131, List.forall_mem_cons.mpr ⟨xc132, List.forall_mem_cons.mpr ⟨xc133, List.forall_mem_cons.mpr ⟨xc134, List.forall_mem_cons.mpr ⟨xc135, List.forall_mem_cons.mpr ⟨xc136, List.forall_mem_cons.mpr ⟨xc137, List.forall_mem_cons.mpr ⟨xc138, List.forall_mem_cons.mpr ⟨xc139, List.forall_mem_cons.mpr ⟨xc140, List.forall_mem_cons.mpr ⟨xc141, List.forall_mem_cons.mpr ⟨xc142, List.forall_mem_cons.mpr ⟨xc143, List.forall_mem_cons.mpr ⟨xc144, List.forall_mem_cons.mpr ⟨xc145, List.forall_mem_cons.mpr ⟨xc146, List.forall_mem_cons.mpr ⟨xc147, List.forall_mem_cons.mpr ⟨xc148, List.forall_mem_cons.mpr ⟨xc149, List.forall_mem_cons.mpr ⟨xc150, List.forall_mem_cons.mpr ⟨xc151, List.forall_mem_cons.mpr ⟨xc152, List.forall_mem_cons.mpr ⟨xc153, List.forall_mem_cons.mpr ⟨xc154, List.forall_mem_cons.mpr ⟨xc155, List.forall_mem_cons.mpr ⟨xc156, List.forall_mem_cons.mpr ⟨xc157, List.forall_mem_cons.mpr ⟨xc158, List.forall_mem_cons.mpr ⟨xc159, fun _ h => absurd h List.not_mem_nil⟩⟩⟩⟩⟩⟩⟩⟩⟩⟩⟩⟩⟩⟩⟩⟩⟩⟩⟩⟩⟩⟩⟩⟩⟩⟩⟩⟩⟩⟩⟩⟩
def xCt_5 : List xCe := [(12, 309, 12, 3, 156, 1), (12, 312, 12, 3, 157, 1), (12, 315, 12, 3, 159, 0), (12, 318, 12, 3, 160, 0), (12, 321, 12, 3, 163, 3), (12, 325, 12, 3, 164, 3), (12, 328, 12, 3, 165, 2), (12, 332, 12, 3, 131, 2), (12, 335, 12, 3, 166, 2), (12, 338, 12, 3, 161, 0), (12, 341, 12, 3, 167, 2), (12, 344, 12, 3, 162, 1), (12, 347, 12, 3, 171, 1), (12, 351, 12, 3, 172, 0), (12, 354, 12, 3, 174, 1), (12, 357, 12, 3, 176, 2), (12, 362, 12, 3, 181, 0), (12, 365, 12, 3, 182, 0), (12, 368, 12, 3, 130, 2), (12, 371, 12, 3, 185, 0), (12, 374, 12, 3, 186, 1), (12, 377, 12, 3, 187, 3), (12, 380, 12, 3, 188, 0), (12, 383, 12, 3, 190, 1), (12, 386, 12, 3, 193, 1), (12, 389, 12, 3, 192, 0), (12, 392, 12, 3, 194, 1), (12, 395, 12, 3, 196, 1), (12, 398, 12, 3, 203, 1), (12, 401, 12, 3, 206, 2), (12, 406, 12, 3, 207, 3), (12, 410, 12, 3, 227, 1)]
theorem xCt_k5 : ∀ e ∈ xCt_5, xCok e := List.forall_mem_cons.mpr ⟨xc160, List.forall_mem_cons.mpr ⟨xc161, List.forall_mem_cons.mpr ⟨xc162, List.forall_mem_cons.mpr ⟨xc163, List.forall_mem_cons.mpr ⟨xc164, List.forall_mem_cons.mpr ⟨xc165, List.forall_mem_cons.mpr ⟨xc166, List.forall_mem_cons.mpr ⟨xc167, List.forall_mem_cons.mpr ⟨xc168, List.forall_mem_cons.mpr ⟨xc169, List.forall_mem_cons.mpr ⟨xc170, List.forall_mem_cons.mpr ⟨xc171, List.forall_mem_cons.mpr ⟨xc172, List.forall_mem_cons.mpr ⟨xc173, List.forall_mem_cons.mpr ⟨xc174, List.forall_mem_cons.mpr ⟨xc175, List.forall_mem_cons.mpr ⟨xc176, List.forall_mem_cons.mpr ⟨xc177, List.forall_mem_cons.mpr ⟨xc178, List.forall_mem_cons.mpr ⟨xc179, List.forall_mem_cons.mpr ⟨xc180, List.forall_mem_cons.mpr ⟨xc181, List.forall_mem_cons.mpr ⟨xc182, List.forall_mem_cons.mpr ⟨xc183, List.forall_mem_cons.mpr ⟨xc184, List.forall_mem_cons.mpr ⟨xc185, List.forall_mem_cons.mpr ⟨xc186, List.forall_mem_cons.mpr ⟨xc187, List.forall_mem_cons.mpr ⟨xc188, List.forall_mem_cons.mpr ⟨xc189, List.forall_mem_cons.mpr ⟨xc190, List.forall_mem_cons.mpr ⟨xc191, fun _ h => absurd h List.not_mem_nil⟩⟩⟩⟩⟩⟩⟩⟩⟩⟩⟩⟩⟩⟩⟩⟩⟩⟩⟩⟩⟩⟩⟩⟩⟩⟩⟩⟩⟩⟩⟩⟩
def xCt_6 : List xCe := [(12, 413, 12, 3, 215, 1), (12, 416, 12, 3, 216, 2), (12, 419, 12, 3, 217, 2), (12, 422, 12, 3, 218, 2), (12, 425, 12, 3, 219, 2), (12, 428, 12, 3, 220, 2), (12, 431, 12, 3, 221, 2), (12, 434, 12, 3, 222, 2), (12, 437, 12, 3, 229, 2), (13, 9, 99, 1, 54, 0), (13, 12, 99, 1, 128, 0), (13, 13, 11, 3, 55, 1), (13, 17, 12, 3, 136, 1), (13, 18, 11, 3, 56, 5), (13, 22, 12, 3, 137, 5), (13, 23, 11, 3, 58, 2), (13, 27, 12, 3, 168, 2), (13, 28, 11, 3, 59, 2), (13, 31, 12, 3, 169, 2), (13, 32, 11, 3, 60, 3), (13, 36, 12, 3, 139, 3), (13, 37, 11, 3, 61, 2), (13, 40, 12, 3, 140, 2), (13, 41, 11, 3, 62, 2), (13, 44, 12, 3, 141, 2), (13, 45, 11, 3, 63, 2), (13, 48, 12, 3, 142, 2), (13, 49, 11, 3, 64, 1), (13, 52, 12, 3, 143, 1), (13, 53, 11, 3, 65, 0), (13, 57, 12, 3, 158, 0), (13, 58, 11, 3, 66, 1)]
theorem xCt_k6 : ∀ e ∈ xCt_6, xCok e := List.forall_mem_cons.mpr ⟨xc192, List.forall_mem_cons.mpr ⟨xc193, List.forall_mem_cons.mpr ⟨xc194, List.forall_mem_cons.mpr ⟨xc195, List.forall_mem_cons.mpr ⟨xc196, List.forall_mem_cons.mpr ⟨xc197, List.forall_mem_cons.mpr ⟨xc198, List.forall_mem_cons.mpr ⟨xc199, List.forall_mem_cons.mpr ⟨xc200, List.forall_mem_cons.mpr ⟨xc201, List.forall_mem_cons.mpr ⟨xc202, List.forall_mem_cons.mpr ⟨xc203, List.forall_mem_cons.mpr ⟨xc204, List.forall_mem_cons.mpr ⟨xc205, List.forall_mem_cons.mpr ⟨xc206, List.forall_mem_cons.mpr ⟨xc207, List.forall_mem_cons.mpr ⟨xc208, List.forall_mem_cons.mpr ⟨xc209, List.forall_mem_cons.mpr ⟨xc210, List.forall_mem_cons.mpr ⟨xc211, List.forall_mem_cons.mpr ⟨xc212, List.forall_mem_cons.mpr ⟨xc213, List.forall_mem_cons.mpr ⟨xc214, List.forall_mem_cons.mpr ⟨xc215, List.forall_mem_cons.mpr ⟨xc216, List.forall_mem_cons.mpr ⟨xc217, List.forall_mem_cons.mpr ⟨xc218, List.forall_mem_cons.mpr ⟨xc219, List.forall_mem_cons.mpr ⟨xc220, List.forall_mem_cons.mpr ⟨xc221, List.forall_mem_cons.mpr ⟨xc222, List.forall_mem_cons.mpr ⟨xc223, fun _ h => absurd h List.not_mem_nil⟩⟩⟩⟩⟩⟩⟩⟩⟩⟩⟩⟩⟩⟩⟩⟩⟩⟩⟩⟩⟩⟩⟩⟩⟩⟩⟩⟩⟩⟩⟩⟩
def xCt_7 : List xCe := [(13, 61, 12, 3, 170, 1), (13, 62, 11, 3, 67, 0), (13, 65, 12, 3, 173, 0), (13, 66, 11, 3, 68, 1), (13, 69, 12, 3, 175, 1), (13, 70, 11, 3, 69, 2), (13, 73, 12, 3, 177, 2), (13, 74, 11, 3, 70, 1), (13, 77, 12, 3, 178, 1), (13, 78, 11, 3, 71, 0), (13, 81, 12, 3, 179, 0), (13, 82, 11, 3, 72, 1), (13, 85, 12, 3, 180, 1), (13, 86, 11, 3, 73, 2), (13, 89, 12, 3, 183, 2), (13, 90, 11, 3, 74, 1), (13, 93, 12, 3, 184, 1), (13, 94, 11, 3, 75, 1), (13, 97, 12, 3, 189, 1), (13, 98, 11, 3, 76, 0), (13, 101, 12, 3, 191, 0), (13, 102, 11, 3, 77, 0), (13, 105, 12, 3, 195, 0), (13, 106, 11, 3, 78, 1), (13, 109, 12, 3, 197, 1), (13, 110, 11, 3, 79, 0), (13, 113, 12, 3, 198, 0), (13, 114, 11, 3, 80, 0), (13, 117, 12, 3, 199, 0), (13, 118, 11, 3, 81, 3), (13, 121, 12, 3, 200, 3), (13, 122, 11, 3, 82, 1)]
theorem xCt_k7 : ∀ e ∈ xCt_7, xCok e := List.forall_mem_cons.mpr ⟨xc224, List.forall_mem_cons.mpr ⟨xc225, List.forall_mem_cons.mpr ⟨xc226, List.forall_mem_cons.mpr ⟨xc227, List.forall_mem_cons.mpr ⟨xc228, List.forall_mem_cons.mpr ⟨xc229, List.forall_mem_cons.mpr ⟨xc230, List.forall_mem_cons.mpr ⟨xc231, List.forall_mem_cons.mpr ⟨xc232, List.forall_mem_cons.mpr ⟨xc233, List.forall_mem_cons.mpr ⟨xc234, List.forall_mem_cons.mpr ⟨xc235, List.forall_mem_cons.mpr ⟨xc236, List.forall_mem_cons.mpr ⟨xc237, List.forall_mem_cons.mpr ⟨xc238, List.forall_mem_cons.mpr ⟨xc239, List.forall_mem_cons.mpr ⟨xc240, List.forall_mem_cons.mpr ⟨xc241, List.forall_mem_cons.mpr ⟨xc242, List.forall_mem_cons.mpr ⟨xc243, List.forall_mem_cons.mpr ⟨xc244, List.forall_mem_cons.mpr ⟨xc245, List.forall_mem_cons.mpr ⟨xc246, List.forall_mem_cons.mpr ⟨xc247, List.forall_mem_cons.mpr ⟨xc248, List.forall_mem_cons.mpr ⟨xc249, List.forall_mem_cons.mpr ⟨xc250, List.forall_mem_cons.mpr ⟨xc251, List.forall_mem_cons.mpr ⟨xc252, List.forall_mem_cons.mpr ⟨xc253, List.forall_mem_cons.mpr ⟨xc254, List.forall_mem_cons.mpr ⟨xc255, fun _ h => absurd h List.not_mem_nil⟩⟩⟩⟩⟩⟩⟩⟩⟩⟩⟩⟩⟩⟩⟩⟩⟩⟩⟩⟩⟩⟩⟩⟩⟩⟩⟩⟩⟩⟩⟩⟩
def xCt_8 : List xCe := [(13, 125, 12, 3, 201, 1), (13, 126, 11, 3, 83, 2), (13, 129, 12, 3, 202, 2), (13, 130, 11, 3, 84, 1), (13, 133, 12, 3, 204, 1), (13, 134, 11, 3, 85, 0), (13, 137, 12, 3, 205, 0), (13, 138, 11, 3, 86, 2), (13, 142, 12, 3, 208, 2), (13, 143, 11, 3, 87, 2), (13, 146, 12, 3, 209, 2), (13, 147, 11, 3, 88, 2), (13, 150, 12, 3, 210, 2), (13, 151, 11, 3, 89, 0), (13, 154, 12, 3, 211, 0), (13, 155, 11, 3, 90, 2), (13, 158, 12, 3, 212, 2), (13, 159, 11, 3, 91, 0), (13, 162, 12, 3, 213, 0), (13, 163, 11, 3, 92, 0), (13, 166, 12, 3, 214, 0), (13, 167, 11, 3, 93, 3), (13, 170, 12, 3, 223, 3), (13, 171, 11, 3, 94, 1), (13, 174, 12, 3, 224, 1), (13, 175, 11, 3, 95, 2), (13, 178, 12, 3, 225, 2), (13, 179, 11, 3, 96, 1), (13, 182, 12, 3, 226, 1), (13, 183, 11, 3, 97, 3), (13, 186, 12, 3, 228, 3), (13, 189, 11, 3, 98, 3)]
theorem xCt_k8 : ∀ e ∈ xCt_8, xCok e := List.forall_mem_cons.mpr ⟨xc256, List.forall_mem_cons.mpr ⟨xc257, List.forall_mem_cons.mpr ⟨xc258, List.forall_mem_cons.mpr ⟨xc259, List.forall_mem_cons.mpr ⟨xc260, List.forall_mem_cons.mpr ⟨xc261, List.forall_mem_cons.mpr ⟨xc262, List.forall_mem_cons.mpr ⟨xc263, List.forall_mem_cons.mpr ⟨xc264, List.forall_mem_cons.mpr ⟨xc265, List.forall_mem_cons.mpr ⟨xc266, List.forall_mem_cons.mpr ⟨xc267, List.forall_mem_cons.mpr ⟨xc268, List.forall_mem_cons.mpr ⟨xc269, List.forall_mem_cons.mpr ⟨xc270, List.forall_mem_cons.mpr ⟨xc271, List.forall_mem_cons.mpr ⟨xc272, List.forall_mem_cons.mpr ⟨xc273, List.forall_mem_cons.mpr ⟨xc274, List.forall_mem_cons.mpr ⟨xc275, List.forall_mem_cons.mpr ⟨xc276, List.forall_mem_cons.mpr ⟨xc277, List.forall_mem_cons.mpr ⟨xc278, List.forall_mem_cons.mpr ⟨xc279, List.forall_mem_cons.mpr ⟨xc280, List.forall_mem_cons.mpr ⟨xc281, List.forall_mem_cons.mpr ⟨xc282, List.forall_mem_cons.mpr ⟨xc283, List.forall_mem_cons.mpr ⟨xc284, List.forall_mem_cons.mpr ⟨xc285, List.forall_mem_cons.mpr ⟨xc286, List.forall_mem_cons.mpr ⟨xc287, fun _ h => absurd h List.not_mem_nil⟩⟩⟩⟩⟩⟩⟩⟩⟩⟩⟩⟩⟩⟩⟩⟩⟩⟩⟩⟩⟩⟩⟩⟩⟩⟩⟩⟩⟩⟩⟩⟩
def xCt_9 : List xCe := [(13, 193, 12, 3, 230, 3), (13, 194, 11, 3, 99, 2), (13, 197, 12, 3, 231, 2), (13, 198, 11, 3, 100, 5), (13, 201, 12, 3, 232, 5), (16, 335, 16, 9, 237, 0), (16, 492, 16, 9, 238, 0), (16, 495, 99, 0, 240, 2), (16, 1059, 99, 0, 243, 3), (17, 9, 99, 0, 239, 2)]
theorem xCt_k9 : ∀ e ∈ xCt_9, xCok e := List.forall_mem_cons.mpr ⟨xc288, List.forall_mem_cons.mpr ⟨xc289, List.forall_mem_cons.mpr ⟨xc290, List.forall_mem_cons.mpr ⟨xc291, List.forall_mem_cons.mpr ⟨xc292, List.forall_mem_cons.mpr ⟨xc293, List.forall_mem_cons.mpr ⟨xc294, List.forall_mem_cons.mpr ⟨xc295, List.forall_mem_cons.mpr ⟨xc296, List.forall_mem_cons.mpr ⟨xc297, fun _ h => absurd h List.not_mem_nil⟩⟩⟩⟩⟩⟩⟩⟩⟩⟩
def xCt : List xCe := xCt_0 ++ (xCt_1 ++ (xCt_2 ++ (xCt_3 ++ (xCt_4 ++ (xCt_5 ++ (xCt_6 ++ (xCt_7 ++ (xCt_8 ++ (xCt_9)))))))))
theorem xCt_ok : ∀ e ∈ xCt, xCok e := List.forall_mem_append.mpr ⟨xCt_k0, List.forall_mem_append.mpr ⟨xCt_k1, List.forall_mem_append.mpr ⟨xCt_k2, List.forall_mem_append.mpr ⟨xCt_k3, List.forall_mem_append.mpr ⟨xCt_k4, List.forall_mem_append.mpr ⟨xCt_k5, List.forall_mem_append.mpr ⟨xCt_k6, List.forall_mem_append.mpr ⟨xCt_k7, List.forall_mem_append.mpr ⟨xCt_k8, xCt_k9⟩⟩⟩⟩⟩⟩⟩⟩⟩
def xPok (e : Nat × Nat × Nat) : Prop := match e.2.2 with
  | 10 => Cond.methodLink (xR e.1) e.2.1 Lib.Math.max.name ∈ xW
  | 11 => Cond.methodLink (xR e.1) e.2.1 Lib.Math.min.name ∈ xW
  | 12 => Cond.methodLink (xR e.1) e.2.1 Lib.Math.abs.name ∈ xW
  | 13 => Cond.methodLink (xR e.1) e.2.1 arraycopyName ∈ xW
  | 14 => Cond.methodLink (xR e.1) e.2.1 objectInit ∈ xW
  | _ => False
theorem xw1374 : Cond.methodLink "HatsDecide$Frayed" 17 ⟨"java/lang/Math", "max", "(II)I"⟩ ∈ xW := xin (xt2 (i := 227) rfl) rfl
theorem xp0 : xPok (1, 17, 10) := xw1374
theorem xw1375 : Cond.methodLink "HatsDecide$Hat" 1 ⟨"java/lang/Object", "<init>", "()V"⟩ ∈ xW := xin (xt2 (i := 40) rfl) rfl
theorem xp1 : xPok (2, 1, 14) := xw1375
theorem xw1376 : Cond.methodLink "HatsDecide$Hat" 29 ⟨"java/lang/Math", "max", "(II)I"⟩ ∈ xW := xin (xt3 (i := 3) rfl) rfl
theorem xp2 : xPok (2, 29, 10) := xw1376
theorem xw1377 : Cond.methodLink "HatsDecide$Scene" 3 ⟨"java/lang/Object", "<init>", "()V"⟩ ∈ xW := xin (xt1 (i := 35) rfl) rfl
theorem xp3 : xPok (3, 3, 14) := xw1377
theorem xw1378 : Cond.methodLink "HatsDecide$Scene" 74 ⟨"java/lang/Math", "min", "(II)I"⟩ ∈ xW := xin (xt4 (i := 90) rfl) rfl
theorem xp4 : xPok (3, 74, 11) := xw1378
theorem xw1379 : Cond.methodLink "HatsDecide$Scene" 80 ⟨"java/lang/System", "arraycopy", "(Ljava/lang/Object;ILjava/lang/Object;II)V"⟩ ∈ xW := xin (xt4 (i := 91) rfl) rfl
theorem xp5 : xPok (3, 80, 13) := xw1379
theorem xw1380 : Cond.methodLink "HatsDecide$Tape" 3 ⟨"java/lang/Object", "<init>", "()V"⟩ ∈ xW := xin (xt1 (i := 191) rfl) rfl
theorem xp6 : xPok (5, 3, 14) := xw1380
theorem xw1381 : Cond.methodLink "HatsDecide$Tight" 11 ⟨"java/lang/Math", "max", "(II)I"⟩ ∈ xW := xin (xt2 (i := 235) rfl) rfl
theorem xp7 : xPok (6, 11, 10) := xw1381
theorem xw1382 : Cond.methodLink "HatsDecide$Town" 3 ⟨"java/lang/Object", "<init>", "()V"⟩ ∈ xW := xin (xt1 (i := 118) rfl) rfl
theorem xp8 : xPok (8, 3, 14) := xw1382
theorem xw1383 : Cond.methodLink "HatsDecide$Town" 75 ⟨"java/lang/Math", "min", "(II)I"⟩ ∈ xW := xin (xt3 (i := 40) rfl) rfl
theorem xp9 : xPok (8, 75, 11) := xw1383
theorem xw1384 : Cond.methodLink "HatsDecide$Trace" 3 ⟨"java/lang/Object", "<init>", "()V"⟩ ∈ xW := xin (xt1 (i := 164) rfl) rfl
theorem xp10 : xPok (9, 3, 14) := xw1384
theorem xw1385 : Cond.methodLink "HatsDecide$Worn" 11 ⟨"java/lang/Math", "max", "(II)I"⟩ ∈ xW := xin (xt2 (i := 224) rfl) rfl
theorem xp11 : xPok (10, 11, 10) := xw1385
theorem xw1386 : Cond.methodLink "HatsDecide" 5 ⟨"java/lang/Object", "<init>", "()V"⟩ ∈ xW := xin (xt1 (i := 27) rfl) rfl
theorem xp12 : xPok (11, 5, 14) := xw1386
theorem xw1387 : Cond.methodLink "HatsDecide" 210 ⟨"java/lang/Math", "min", "(II)I"⟩ ∈ xW := xin (xt3 (i := 138) rfl) rfl
theorem xp13 : xPok (11, 210, 11) := xw1387
theorem xw1388 : Cond.methodLink "HatsDecide" 219 ⟨"java/lang/System", "arraycopy", "(Ljava/lang/Object;ILjava/lang/Object;II)V"⟩ ∈ xW := xin (xt3 (i := 146) rfl) rfl
theorem xp14 : xPok (11, 219, 13) := xw1388
theorem xw1389 : Cond.methodLink "HatsDecide" 336 ⟨"java/lang/Math", "abs", "(I)I"⟩ ∈ xW := xin (xt2 (i := 186) rfl) rfl
theorem xp15 : xPok (11, 336, 12) := xw1389
theorem xw1390 : Cond.methodLink "HatsDecide" 358 ⟨"java/lang/Math", "max", "(II)I"⟩ ∈ xW := xin (xt3 (i := 207) rfl) rfl
theorem xp16 : xPok (11, 358, 10) := xw1390
theorem xw1391 : Cond.methodLink "HatsDecideModel" 1 ⟨"java/lang/Object", "<init>", "()V"⟩ ∈ xW := xin (xt4 (i := 230) rfl) rfl
theorem xp17 : xPok (12, 1, 14) := xw1391
def xPt_0 : List (Nat × Nat × Nat) := [(1, 17, 10), (2, 1, 14), (2, 29, 10), (3, 3, 14), (3, 74, 11), (3, 80, 13), (5, 3, 14), (6, 11, 10), (8, 3, 14), (8, 75, 11), (9, 3, 14), (10, 11, 10), (11, 5, 14), (11, 210, 11), (11, 219, 13), (11, 336, 12), (11, 358, 10), (12, 1, 14)]
theorem xPt_k0 : ∀ e ∈ xPt_0, xPok e := List.forall_mem_cons.mpr ⟨xp0, List.forall_mem_cons.mpr ⟨xp1, List.forall_mem_cons.mpr ⟨xp2, List.forall_mem_cons.mpr ⟨xp3, List.forall_mem_cons.mpr ⟨xp4, List.forall_mem_cons.mpr ⟨xp5, List.forall_mem_cons.mpr ⟨xp6, List.forall_mem_cons.mpr ⟨xp7, List.forall_mem_cons.mpr ⟨xp8, List.forall_mem_cons.mpr ⟨xp9, List.forall_mem_cons.mpr ⟨xp10, List.forall_mem_cons.mpr ⟨xp11, List.forall_mem_cons.mpr ⟨xp12, List.forall_mem_cons.mpr ⟨xp13, List.forall_mem_cons.mpr ⟨xp14, List.forall_mem_cons.mpr ⟨xp15, List.forall_mem_cons.mpr ⟨xp16, List.forall_mem_cons.mpr ⟨xp17, fun _ h => absurd h List.not_mem_nil⟩⟩⟩⟩⟩⟩⟩⟩⟩⟩⟩⟩⟩⟩⟩⟩⟩⟩
def xPt : List (Nat × Nat × Nat) := xPt_0
theorem xPt_ok : ∀ e ∈ xPt, xPok e := xPt_k0
theorem xw1392 : Cond.static ⟨"java/lang/Math", "max", "(II)I"⟩ ∈ xW := xin (xt2 (i := 225) rfl) rfl
theorem xwMaxS : Cond.static Lib.Math.max.name ∈ xW := xw1392
theorem xw1393 : Cond.code ⟨"java/lang/Math", "max", "(II)I"⟩ prog_16_method_65_code 2 (Option.some Jvm.ClassFile.FieldType.int) ∈ xW := xin (xt2 (i := 226) rfl) rfl
theorem xwMaxC : Cond.code Lib.Math.max.name Lib.Math.max.code 2 (some .int) ∈ xW := xw1393
theorem xw1394 : Cond.static ⟨"java/lang/Math", "min", "(II)I"⟩ ∈ xW := xin (xt3 (i := 41) rfl) rfl
theorem xwMinS : Cond.static Lib.Math.min.name ∈ xW := xw1394
theorem xw1395 : Cond.code ⟨"java/lang/Math", "min", "(II)I"⟩ prog_16_method_69_code 2 (Option.some Jvm.ClassFile.FieldType.int) ∈ xW := xin (xt3 (i := 42) rfl) rfl
theorem xwMinC : Cond.code Lib.Math.min.name Lib.Math.min.code 2 (some .int) ∈ xW := xw1395
theorem xw1396 : Cond.static ⟨"java/lang/Math", "abs", "(I)I"⟩ ∈ xW := xin (xt2 (i := 187) rfl) rfl
theorem xwAbsS : Cond.static Lib.Math.abs.name ∈ xW := xw1396
theorem xw1397 : Cond.code ⟨"java/lang/Math", "abs", "(I)I"⟩ prog_16_method_59_code 1 (Option.some Jvm.ClassFile.FieldType.int) ∈ xW := xin (xt2 (i := 188) rfl) rfl
theorem xwAbsC : Cond.code Lib.Math.abs.name Lib.Math.abs.code 1 (some .int) ∈ xW := xw1397
theorem xw1398 : Cond.initialized "java/lang/Math" ∈ xW := xin (xt1 (i := 15) rfl) rfl
theorem xwMathI : Cond.initialized "java/lang/Math" ∈ xW := xw1398
theorem xw1399 : Cond.native ⟨"java/lang/System", "arraycopy", "(Ljava/lang/Object;ILjava/lang/Object;II)V"⟩ ∈ xW := xin (xt3 (i := 148) rfl) rfl
theorem xwCpyN : Cond.native arraycopyName ∈ xW := xw1399
theorem xw1400 : Cond.static ⟨"java/lang/System", "arraycopy", "(Ljava/lang/Object;ILjava/lang/Object;II)V"⟩ ∈ xW := xin (xt3 (i := 147) rfl) rfl
theorem xwCpyS : Cond.static arraycopyName ∈ xW := xw1400
theorem xw1401 : Cond.initialized "java/lang/System" ∈ xW := xin (xt1 (i := 20) rfl) rfl
theorem xwCpyI : Cond.initialized "java/lang/System" ∈ xW := xw1401
theorem xw1402 : Cond.instanceMethod ⟨"java/lang/Object", "<init>", "()V"⟩ ∈ xW := xin (xt1 (i := 28) rfl) rfl
theorem xwObjI : Cond.instanceMethod objectInit ∈ xW := xw1402
theorem xw1403 : Cond.code ⟨"java/lang/Object", "<init>", "()V"⟩ object_method_1_code 1 (Option.none : Option Jvm.ClassFile.FieldType) ∈ xW := xin (xt1 (i := 29) rfl) rfl
theorem xwObjC : Cond.code objectInit ⟨#[0xb1]⟩ 1 none ∈ xW := xw1403
def xKok (e : Nat × Nat × Int32) : Prop := Cond.constant (xR e.1) e.2.1 e.2.2 ∈ xW
theorem xw1404 : Cond.constant "HatsDecide" 209 999999 ∈ xW := xin (xt3 (i := 137) rfl) rfl
theorem xk0 : xKok (11, 209, 999999) := xw1404
theorem xw1405 : Cond.constant "java/lang/Integer" 265 1431655765 ∈ xW := xin (xt3 (i := 192) rfl) rfl
theorem xk1 : xKok (14, 265, 1431655765) := xw1405
theorem xw1406 : Cond.constant "java/lang/Integer" 266 858993459 ∈ xW := xin (xt3 (i := 193) rfl) rfl
theorem xk2 : xKok (14, 266, 858993459) := xw1406
theorem xw1407 : Cond.constant "java/lang/Integer" 267 252645135 ∈ xW := xin (xt3 (i := 194) rfl) rfl
theorem xk3 : xKok (14, 267, 252645135) := xw1407
theorem xw1408 : Cond.constant "HatsDecideModel" 350 999999 ∈ xW := xin (xt6 (i := 159) rfl) rfl
theorem xk4 : xKok (12, 350, 999999) := xw1408
theorem xw1409 : Cond.constant "HatsDecideModel" 361 2000000000 ∈ xW := xin (xt6 (i := 200) rfl) rfl
theorem xk5 : xKok (12, 361, 2000000000) := xw1409
def xKt_0 : List (Nat × Nat × Int32) := [(11, 209, 999999), (14, 265, 1431655765), (14, 266, 858993459), (14, 267, 252645135), (12, 350, 999999), (12, 361, 2000000000)]
theorem xKt_k0 : ∀ e ∈ xKt_0, xKok e := List.forall_mem_cons.mpr ⟨xk0, List.forall_mem_cons.mpr ⟨xk1, List.forall_mem_cons.mpr ⟨xk2, List.forall_mem_cons.mpr ⟨xk3, List.forall_mem_cons.mpr ⟨xk4, List.forall_mem_cons.mpr ⟨xk5, fun _ h => absurd h List.not_mem_nil⟩⟩⟩⟩⟩⟩
def xKt : List (Nat × Nat × Int32) := xKt_0
theorem xKt_ok : ∀ e ∈ xKt, xKok e := xKt_k0
def xLok (e : Nat × Nat × Int64) : Prop := Cond.constantLong (xR e.1) e.2.1 e.2.2 ∈ xW
theorem xw1410 : Cond.constantLong "HatsDecide" 275 (-9223372036854775808) ∈ xW := xin (xt4 (i := 51) rfl) rfl
theorem xl0 : xLok (11, 275, -9223372036854775808) := xw1410
theorem xw1411 : Cond.constantLong "HatsDecideModel" 404 (-9223372036854775808) ∈ xW := xin (xt7 (i := 61) rfl) rfl
theorem xl1 : xLok (12, 404, -9223372036854775808) := xw1411
theorem xw1412 : Cond.constantLong "HatsDecideLaw" 187 4294967295 ∈ xW := xin (xt7 (i := 166) rfl) rfl
theorem xl2 : xLok (13, 187, 4294967295) := xw1412
def xLt_0 : List (Nat × Nat × Int64) := [(11, 275, -9223372036854775808), (12, 404, -9223372036854775808), (13, 187, 4294967295)]
theorem xLt_k0 : ∀ e ∈ xLt_0, xLok e := List.forall_mem_cons.mpr ⟨xl0, List.forall_mem_cons.mpr ⟨xl1, List.forall_mem_cons.mpr ⟨xl2, fun _ h => absurd h List.not_mem_nil⟩⟩⟩
def xLt : List (Nat × Nat × Int64) := xLt_0
theorem xLt_ok : ∀ e ∈ xLt, xLok e := xLt_k0
def xDok (e : Nat × Nat × Nat) : Prop := e.2.2 < 13 ∧ Cond.classLink (xR e.1) e.2.1 (xR e.2.2) ∈ xW
theorem xw1413 : Cond.classLink "HatsDecideLaw" 7 "HatsDecide" ∈ xW := xin (xt1 (i := 22) rfl) rfl
theorem xd0 : xDok (13, 7, 11) := ⟨by decide, xw1413⟩
theorem xw1414 : Cond.classLink "HatsDecide" 11 "HatsDecide$Scene" ∈ xW := xin (xt1 (i := 30) rfl) rfl
theorem xd1 : xDok (11, 11, 3) := ⟨by decide, xw1414⟩
theorem xw1415 : Cond.classLink "HatsDecide$Scene" 28 "HatsDecide$Hat" ∈ xW := xin (xt1 (i := 36) rfl) rfl
theorem xd2 : xDok (3, 28, 2) := ⟨by decide, xw1415⟩
theorem xw1416 : Cond.classLink "HatsDecide" 33 "HatsDecide$Town" ∈ xW := xin (xt1 (i := 112) rfl) rfl
theorem xd3 : xDok (11, 33, 8) := ⟨by decide, xw1416⟩
theorem xw1417 : Cond.classLink "HatsDecide" 47 "HatsDecide$Trace" ∈ xW := xin (xt1 (i := 159) rfl) rfl
theorem xd4 : xDok (11, 47, 9) := ⟨by decide, xw1417⟩
theorem xw1418 : Cond.classLink "HatsDecide" 54 "HatsDecide$Tape" ∈ xW := xin (xt1 (i := 174) rfl) rfl
theorem xd5 : xDok (11, 54, 5) := ⟨by decide, xw1418⟩
theorem xw1419 : Cond.classLink "HatsDecide" 128 "HatsDecide$Tight" ∈ xW := xin (xt2 (i := 32) rfl) rfl
theorem xd6 : xDok (11, 128, 6) := ⟨by decide, xw1419⟩
theorem xw1420 : Cond.classLink "HatsDecide" 133 "HatsDecide$Worn" ∈ xW := xin (xt2 (i := 84) rfl) rfl
theorem xd7 : xDok (11, 133, 10) := ⟨by decide, xw1420⟩
theorem xw1421 : Cond.classLink "HatsDecide" 136 "HatsDecide$Crown" ∈ xW := xin (xt2 (i := 97) rfl) rfl
theorem xd8 : xDok (11, 136, 0) := ⟨by decide, xw1421⟩
theorem xw1422 : Cond.classLink "HatsDecide" 139 "HatsDecide$Stiff" ∈ xW := xin (xt2 (i := 110) rfl) rfl
theorem xd9 : xDok (11, 139, 4) := ⟨by decide, xw1422⟩
theorem xw1423 : Cond.classLink "HatsDecide" 142 "HatsDecide$Frayed" ∈ xW := xin (xt2 (i := 123) rfl) rfl
theorem xd10 : xDok (11, 142, 1) := ⟨by decide, xw1423⟩
theorem xw1424 : Cond.classLink "HatsDecide" 145 "HatsDecide$Told" ∈ xW := xin (xt2 (i := 136) rfl) rfl
theorem xd11 : xDok (11, 145, 7) := ⟨by decide, xw1424⟩
theorem xw1425 : Cond.classLink "HatsDecide" 148 "HatsDecide$Hat" ∈ xW := xin (xt2 (i := 149) rfl) rfl
theorem xd12 : xDok (11, 148, 2) := ⟨by decide, xw1425⟩
theorem xw1426 : Cond.classLink "HatsDecideLaw" 10 "HatsDecideModel" ∈ xW := xin (xt4 (i := 225) rfl) rfl
theorem xd13 : xDok (13, 10, 12) := ⟨by decide, xw1426⟩
def xDt_0 : List (Nat × Nat × Nat) := [(13, 7, 11), (11, 11, 3), (3, 28, 2), (11, 33, 8), (11, 47, 9), (11, 54, 5), (11, 128, 6), (11, 133, 10), (11, 136, 0), (11, 139, 4), (11, 142, 1), (11, 145, 7), (11, 148, 2), (13, 10, 12)]
theorem xDt_k0 : ∀ e ∈ xDt_0, xDok e := List.forall_mem_cons.mpr ⟨xd0, List.forall_mem_cons.mpr ⟨xd1, List.forall_mem_cons.mpr ⟨xd2, List.forall_mem_cons.mpr ⟨xd3, List.forall_mem_cons.mpr ⟨xd4, List.forall_mem_cons.mpr ⟨xd5, List.forall_mem_cons.mpr ⟨xd6, List.forall_mem_cons.mpr ⟨xd7, List.forall_mem_cons.mpr ⟨xd8, List.forall_mem_cons.mpr ⟨xd9, List.forall_mem_cons.mpr ⟨xd10, List.forall_mem_cons.mpr ⟨xd11, List.forall_mem_cons.mpr ⟨xd12, List.forall_mem_cons.mpr ⟨xd13, fun _ h => absurd h List.not_mem_nil⟩⟩⟩⟩⟩⟩⟩⟩⟩⟩⟩⟩⟩⟩
def xDt : List (Nat × Nat × Nat) := xDt_0
theorem xDt_ok : ∀ e ∈ xDt, xDok e := xDt_k0
theorem xw1427 : Cond.arrayClass Jvm.ClassFile.FieldType.int ∈ xW := xin (xt1 (i := 111) rfl) rfl
theorem xwA_int : Cond.arrayClass .int ∈ xW := xw1427
theorem xw1428 : Cond.arrayClass Jvm.ClassFile.FieldType.long ∈ xW := xin (xt1 (i := 204) rfl) rfl
theorem xwA_long : Cond.arrayClass .long ∈ xW := xw1428
theorem xw1429 : Cond.arrayClass Jvm.ClassFile.FieldType.byte ∈ xW := xin (xt1 (i := 158) rfl) rfl
theorem xwA_byte : Cond.arrayClass .byte ∈ xW := xw1429
theorem xw1430 : Cond.arrayClass Jvm.ClassFile.FieldType.boolean ∈ xW := xin (xt5 (i := 226) rfl) rfl
theorem xwA_boolean : Cond.arrayClass .boolean ∈ xW := xw1430
theorem xtO_Hat : Cond.arrayOver (.object "HatsDecide$Hat") ∈ tables_1 := xt1 (i := 37) rfl
theorem xtO_Town : Cond.arrayOver (.object "HatsDecide$Town") ∈ tables_1 := xt1 (i := 113) rfl
theorem xtO_Tape : Cond.arrayOver (.object "HatsDecide$Tape") ∈ tables_1 := xt1 (i := 175) rfl
theorem xtK_Stiff_Tight : Cond.castable "HatsDecide$Stiff" "HatsDecide$Tight" ∈ tables_1 := xt7 (i := 171) rfl
theorem xtK_Frayed_Worn : Cond.castable "HatsDecide$Frayed" "HatsDecide$Worn" ∈ tables_1 := xt7 (i := 172) rfl
theorem xtK_Told_Crown : Cond.castable "HatsDecide$Told" "HatsDecide$Crown" ∈ tables_1 := xt7 (i := 173) rfl
theorem xtK_Tight_Hat : Cond.castable "HatsDecide$Tight" "HatsDecide$Hat" ∈ tables_1 := xt7 (i := 174) rfl
theorem xtK_Worn_Hat : Cond.castable "HatsDecide$Worn" "HatsDecide$Hat" ∈ tables_1 := xt7 (i := 175) rfl
theorem xtK_Crown_Hat : Cond.castable "HatsDecide$Crown" "HatsDecide$Hat" ∈ tables_1 := xt7 (i := 176) rfl
theorem xtK_Stiff_Hat : Cond.castable "HatsDecide$Stiff" "HatsDecide$Hat" ∈ tables_1 := xt7 (i := 177) rfl
theorem xtK_Frayed_Hat : Cond.castable "HatsDecide$Frayed" "HatsDecide$Hat" ∈ tables_1 := xt7 (i := 178) rfl
theorem xtK_Told_Hat : Cond.castable "HatsDecide$Told" "HatsDecide$Hat" ∈ tables_1 := xt7 (i := 179) rfl
theorem xw1431 : Cond.fieldLink "HatsDecide$Town" 37 "HatsDecide$Town" "NO_BYTES" "[B" ∈ xW := xin (xt1 (i := 119) rfl) rfl
theorem xwNB : Cond.fieldLink RX8 37 "HatsDecide$Town" "NO_BYTES" "[B" ∈ xW := xw1431
theorem xw1432 : Cond.fieldLink "java/lang/String" 9 "java/lang/String" "value" "[B" ∈ xW := xin (xt7 (i := 180) rfl) rfl
theorem xwSV : Cond.fieldLink "java/lang/String" 9 "java/lang/String" "value" "[B" ∈ xW := xw1432
theorem xw1433 : Cond.fieldLink "java/lang/String" 15 "java/lang/String" "coder" "B" ∈ xW := xin (xt7 (i := 181) rfl) rfl
theorem xwSC : Cond.fieldLink "java/lang/String" 15 "java/lang/String" "coder" "B" ∈ xW := xw1433
theorem xw1434 : Cond.fieldLink "java/lang/String" 38 "java/lang/String" "COMPACT_STRINGS" "Z" ∈ xW := xin (xt1 (i := 185) rfl) rfl
theorem xwCS : Cond.fieldLink "java/lang/String" 38 "java/lang/String" "COMPACT_STRINGS" "Z" ∈ xW := xw1434
theorem xw1435 : Cond.fieldLink "java/lang/String" 1053 "jdk/internal/util/Preconditions" "SIOOBE_FORMATTER" "Ljava/util/function/BiFunction;" ∈ xW := xin (xt3 (i := 74) rfl) rfl
theorem xwFO : Cond.fieldLink "java/lang/String" 1053 "jdk/internal/util/Preconditions" "SIOOBE_FORMATTER" "Ljava/util/function/BiFunction;" ∈ xW := xw1435
