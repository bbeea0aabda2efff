section
def lw_okq (q : MethodName × Nat) : Prop := (q.1.cls ≠ "java/lang/invoke/MethodHandle" ∧ q.1.cls ≠ "java/lang/invoke/VarHandle") ∧ Cond.instantiable q.1.cls q.2 ∈ tables_1 ∧ Cond.privateMethod q.1 ∈ tables_1 ∧ Cond.instanceMethod q.1 ∈ tables_1
theorem lw_p0 : lw_okq (⟨"LongestMet$Text", "scanPart", "()I"⟩, 4) := ⟨⟨by decide +kernel, by decide +kernel⟩, List.mem_of_getElem? (i := 26) (by decide +kernel), List.mem_of_getElem? (i := 231) (by decide +kernel), List.mem_of_getElem? (i := 232) (by decide +kernel)⟩
theorem lw_p1 : lw_okq (⟨"LongestMet$Text", "scanNumber", "()I"⟩, 4) := ⟨⟨by decide +kernel, by decide +kernel⟩, List.mem_of_getElem? (i := 26) (by decide +kernel), List.mem_of_getElem? (i := 235) (by decide +kernel), List.mem_of_getElem? (i := 236) (by decide +kernel)⟩
theorem lw_p2 : lw_okq (⟨"LongestMet$Text", "ahead", "()I"⟩, 4) := ⟨⟨by decide +kernel, by decide +kernel⟩, List.mem_of_getElem? (i := 26) (by decide +kernel), List.mem_of_getElem? (i := 239) (by decide +kernel), List.mem_of_getElem? (i := 240) (by decide +kernel)⟩
theorem lw_p3 : lw_okq (⟨"LongestMet$Stop", "gapBehind", "(II)I"⟩, 1) := ⟨⟨by decide +kernel, by decide +kernel⟩, List.mem_of_getElem? (i := 46) (by decide +kernel), List.mem_of_getElem? (i := 292) (by decide +kernel), List.mem_of_getElem? (i := 293) (by decide +kernel)⟩
theorem lw_p4 : lw_okq (⟨"LongestMet$Holding", "takeBuses", "(J)V"⟩, 5) := ⟨⟨by decide +kernel, by decide +kernel⟩, List.mem_of_getElem? (i := 57) (by decide +kernel), List.mem_of_getElem? (i := 331) (by decide +kernel), List.mem_of_getElem? (i := 332) (by decide +kernel)⟩
theorem lw_p5 : lw_okq (⟨"LongestMet$Holding", "leastWithFirst", "(I)I"⟩, 5) := ⟨⟨by decide +kernel, by decide +kernel⟩, List.mem_of_getElem? (i := 57) (by decide +kernel), List.mem_of_getElem? (i := 337) (by decide +kernel), List.mem_of_getElem? (i := 338) (by decide +kernel)⟩
theorem lw_p6 : lw_okq (⟨"LongestMet$Holding", "leastOnward", "(III)I"⟩, 5) := ⟨⟨by decide +kernel, by decide +kernel⟩, List.mem_of_getElem? (i := 57) (by decide +kernel), List.mem_of_getElem? (i := 341) (by decide +kernel), List.mem_of_getElem? (i := 342) (by decide +kernel)⟩
theorem lw_p7 : lw_okq (⟨"LongestMet$Holding", "through", "(III)I"⟩, 5) := ⟨⟨by decide +kernel, by decide +kernel⟩, List.mem_of_getElem? (i := 57) (by decide +kernel), List.mem_of_getElem? (i := 346) (by decide +kernel), List.mem_of_getElem? (i := 347) (by decide +kernel)⟩
theorem lw_p8 : lw_okq (⟨"LongestMet$Holding", "chooseLater", "(I)V"⟩, 5) := ⟨⟨by decide +kernel, by decide +kernel⟩, List.mem_of_getElem? (i := 57) (by decide +kernel), List.mem_of_getElem? (i := 353) (by decide +kernel), List.mem_of_getElem? (i := 354) (by decide +kernel)⟩
theorem lw_p9 : lw_okq (⟨"LongestMet$Holding", "leastLater", "(III)I"⟩, 5) := ⟨⟨by decide +kernel, by decide +kernel⟩, List.mem_of_getElem? (i := 57) (by decide +kernel), List.mem_of_getElem? (i := 357) (by decide +kernel), List.mem_of_getElem? (i := 358) (by decide +kernel)⟩
theorem lw_p10 : lw_okq (⟨"LongestMet$Survey", "counts", "(I)Z"⟩, 6) := ⟨⟨by decide +kernel, by decide +kernel⟩, List.mem_of_getElem? (i := 81) (by decide +kernel), List.mem_of_getElem? (i := 431) (by decide +kernel), List.mem_of_getElem? (i := 432) (by decide +kernel)⟩
theorem lw_p11 : lw_okq (⟨"LongestMet$Country", "childrenOf", "(I)I"⟩, 1) := ⟨⟨by decide +kernel, by decide +kernel⟩, List.mem_of_getElem? (i := 106) (by decide +kernel), List.mem_of_getElem? (i := 478) (by decide +kernel), List.mem_of_getElem? (i := 479) (by decide +kernel)⟩
theorem lw_p12 : lw_okq (⟨"LongestMet$Ward", "weight", "(IIII)J"⟩, 3) := ⟨⟨by decide +kernel, by decide +kernel⟩, List.mem_of_getElem? (i := 117) (by decide +kernel), List.mem_of_getElem? (i := 548) (by decide +kernel), List.mem_of_getElem? (i := 549) (by decide +kernel)⟩
theorem lw_p13 : lw_okq (⟨"LongestMet$Ward", "firstEnd", "(I)I"⟩, 3) := ⟨⟨by decide +kernel, by decide +kernel⟩, List.mem_of_getElem? (i := 117) (by decide +kernel), List.mem_of_getElem? (i := 576) (by decide +kernel), List.mem_of_getElem? (i := 577) (by decide +kernel)⟩
theorem lw_p14 : lw_okq (⟨"LongestMet$Circle", "friendsOf", "(I)I"⟩, 1) := ⟨⟨by decide +kernel, by decide +kernel⟩, List.mem_of_getElem? (i := 133) (by decide +kernel), List.mem_of_getElem? (i := 605) (by decide +kernel), List.mem_of_getElem? (i := 606) (by decide +kernel)⟩
theorem lw_p15 : lw_okq (⟨"LongestMet$Circle", "friendsOfHers", "(I)I"⟩, 1) := ⟨⟨by decide +kernel, by decide +kernel⟩, List.mem_of_getElem? (i := 133) (by decide +kernel), List.mem_of_getElem? (i := 620) (by decide +kernel), List.mem_of_getElem? (i := 621) (by decide +kernel)⟩
def lw_privs_1 : List (MethodName × Nat) := [(⟨"LongestMet$Text", "scanPart", "()I"⟩, 4), (⟨"LongestMet$Text", "scanNumber", "()I"⟩, 4), (⟨"LongestMet$Text", "ahead", "()I"⟩, 4), (⟨"LongestMet$Stop", "gapBehind", "(II)I"⟩, 1), (⟨"LongestMet$Holding", "takeBuses", "(J)V"⟩, 5), (⟨"LongestMet$Holding", "leastWithFirst", "(I)I"⟩, 5), (⟨"LongestMet$Holding", "leastOnward", "(III)I"⟩, 5), (⟨"LongestMet$Holding", "through", "(III)I"⟩, 5), (⟨"LongestMet$Holding", "chooseLater", "(I)V"⟩, 5), (⟨"LongestMet$Holding", "leastLater", "(III)I"⟩, 5), (⟨"LongestMet$Survey", "counts", "(I)Z"⟩, 6), (⟨"LongestMet$Country", "childrenOf", "(I)I"⟩, 1), (⟨"LongestMet$Ward", "weight", "(IIII)J"⟩, 3), (⟨"LongestMet$Ward", "firstEnd", "(I)I"⟩, 3), (⟨"LongestMet$Circle", "friendsOf", "(I)I"⟩, 1), (⟨"LongestMet$Circle", "friendsOfHers", "(I)I"⟩, 1)]
theorem lw_r1 : ∀ q ∈ lw_privs_1, lw_okq q := List.forall_mem_cons.mpr ⟨lw_p0, List.forall_mem_cons.mpr ⟨lw_p1, List.forall_mem_cons.mpr ⟨lw_p2, List.forall_mem_cons.mpr ⟨lw_p3, List.forall_mem_cons.mpr ⟨lw_p4, List.forall_mem_cons.mpr ⟨lw_p5, List.forall_mem_cons.mpr ⟨lw_p6, List.forall_mem_cons.mpr ⟨lw_p7, List.forall_mem_cons.mpr ⟨lw_p8, List.forall_mem_cons.mpr ⟨lw_p9, List.forall_mem_cons.mpr ⟨lw_p10, List.forall_mem_cons.mpr ⟨lw_p11, List.forall_mem_cons.mpr ⟨lw_p12, List.forall_mem_cons.mpr ⟨lw_p13, List.forall_mem_cons.mpr ⟨lw_p14, List.forall_mem_cons.mpr ⟨lw_p15, fun _ h => absurd h List.not_mem_nil⟩⟩⟩⟩⟩⟩⟩⟩⟩⟩⟩⟩⟩⟩⟩⟩
theorem lw_p16 : lw_okq (⟨"LongestMet$Circle", "isFriend", "(II)Z"⟩, 1) := ⟨⟨by decide +kernel, by decide +kernel⟩, List.mem_of_getElem? (i := 133) (by decide +kernel), List.mem_of_getElem? (i := 624) (by decide +kernel), List.mem_of_getElem? (i := 625) (by decide +kernel)⟩
theorem lw_p17 : lw_okq (⟨"LongestMet$Rod", "lengthWithout", "(I)I"⟩, 2) := ⟨⟨by decide +kernel, by decide +kernel⟩, List.mem_of_getElem? (i := 143) (by decide +kernel), List.mem_of_getElem? (i := 721) (by decide +kernel), List.mem_of_getElem? (i := 722) (by decide +kernel)⟩
theorem lw_p18 : lw_okq (⟨"LongestMetModel", "faultNow", "()I"⟩, 27) := ⟨⟨by decide +kernel, by decide +kernel⟩, List.mem_of_getElem? (i := 818) (by decide +kernel), List.mem_of_getElem? (i := 922) (by decide +kernel), List.mem_of_getElem? (i := 923) (by decide +kernel)⟩
theorem lw_p19 : lw_okq (⟨"LongestMetModel", "number", "(I)I"⟩, 27) := ⟨⟨by decide +kernel, by decide +kernel⟩, List.mem_of_getElem? (i := 818) (by decide +kernel), List.mem_of_getElem? (i := 926) (by decide +kernel), List.mem_of_getElem? (i := 927) (by decide +kernel)⟩
theorem lw_p20 : lw_okq (⟨"LongestMetModel", "byteAt", "(I)I"⟩, 27) := ⟨⟨by decide +kernel, by decide +kernel⟩, List.mem_of_getElem? (i := 818) (by decide +kernel), List.mem_of_getElem? (i := 930) (by decide +kernel), List.mem_of_getElem? (i := 931) (by decide +kernel)⟩
theorem lw_p21 : lw_okq (⟨"LongestMetModel", "many", "(I)I"⟩, 27) := ⟨⟨by decide +kernel, by decide +kernel⟩, List.mem_of_getElem? (i := 818) (by decide +kernel), List.mem_of_getElem? (i := 938) (by decide +kernel), List.mem_of_getElem? (i := 939) (by decide +kernel)⟩
theorem lw_p22 : lw_okq (⟨"LongestMetModel", "isBus", "(II)Z"⟩, 27) := ⟨⟨by decide +kernel, by decide +kernel⟩, List.mem_of_getElem? (i := 818) (by decide +kernel), List.mem_of_getElem? (i := 942) (by decide +kernel), List.mem_of_getElem? (i := 943) (by decide +kernel)⟩
theorem lw_p23 : lw_okq (⟨"LongestMetModel", "waitOf", "(II)I"⟩, 27) := ⟨⟨by decide +kernel, by decide +kernel⟩, List.mem_of_getElem? (i := 818) (by decide +kernel), List.mem_of_getElem? (i := 950) (by decide +kernel), List.mem_of_getElem? (i := 951) (by decide +kernel)⟩
theorem lw_p24 : lw_okq (⟨"LongestMetModel", "gapBehind", "(II)I"⟩, 27) := ⟨⟨by decide +kernel, by decide +kernel⟩, List.mem_of_getElem? (i := 818) (by decide +kernel), List.mem_of_getElem? (i := 958) (by decide +kernel), List.mem_of_getElem? (i := 959) (by decide +kernel)⟩
theorem lw_p25 : lw_okq (⟨"LongestMetModel", "gapsNow", "(III)J"⟩, 27) := ⟨⟨by decide +kernel, by decide +kernel⟩, List.mem_of_getElem? (i := 818) (by decide +kernel), List.mem_of_getElem? (i := 966) (by decide +kernel), List.mem_of_getElem? (i := 967) (by decide +kernel)⟩
theorem lw_p26 : lw_okq (⟨"LongestMetModel", "heldNow", "(III)I"⟩, 27) := ⟨⟨by decide +kernel, by decide +kernel⟩, List.mem_of_getElem? (i := 818) (by decide +kernel), List.mem_of_getElem? (i := 982) (by decide +kernel), List.mem_of_getElem? (i := 983) (by decide +kernel)⟩
theorem lw_p27 : lw_okq (⟨"LongestMetModel", "backFrom", "(III)I"⟩, 27) := ⟨⟨by decide +kernel, by decide +kernel⟩, List.mem_of_getElem? (i := 818) (by decide +kernel), List.mem_of_getElem? (i := 987) (by decide +kernel), List.mem_of_getElem? (i := 988) (by decide +kernel)⟩
theorem lw_p28 : lw_okq (⟨"LongestMetModel", "answerMore", "(II)I"⟩, 27) := ⟨⟨by decide +kernel, by decide +kernel⟩, List.mem_of_getElem? (i := 818) (by decide +kernel), List.mem_of_getElem? (i := 998) (by decide +kernel), List.mem_of_getElem? (i := 999) (by decide +kernel)⟩
theorem lw_p29 : lw_okq (⟨"LongestMetModel", "meets", "(I)I"⟩, 27) := ⟨⟨by decide +kernel, by decide +kernel⟩, List.mem_of_getElem? (i := 818) (by decide +kernel), List.mem_of_getElem? (i := 1009) (by decide +kernel), List.mem_of_getElem? (i := 1010) (by decide +kernel)⟩
theorem lw_p30 : lw_okq (⟨"LongestMetModel", "saidOf", "(I)I"⟩, 27) := ⟨⟨by decide +kernel, by decide +kernel⟩, List.mem_of_getElem? (i := 818) (by decide +kernel), List.mem_of_getElem? (i := 1025) (by decide +kernel), List.mem_of_getElem? (i := 1026) (by decide +kernel)⟩
theorem lw_p31 : lw_okq (⟨"LongestMetModel", "familyParts", "()I"⟩, 27) := ⟨⟨by decide +kernel, by decide +kernel⟩, List.mem_of_getElem? (i := 818) (by decide +kernel), List.mem_of_getElem? (i := 1033) (by decide +kernel), List.mem_of_getElem? (i := 1034) (by decide +kernel)⟩
def lw_privs_2 : List (MethodName × Nat) := [(⟨"LongestMet$Circle", "isFriend", "(II)Z"⟩, 1), (⟨"LongestMet$Rod", "lengthWithout", "(I)I"⟩, 2), (⟨"LongestMetModel", "faultNow", "()I"⟩, 27), (⟨"LongestMetModel", "number", "(I)I"⟩, 27), (⟨"LongestMetModel", "byteAt", "(I)I"⟩, 27), (⟨"LongestMetModel", "many", "(I)I"⟩, 27), (⟨"LongestMetModel", "isBus", "(II)Z"⟩, 27), (⟨"LongestMetModel", "waitOf", "(II)I"⟩, 27), (⟨"LongestMetModel", "gapBehind", "(II)I"⟩, 27), (⟨"LongestMetModel", "gapsNow", "(III)J"⟩, 27), (⟨"LongestMetModel", "heldNow", "(III)I"⟩, 27), (⟨"LongestMetModel", "backFrom", "(III)I"⟩, 27), (⟨"LongestMetModel", "answerMore", "(II)I"⟩, 27), (⟨"LongestMetModel", "meets", "(I)I"⟩, 27), (⟨"LongestMetModel", "saidOf", "(I)I"⟩, 27), (⟨"LongestMetModel", "familyParts", "()I"⟩, 27)]
theorem lw_r2 : ∀ q ∈ lw_privs_2, lw_okq q := List.forall_mem_cons.mpr ⟨lw_p16, List.forall_mem_cons.mpr ⟨lw_p17, List.forall_mem_cons.mpr ⟨lw_p18, List.forall_mem_cons.mpr ⟨lw_p19, List.forall_mem_cons.mpr ⟨lw_p20, List.forall_mem_cons.mpr ⟨lw_p21, List.forall_mem_cons.mpr ⟨lw_p22, List.forall_mem_cons.mpr ⟨lw_p23, List.forall_mem_cons.mpr ⟨lw_p24, List.forall_mem_cons.mpr ⟨lw_p25, List.forall_mem_cons.mpr ⟨lw_p26, List.forall_mem_cons.mpr ⟨lw_p27, List.forall_mem_cons.mpr ⟨lw_p28, List.forall_mem_cons.mpr ⟨lw_p29, List.forall_mem_cons.mpr ⟨lw_p30, List.forall_mem_cons.mpr ⟨lw_p31, fun _ h => absurd h List.not_mem_nil⟩⟩⟩⟩⟩⟩⟩⟩⟩⟩⟩⟩⟩⟩⟩⟩
theorem lw_p32 : lw_okq (⟨"LongestMetModel", "sizeNow", "(II)J"⟩, 27) := ⟨⟨by decide +kernel, by decide +kernel⟩, List.mem_of_getElem? (i := 818) (by decide +kernel), List.mem_of_getElem? (i := 1041) (by decide +kernel), List.mem_of_getElem? (i := 1042) (by decide +kernel)⟩
theorem lw_p33 : lw_okq (⟨"LongestMetModel", "childrenOf", "(I)I"⟩, 27) := ⟨⟨by decide +kernel, by decide +kernel⟩, List.mem_of_getElem? (i := 818) (by decide +kernel), List.mem_of_getElem? (i := 1053) (by decide +kernel), List.mem_of_getElem? (i := 1054) (by decide +kernel)⟩
theorem lw_p34 : lw_okq (⟨"LongestMetModel", "choices", "(I)J"⟩, 27) := ⟨⟨by decide +kernel, by decide +kernel⟩, List.mem_of_getElem? (i := 818) (by decide +kernel), List.mem_of_getElem? (i := 1057) (by decide +kernel), List.mem_of_getElem? (i := 1058) (by decide +kernel)⟩
theorem lw_p35 : lw_okq (⟨"LongestMetModel", "likeliestNow", "()I"⟩, 27) := ⟨⟨by decide +kernel, by decide +kernel⟩, List.mem_of_getElem? (i := 818) (by decide +kernel), List.mem_of_getElem? (i := 1068) (by decide +kernel), List.mem_of_getElem? (i := 1069) (by decide +kernel)⟩
theorem lw_p36 : lw_okq (⟨"LongestMetModel", "wardNow", "(III)I"⟩, 27) := ⟨⟨by decide +kernel, by decide +kernel⟩, List.mem_of_getElem? (i := 818) (by decide +kernel), List.mem_of_getElem? (i := 1090) (by decide +kernel), List.mem_of_getElem? (i := 1091) (by decide +kernel)⟩
theorem lw_p37 : lw_okq (⟨"LongestMetModel", "wardOf", "(III)J"⟩, 27) := ⟨⟨by decide +kernel, by decide +kernel⟩, List.mem_of_getElem? (i := 818) (by decide +kernel), List.mem_of_getElem? (i := 1094) (by decide +kernel), List.mem_of_getElem? (i := 1095) (by decide +kernel)⟩
theorem lw_p38 : lw_okq (⟨"LongestMetModel", "daysIn", "(III)I"⟩, 27) := ⟨⟨by decide +kernel, by decide +kernel⟩, List.mem_of_getElem? (i := 818) (by decide +kernel), List.mem_of_getElem? (i := 1098) (by decide +kernel), List.mem_of_getElem? (i := 1099) (by decide +kernel)⟩
theorem lw_p39 : lw_okq (⟨"LongestMetModel", "lengthOf", "(I)I"⟩, 27) := ⟨⟨by decide +kernel, by decide +kernel⟩, List.mem_of_getElem? (i := 818) (by decide +kernel), List.mem_of_getElem? (i := 1102) (by decide +kernel), List.mem_of_getElem? (i := 1103) (by decide +kernel)⟩
theorem lw_p40 : lw_okq (⟨"LongestMetModel", "meansNow", "(IIII)J"⟩, 27) := ⟨⟨by decide +kernel, by decide +kernel⟩, List.mem_of_getElem? (i := 818) (by decide +kernel), List.mem_of_getElem? (i := 1111) (by decide +kernel), List.mem_of_getElem? (i := 1112) (by decide +kernel)⟩
theorem lw_p41 : lw_okq (⟨"LongestMetModel", "fullestNow", "(I)I"⟩, 27) := ⟨⟨by decide +kernel, by decide +kernel⟩, List.mem_of_getElem? (i := 818) (by decide +kernel), List.mem_of_getElem? (i := 1119) (by decide +kernel), List.mem_of_getElem? (i := 1120) (by decide +kernel)⟩
theorem lw_p42 : lw_okq (⟨"LongestMetModel", "apartNow", "()I"⟩, 27) := ⟨⟨by decide +kernel, by decide +kernel⟩, List.mem_of_getElem? (i := 818) (by decide +kernel), List.mem_of_getElem? (i := 1123) (by decide +kernel), List.mem_of_getElem? (i := 1124) (by decide +kernel)⟩
theorem lw_p43 : lw_okq (⟨"LongestMetModel", "meanNow", "(II)J"⟩, 27) := ⟨⟨by decide +kernel, by decide +kernel⟩, List.mem_of_getElem? (i := 818) (by decide +kernel), List.mem_of_getElem? (i := 1135) (by decide +kernel), List.mem_of_getElem? (i := 1136) (by decide +kernel)⟩
theorem lw_p44 : lw_okq (⟨"LongestMetModel", "pickedParts", "(I)I"⟩, 27) := ⟨⟨by decide +kernel, by decide +kernel⟩, List.mem_of_getElem? (i := 818) (by decide +kernel), List.mem_of_getElem? (i := 1142) (by decide +kernel), List.mem_of_getElem? (i := 1143) (by decide +kernel)⟩
theorem lw_p45 : lw_okq (⟨"LongestMetModel", "fewerNow", "()I"⟩, 27) := ⟨⟨by decide +kernel, by decide +kernel⟩, List.mem_of_getElem? (i := 818) (by decide +kernel), List.mem_of_getElem? (i := 1155) (by decide +kernel), List.mem_of_getElem? (i := 1156) (by decide +kernel)⟩
theorem lw_p46 : lw_okq (⟨"LongestMetModel", "bestNow", "(II)I"⟩, 27) := ⟨⟨by decide +kernel, by decide +kernel⟩, List.mem_of_getElem? (i := 818) (by decide +kernel), List.mem_of_getElem? (i := 1167) (by decide +kernel), List.mem_of_getElem? (i := 1168) (by decide +kernel)⟩
theorem lw_p47 : lw_okq (⟨"LongestMetModel", "whole", "()I"⟩, 27) := ⟨⟨by decide +kernel, by decide +kernel⟩, List.mem_of_getElem? (i := 818) (by decide +kernel), List.mem_of_getElem? (i := 1183) (by decide +kernel), List.mem_of_getElem? (i := 1184) (by decide +kernel)⟩
def lw_privs_3 : List (MethodName × Nat) := [(⟨"LongestMetModel", "sizeNow", "(II)J"⟩, 27), (⟨"LongestMetModel", "childrenOf", "(I)I"⟩, 27), (⟨"LongestMetModel", "choices", "(I)J"⟩, 27), (⟨"LongestMetModel", "likeliestNow", "()I"⟩, 27), (⟨"LongestMetModel", "wardNow", "(III)I"⟩, 27), (⟨"LongestMetModel", "wardOf", "(III)J"⟩, 27), (⟨"LongestMetModel", "daysIn", "(III)I"⟩, 27), (⟨"LongestMetModel", "lengthOf", "(I)I"⟩, 27), (⟨"LongestMetModel", "meansNow", "(IIII)J"⟩, 27), (⟨"LongestMetModel", "fullestNow", "(I)I"⟩, 27), (⟨"LongestMetModel", "apartNow", "()I"⟩, 27), (⟨"LongestMetModel", "meanNow", "(II)J"⟩, 27), (⟨"LongestMetModel", "pickedParts", "(I)I"⟩, 27), (⟨"LongestMetModel", "fewerNow", "()I"⟩, 27), (⟨"LongestMetModel", "bestNow", "(II)I"⟩, 27), (⟨"LongestMetModel", "whole", "()I"⟩, 27)]
theorem lw_r3 : ∀ q ∈ lw_privs_3, lw_okq q := List.forall_mem_cons.mpr ⟨lw_p32, List.forall_mem_cons.mpr ⟨lw_p33, List.forall_mem_cons.mpr ⟨lw_p34, List.forall_mem_cons.mpr ⟨lw_p35, List.forall_mem_cons.mpr ⟨lw_p36, List.forall_mem_cons.mpr ⟨lw_p37, List.forall_mem_cons.mpr ⟨lw_p38, List.forall_mem_cons.mpr ⟨lw_p39, List.forall_mem_cons.mpr ⟨lw_p40, List.forall_mem_cons.mpr ⟨lw_p41, List.forall_mem_cons.mpr ⟨lw_p42, List.forall_mem_cons.mpr ⟨lw_p43, List.forall_mem_cons.mpr ⟨lw_p44, List.forall_mem_cons.mpr ⟨lw_p45, List.forall_mem_cons.mpr ⟨lw_p46, List.forall_mem_cons.mpr ⟨lw_p47, fun _ h => absurd h List.not_mem_nil⟩⟩⟩⟩⟩⟩⟩⟩⟩⟩⟩⟩⟩⟩⟩⟩
theorem lw_p48 : lw_okq (⟨"LongestMetModel", "stickNow", "(III)J"⟩, 27) := ⟨⟨by decide +kernel, by decide +kernel⟩, List.mem_of_getElem? (i := 818) (by decide +kernel), List.mem_of_getElem? (i := 1194) (by decide +kernel), List.mem_of_getElem? (i := 1195) (by decide +kernel)⟩
theorem lw_p49 : lw_okq (⟨"LongestMetModel", "lacks", "(III)I"⟩, 27) := ⟨⟨by decide +kernel, by decide +kernel⟩, List.mem_of_getElem? (i := 818) (by decide +kernel), List.mem_of_getElem? (i := 1210) (by decide +kernel), List.mem_of_getElem? (i := 1211) (by decide +kernel)⟩
theorem lw_p50 : lw_okq (⟨"LongestMetModel", "keep", "(III)V"⟩, 27) := ⟨⟨by decide +kernel, by decide +kernel⟩, List.mem_of_getElem? (i := 818) (by decide +kernel), List.mem_of_getElem? (i := 1214) (by decide +kernel), List.mem_of_getElem? (i := 1215) (by decide +kernel)⟩
theorem lw_p51 : lw_okq (⟨"LongestMetModel", "friendships", "()I"⟩, 27) := ⟨⟨by decide +kernel, by decide +kernel⟩, List.mem_of_getElem? (i := 818) (by decide +kernel), List.mem_of_getElem? (i := 1235) (by decide +kernel), List.mem_of_getElem? (i := 1236) (by decide +kernel)⟩
def lw_privs_4 : List (MethodName × Nat) := [(⟨"LongestMetModel", "stickNow", "(III)J"⟩, 27), (⟨"LongestMetModel", "lacks", "(III)I"⟩, 27), (⟨"LongestMetModel", "keep", "(III)V"⟩, 27), (⟨"LongestMetModel", "friendships", "()I"⟩, 27)]
theorem lw_r4 : ∀ q ∈ lw_privs_4, lw_okq q := List.forall_mem_cons.mpr ⟨lw_p48, List.forall_mem_cons.mpr ⟨lw_p49, List.forall_mem_cons.mpr ⟨lw_p50, List.forall_mem_cons.mpr ⟨lw_p51, fun _ h => absurd h List.not_mem_nil⟩⟩⟩⟩
def lw_privs : List (MethodName × Nat) := lw_privs_1 ++ (lw_privs_2 ++ (lw_privs_3 ++ (lw_privs_4)))
def lw_tbl : List Cond := k2_sels lw_privs ++ tables_1
theorem lw_privs_ok : ∀ q ∈ lw_privs, lw_okq q := by
  show ∀ q ∈ lw_privs_1 ++ (lw_privs_2 ++ (lw_privs_3 ++ (lw_privs_4))), lw_okq q
  exact List.forall_mem_append.mpr ⟨lw_r1, List.forall_mem_append.mpr ⟨lw_r2, List.forall_mem_append.mpr ⟨lw_r3, lw_r4⟩⟩⟩

def va_AOA (ty : FieldType) (U : State) : Prop := (Cond.arrayOver (.array ty)).before #[] U = true
theorem va_AOA.use {ty : FieldType} {A : Array Value} {U : State} (h : va_AOA ty U) : (Cond.arrayOver (.array ty)).before A U = true := h
theorem va_AOA.of {ty : FieldType} {A : Array Value} {U : State} (h : (Cond.arrayOver (.array ty)).before A U = true) : va_AOA ty U := h
/-! ===== BEGIN words of one list among another's, by their places ===== -/
theorem goodIn_r {big : List Cond} (ws : List Cond) (ps : List Nat) (hp : ws = ps.filterMap (fun i => big[i]?)) (h : ws.all goodWord = true) : GoodIn big ws := by
  intro w hw
  have h1 := List.all_eq_true.mp h w hw
  rw [hp] at hw
  obtain ⟨i, -, hi⟩ := List.mem_filterMap.mp hw
  have hm : w ∈ big := by first | exact List.mem_of_getElem? hi | exact List.getElem?_mem hi
  exact ⟨hm, good_of_word h1⟩
theorem goodIn_app {big a b : List Cond} (ha : GoodIn big a) (hb : GoodIn big b) : GoodIn big (a ++ b) := fun w h => (List.mem_append.mp h).elim (ha w) (hb w)
theorem goodIn_ca {big a b : List Cond} {c : Cond} (ha : GoodIn big (c :: a)) (hb : GoodIn big b) : GoodIn big (c :: (a ++ b)) := fun w h => (List.mem_cons.mp h).elim (fun e => ha w (List.mem_cons.mpr (Or.inl e))) (fun h => (List.mem_append.mp h).elim (fun h => ha w (List.mem_cons.mpr (Or.inr h))) (hb w))
theorem goodIn_sub {big ws : List Cond} (hm : ∀ w ∈ ws, w ∈ big) (h : ws.all goodWord = true) : GoodIn big ws := fun w hw => ⟨hm w hw, good_of_word (List.all_eq_true.mp h w hw)⟩
/-! ===== END ===== -/

/-! ===== BEGIN new T[n][m]: the outer array a place, the inner ones among the pooled ===== -/
/-- f, but v at every address of l -/
def vr_up {α : Type} (f : Nat → α) (l : List Nat) (v : α) : Nat → α := fun a => if a ∈ l then v else f a
theorem vr_up_in {α : Type} {f : Nat → α} {l : List Nat} {v : α} {a : Nat} (h : a ∈ l) : vr_up f l v a = v := if_pos h
theorem vr_up_ne {α : Type} {f : Nat → α} {l : List Nat} {v : α} {a : Nat} (h : a ∉ l) : vr_up f l v a = f a := if_neg h
theorem vr_rows {L l : List Nat} {f : Nat → va_E} {e : va_E} (h : ∀ a, a ∈ l → a ∉ L) : va_pl L f ++ l.map (fun a => (a, e)) = va_pl (L ++ l) (vr_up f l e) := by
  unfold va_pl
  rw [List.map_append]
  congr 1
  · apply List.map_congr_left
    intro a ha
    rw [vr_up_ne (fun q => h a q ha)]
  · apply List.map_congr_left
    intro a ha
    rw [vr_up_in ha]
theorem vr_lay {X rows : va_W} {x : Nat × va_E} {pl : va_W} {D : va_G} {cl : List vw_C} {H : Heap} (hP : va_P D cl (((X ++ pl) ++ [x]) ++ rows) H) : va_P D cl ((X ++ [x]) ++ (pl ++ rows)) H := by
  rw [List.append_assoc (X ++ pl)] at hP
  have h := va_P.swap hP
  rw [← List.append_assoc X] at h
  have h2 := va_P.swap h
  rw [List.append_assoc (X ++ [x])] at h2
  exact h2
theorem vr_layD {X rows : va_W} {x : Nat × va_E} {pl : va_W} {A : Nat → Prop} (hD : va_D A (((X ++ pl) ++ [x]) ++ rows)) : va_D A ((X ++ [x]) ++ (pl ++ rows)) := by
  rw [List.append_assoc (X ++ pl)] at hD
  have h := va_D.swap hD
  rw [← List.append_assoc X] at h
  have h2 := va_D.swap h
  rw [List.append_assoc (X ++ [x])] at h2
  exact h2
theorem vr_outer (c : ClassId) (N h0 : Nat) : ∀ i : Nat, Jvm.Free.Multi.outerC c N h0 i = arrV c N (fun j => va_rf (if j < i then some (h0 + 1 + j) else none))
  | 0 => by
    show ({ cls := c, slots := Array.replicate N .null, vm := .none } : Cell) = _
    rw [arrV_new]
    refine congrArg (arrV c N) (funext fun j => ?_)
    simp [va_rf]
  | i + 1 => by
    show (Jvm.Free.Multi.outerC c N h0 i).setSlot i (.ref (h0 + 1 + i)) = _
    rw [vr_outer c N h0 i, arrV_store]
    refine congrArg (arrV c N) (funext fun j => ?_)
    by_cases e : j = i
    · subst e
      simp [updV, va_rf]
    · by_cases h : j < i
      · simp [updV, e, h, Nat.lt_succ_of_lt h]
      · simp [updV, e, h, show ¬ j < i + 1 by omega]
section VGM
variable {p : Program} {l : Launch} {e : Env} {R : Room} {s : State} {m : MethodId} {args : Array Value} {below : List Frame} {meth : Method} {c : Code} {H : Heap} {locs : List Loc} {cells slots : Nat} {Q : State → Prop}
variable {cc : ByteArray} {pc : Nat} {ls : Array Slot} {rest : List Value} {D : va_G} {cl : List vw_C} {A : Nat → Prop} {a : Nat} {tys : List (ClassId × FieldType)} {ws : va_W} {H0 : Heap}
theorem va_mna {X : va_W} {L : List Nat} {f : Nat → va_E} {cc : ByteArray} (hexec : p.tables.exec = Jvm.exec) (hb : c.code = cc) {own : String} {index : Nat} {ty : FieldType} {cy : ClassId} (hown : s.vm.findClass own = some m.cls) (hclink : (Cond.classLink own index ("[" ++ (FieldType.array ty).toString)).before args s = true) (hover : va_AOA ty s) (harr : (Cond.arrayClass ty).before args s = true) (hcy : s.vm.findClass (FieldType.array ty).toString = some cy)
    (hK : va_K D cl tys s) (hP : va_P D cl (X ++ va_pl L f) H) (hD : va_D A (X ++ va_pl L f)) (hS : va_S A H0 H locs) (hA : ∀ q, H0.size ≤ q → A q) {n k : Int32} {N' K' : Nat} {z : vp_A} (hn : ¬ n < 0) (hk : ¬ k < 0) (hN : n.toNatClampNeg = N') (hM : k.toNatClampNeg = K')
    (hb1 : N' * 4 ≤ 536870912) (hb2 : K' * componentBytes ty ≤ 536870912) (hb3 : K' ≤ 536870912) (hdf : fits ty (defaultValue ty) = true) (hdd : (defaultValue ty).isDefault = true) (hcells : cells + (1 + N') ≤ R.cells) (hslots : slots + (N' + N' * K') ≤ R.slots) (hz : ∀ c : ClassId, Jvm.Free.Multi.innerC c K' (defaultValue ty) = vp_cell c z) (hdg : decode cc pc = .ok (.multianewarray index 2, 4))
    (kk : ∀ (q : Nat) (r : Nat → Nat) (cA : ClassId) (H1 : Heap), (∀ i j : Nat, i < N' → j < N' → r i = r j → i = j) → (∀ i : Nat, i < N' → r i ∉ L) → va_K D cl (tys ++ [(cA, .array ty)]) s →
      va_P D cl ((X ++ [(q, .inl (cA, N', .inr (.inr (.inr (.inr (fun i => if i < N' then some (r i) else none))))))]) ++ va_pl (L ++ (List.range N').map r) (vr_up f ((List.range N').map r) (.inl (cy, z)))) H1 → va_D A ((X ++ [(q, .inl (cA, N', .inr (.inr (.inr (.inr (fun i => if i < N' then some (r i) else none))))))]) ++ va_pl (L ++ (List.range N').map r) (vr_up f ((List.range N').map r) (.inl (cy, z)))) → va_S A H0 H1 locs →
      W p l e R s m args below meth c H1 locs (cells + 1 + N') (slots + N' + N' * K') Q (F0 m (pc + 4) ls (.ref q :: rest))) : W p l e R s m args below meth c H locs cells slots Q (F0 m pc ls (.int k :: .int n :: rest)) := by
  subst hN
  subst hM
  intro T hT Xs
  obtain ⟨vm₁, cA, comp, -, fA, fC, hO, -, X', step⟩ := Xs.multianewarray2F hexec hown hclink (va_AOA.use hover) harr (g := F0 m pc ls (.int k :: .int n :: rest)) rfl (by rw [hb]; exact hdg) rfl hn hk hb1 hb2 hb3 hdf hdd hcells hslots
  have ec : some cy = some comp := hcy.symm.trans fC
  cases ec
  generalize hF : Jvm.Free.Multi.fill (T.setVm vm₁) cA cy n.toNatClampNeg k.toNatClampNeg (defaultValue ty) n.toNatClampNeg = F at X' step
  have hTh : (T.setVm vm₁).heap = H := hT
  obtain ⟨f1, f2, -, -⟩ := Jvm.Free.Multi.fill_facts (T.setVm vm₁) cA cy n.toNatClampNeg k.toNatClampNeg (defaultValue ty) n.toNatClampNeg
  rw [hF, hTh] at f1 f2
  have hold : ∀ x : Nat, x < H.size → F.heap[x]? = H[x]? := fun x hx => by
    have := Jvm.Free.Multi.fill_old (T.setVm vm₁) cA cy n.toNatClampNeg k.toNatClampNeg (defaultValue ty) (a := x) (by rw [hTh]; exact hx) n.toNatClampNeg
    rw [hF, hTh] at this
    exact this
  have hrow : ∀ j : Nat, j < n.toNatClampNeg → F.heap[H.size + 1 + j]? = some (vp_cell cy z) := fun j hj => by
    have := Jvm.Free.Multi.fill_inner (T.setVm vm₁) cA cy n.toNatClampNeg k.toNatClampNeg (defaultValue ty) n.toNatClampNeg j hj
    rw [hF, hTh, hz] at this
    exact this
  have hout : Jvm.Free.Multi.outerC cA n.toNatClampNeg H.size n.toNatClampNeg = vp_cell cA (n.toNatClampNeg, .inr (.inr (.inr (.inr (fun i => if i < n.toNatClampNeg then some (H.size + 1 + i) else none))))) := by
    rw [vp_cell_q]
    exact vr_outer cA n.toNatClampNeg H.size n.toNatClampNeg
  rw [hout] at f2
  have hlt : ∀ a, a ∈ L → a < H.size := fun a ha => by
    obtain ⟨k9, hk9⟩ := va_pl_get (X := X) (f := f) ha
    exact (hP k9 _ hk9).lt
  have hnl : ∀ i : Nat, i < n.toNatClampNeg → H.size + 1 + i ∉ L := fun i _ h => by
    have := hlt _ h
    omega
  have hnm : ∀ a, a ∈ (List.range n.toNatClampNeg).map (fun i => H.size + 1 + i) → a ∉ L := fun a ha h => by
    obtain ⟨i, -, rfl⟩ := List.mem_map.mp ha
    have := hlt _ h
    omega
  have hP0 : va_P D cl (X ++ va_pl L f) F.heap := hP.kept (fun k9 x hx => hold x.1 ((hP k9 x hx).lt))
  have hP1 : va_P D cl ((X ++ va_pl L f) ++ [(H.size, .inl (cA, n.toNatClampNeg, .inr (.inr (.inr (.inr (fun i => if i < n.toNatClampNeg then some (H.size + 1 + i) else none))))))]) F.heap := hP0.app (fun k9 x hx => by
    have h0 : k9 < 1 := (List.getElem?_eq_some_iff.mp hx).1
    rw [show k9 = 0 by omega] at hx
    cases hx
    exact f2)
  have hP2 : va_P D cl (((X ++ va_pl L f) ++ [(H.size, .inl (cA, n.toNatClampNeg, .inr (.inr (.inr (.inr (fun i => if i < n.toNatClampNeg then some (H.size + 1 + i) else none))))))]) ++ ((List.range n.toNatClampNeg).map (fun i => H.size + 1 + i)).map (fun a => (a, .inl (cy, z)))) F.heap := hP1.app (fun k9 x hx => by
    obtain ⟨a, ha, rfl⟩ := List.mem_map.mp (List.mem_of_getElem? hx)
    obtain ⟨i, hi, rfl⟩ := List.mem_map.mp ha
    exact hrow i (List.mem_range.mp hi))
  have hD2 : va_D A (((X ++ va_pl L f) ++ [(H.size, .inl (cA, n.toNatClampNeg, .inr (.inr (.inr (.inr (fun i => if i < n.toNatClampNeg then some (H.size + 1 + i) else none))))))]) ++ ((List.range n.toNatClampNeg).map (fun i => H.size + 1 + i)).map (fun a => (a, .inl (cy, z)))) := by
    have hD1 := hD.push (e := .inl (cA, n.toNatClampNeg, .inr (.inr (.inr (.inr (fun i => if i < n.toNatClampNeg then some (H.size + 1 + i) else none)))))) hP rfl (hA _ hS.1)
    generalize hW1 : (X ++ va_pl L f) ++ [(H.size, .inl (cA, n.toNatClampNeg, .inr (.inr (.inr (.inr (fun i => if i < n.toNatClampNeg then some (H.size + 1 + i) else none))))))] = W1 at hD1 hP1 ⊢
    have hle : ∀ (k9 : Nat) (x : Nat × va_E), W1[k9]? = some x → x.1 ≤ H.size := fun k9 x hx => by
      rw [← hW1] at hx
      by_cases hl : k9 < (X ++ va_pl L f).length
      · rw [List.getElem?_append_left hl] at hx
        exact Nat.le_of_lt ((hP k9 x hx).lt)
      · rw [List.getElem?_append_right (by omega)] at hx
        have h0 : k9 - (X ++ va_pl L f).length < 1 := (List.getElem?_eq_some_iff.mp hx).1
        rw [show k9 - (X ++ va_pl L f).length = 0 by omega] at hx
        cases hx
        exact Nat.le_refl _
    have hr : ∀ (k9 : Nat) (x : Nat × va_E), (((List.range n.toNatClampNeg).map (fun i => H.size + 1 + i)).map (fun a => ((a, .inl (cy, z)) : Nat × va_E)))[k9]? = some x → x.1 = H.size + 1 + k9 := fun k9 x hx => by
      rw [List.getElem?_map, List.getElem?_map] at hx
      by_cases h9 : k9 < n.toNatClampNeg
      · rw [List.getElem?_range h9] at hx
        cases hx
        rfl
      · have hn0 : (List.range n.toNatClampNeg)[k9]? = none := List.getElem?_eq_none (by rw [List.length_range]; omega)
        rw [hn0] at hx
        cases hx
    refine ⟨fun i j x y hi hj hxy => ?_, fun k9 x hx => ?_⟩
    · by_cases h1 : i < W1.length <;> by_cases h2 : j < W1.length
      · rw [List.getElem?_append_left h1] at hi
        rw [List.getElem?_append_left h2] at hj
        exact hD1.1 i j x y hi hj hxy
      · rw [List.getElem?_append_left h1] at hi
        rw [List.getElem?_append_right (by omega)] at hj
        have := hle _ _ hi
        have := hr _ _ hj
        omega
      · rw [List.getElem?_append_right (by omega)] at hi
        rw [List.getElem?_append_left h2] at hj
        have := hle _ _ hj
        have := hr _ _ hi
        omega
      · rw [List.getElem?_append_right (by omega)] at hi hj
        have := hr _ _ hi
        have := hr _ _ hj
        omega
    · by_cases h1 : k9 < W1.length
      · rw [List.getElem?_append_left h1] at hx
        exact hD1.2 k9 x hx
      · rw [List.getElem?_append_right (by omega)] at hx
        have := hr _ _ hx
        exact hA _ (by have := hS.1; omega)
  have hAr : ArrOfT s cA (.array ty) := fun N9 z9 => by
    obtain ⟨-, k9, hk9, cm9, hkk9⟩ := (hO 0 0 0).1
    exact ⟨(fun q hq => by cases hq), k9, hk9, cm9, hkk9⟩
  have hK2 : va_K D cl (tys ++ [(cA, .array ty)]) s := ⟨hK.1, fun k9 x hx => by
    by_cases hl : k9 < tys.length
    · rw [List.getElem?_append_left hl] at hx
      exact hK.2 k9 x hx
    · rw [List.getElem?_append_right (by omega)] at hx
      have h0 : k9 - tys.length < 1 := (List.getElem?_eq_some_iff.mp hx).1
      rw [show k9 - tys.length = 0 by omega] at hx
      cases hx
      exact ⟨hAr, fA⟩⟩
  obtain ⟨t, a1, b1⟩ := kk H.size (fun i => H.size + 1 + i) cA F.heap (fun i j _ _ h => by have h9 : H.size + 1 + i = H.size + 1 + j := h; omega) hnl hK2 (by rw [← vr_rows hnm]; exact vr_lay hP2) (by rw [← vr_rows hnm]; exact vr_layD hD2) ⟨by rw [f1]; have := hS.1; omega, fun x h1 h2 => (hold x (Nat.lt_of_lt_of_le h1 hS.1)).trans (hS.2.1 x h1 h2), hS.2.2⟩ F rfl X'
  refine ⟨t, step t ?_, b1⟩
  have e : T.heap.size = H.size := by rw [hT]
  rw [e]
  exact a1
end VGM
/-! ===== END ===== -/
end
section
/-! ===== BEGIN printed: names, fields, word lists, decode rows ===== -/
def RX0 : String := "LongestMet$Circle"
def TX0 : u_T := fun k => match k with
  | _ => ("LongestMet$Circle", "hers", "[I", true)
def tyX0 : Nat → FieldType := fun k => match k with
  | _ => .array .int
abbrev wsX00 : List Cond := u_ws RX0 TX0 1
theorem nmX0 : ∀ a, a < 1 → ∀ b, b < 1 → a ≠ b → (TX0 a).2.1 ≠ (TX0 b).2.1 := by decide +kernel
theorem tyX0_ok : ∀ k, k < 1 → parseFieldDescriptor (TX0 k).2.2.1 = some (tyX0 k) := by decide +kernel
abbrev cX0_init : ByteArray := prog_2_method_1_code
def yX0_init : MethodName := ⟨RX0, "<init>", "()V"⟩
abbrev cX0_setFriends : ByteArray := prog_2_method_2_code
def yX0_setFriends : MethodName := ⟨RX0, "setFriends", "(III)I"⟩
abbrev cX0_tellings : ByteArray := prog_2_method_3_code
def yX0_tellings : MethodName := ⟨RX0, "tellings", "()I"⟩
abbrev cX0_friendsOfFriends : ByteArray := prog_2_method_4_code
def yX0_friendsOfFriends : MethodName := ⟨RX0, "friendsOfFriends", "()I"⟩
abbrev cX0_friendsOfPicked : ByteArray := prog_2_method_5_code
def yX0_friendsOfPicked : MethodName := ⟨RX0, "friendsOfPicked", "()I"⟩
abbrev cX0_withFewer : ByteArray := prog_2_method_6_code
def yX0_withFewer : MethodName := ⟨RX0, "withFewer", "()I"⟩
abbrev cX0_pickedParts : ByteArray := prog_2_method_7_code
def yX0_pickedParts : MethodName := ⟨RX0, "pickedParts", "(I)I"⟩
abbrev cX0_bestGroup : ByteArray := prog_2_method_8_code
def yX0_bestGroup : MethodName := ⟨RX0, "bestGroup", "(I)I"⟩
abbrev cX0_friendshipsOf : ByteArray := prog_2_method_9_code
def yX0_friendshipsOf : MethodName := ⟨RX0, "friendshipsOf", "(I)I"⟩
abbrev cX0_friendsOfHers : ByteArray := prog_2_method_10_code
def yX0_friendsOfHers : MethodName := ⟨RX0, "friendsOfHers", "(I)I"⟩
abbrev cX0_friendsOf : ByteArray := prog_2_method_11_code
def yX0_friendsOf : MethodName := ⟨RX0, "friendsOf", "(I)I"⟩
abbrev cX0_isFriend : ByteArray := prog_2_method_12_code
def yX0_isFriend : MethodName := ⟨RX0, "isFriend", "(II)Z"⟩
def RX1 : String := "LongestMet$Country"
def TX1 : u_T := fun k => match k with
  | _ => ("LongestMet$Country", "alike", "[[I", true)
def tyX1 : Nat → FieldType := fun k => match k with
  | _ => .array (.array .int)
abbrev wsX10 : List Cond := u_ws RX1 TX1 1
theorem nmX1 : ∀ a, a < 1 → ∀ b, b < 1 → a ≠ b → (TX1 a).2.1 ≠ (TX1 b).2.1 := by decide +kernel
theorem tyX1_ok : ∀ k, k < 1 → parseFieldDescriptor (TX1 k).2.2.1 = some (tyX1 k) := by decide +kernel
abbrev cX1_init : ByteArray := prog_3_method_1_code
def yX1_init : MethodName := ⟨RX1, "<init>", "()V"⟩
abbrev cX1_setFamilies : ByteArray := prog_3_method_2_code
def yX1_setFamilies : MethodName := ⟨RX1, "setFamilies", "(III)I"⟩
abbrev cX1_hasFewer : ByteArray := prog_3_method_3_code
def yX1_hasFewer : MethodName := ⟨RX1, "hasFewer", "(ILLongestMet$Survey;)Z"⟩
abbrev cX1_choices : ByteArray := prog_3_method_4_code
def yX1_choices : MethodName := ⟨RX1, "choices", "(ILLongestMet$Survey;)J"⟩
abbrev cX1_choicesThatFit : ByteArray := prog_3_method_5_code
def yX1_choicesThatFit : MethodName := ⟨RX1, "choicesThatFit", "(ILLongestMet$Survey;)J"⟩
abbrev cX1_likeliestTown : ByteArray := prog_3_method_6_code
def yX1_likeliestTown : MethodName := ⟨RX1, "likeliestTown", "(LLongestMet$Survey;)I"⟩
abbrev cX1_childrenOf : ByteArray := prog_3_method_7_code
def yX1_childrenOf : MethodName := ⟨RX1, "childrenOf", "(I)I"⟩
abbrev cX1_choose : ByteArray := prog_3_method_8_code
def yX1_choose : MethodName := ⟨RX1, "choose", "(II)J"⟩
def RX2 : String := "LongestMet$Fraction"
def TX2 : u_T := fun k => match k with
  | _ => ("", "", "", false)
def tyX2 : Nat → FieldType := fun k => match k with
  | _ => .int
abbrev wsX20 : List Cond := u_ws RX2 TX2 0
theorem nmX2 : ∀ a, a < 0 → ∀ b, b < 0 → a ≠ b → (TX2 a).2.1 ≠ (TX2 b).2.1 := by decide +kernel
theorem tyX2_ok : ∀ k, k < 0 → parseFieldDescriptor (TX2 k).2.2.1 = some (tyX2 k) := by decide +kernel
abbrev cX2_refused : ByteArray := prog_4_method_2_code
def yX2_refused : MethodName := ⟨RX2, "refused", "(I)J"⟩
abbrev cX2_told : ByteArray := prog_4_method_3_code
def yX2_told : MethodName := ⟨RX2, "told", "(JJI)J"⟩
abbrev cX2_commonOf : ByteArray := prog_4_method_4_code
def yX2_commonOf : MethodName := ⟨RX2, "commonOf", "(JJ)J"⟩
abbrev cX2_isMore : ByteArray := prog_4_method_5_code
def yX2_isMore : MethodName := ⟨RX2, "isMore", "(JJJJ)Z"⟩
def RX3 : String := "LongestMet$Holding"
def TX3 : u_T := fun k => match k with
  | 0 => ("LongestMet$Holding", "goes", "[I", true)
  | 1 => ("LongestMet$Holding", "later", "[I", true)
  | 2 => ("LongestMet$Holding", "onward", "[[I", true)
  | 3 => ("LongestMet$Holding", "buses", "I", false)
  | _ => ("LongestMet$Holding", "latest", "I", false)
def tyX3 : Nat → FieldType := fun k => match k with
  | 0 => .array .int
  | 1 => .array .int
  | 2 => .array (.array .int)
  | 3 => .int
  | _ => .int
abbrev wsX30 : List Cond := u_ws RX3 TX3 5
theorem nmX3 : ∀ a, a < 5 → ∀ b, b < 5 → a ≠ b → (TX3 a).2.1 ≠ (TX3 b).2.1 := by decide +kernel
theorem tyX3_ok : ∀ k, k < 5 → parseFieldDescriptor (TX3 k).2.2.1 = some (tyX3 k) := by decide +kernel
abbrev cX3_init : ByteArray := prog_5_method_1_code
def yX3_init : MethodName := ⟨RX3, "<init>", "()V"⟩
abbrev cX3_settle : ByteArray := prog_5_method_2_code
def yX3_settle : MethodName := ⟨RX3, "settle", "(JI)I"⟩
abbrev cX3_laterOf : ByteArray := prog_5_method_3_code
def yX3_laterOf : MethodName := ⟨RX3, "laterOf", "(I)I"⟩
abbrev cX3_takeBuses : ByteArray := prog_5_method_4_code
def yX3_takeBuses : MethodName := ⟨RX3, "takeBuses", "(J)V"⟩
abbrev cX3_leastWithFirst : ByteArray := prog_5_method_5_code
def yX3_leastWithFirst : MethodName := ⟨RX3, "leastWithFirst", "(I)I"⟩
abbrev cX3_leastOnward : ByteArray := prog_5_method_6_code
def yX3_leastOnward : MethodName := ⟨RX3, "leastOnward", "(III)I"⟩
abbrev cX3_through : ByteArray := prog_5_method_7_code
def yX3_through : MethodName := ⟨RX3, "through", "(III)I"⟩
abbrev cX3_chooseLater : ByteArray := prog_5_method_8_code
def yX3_chooseLater : MethodName := ⟨RX3, "chooseLater", "(I)V"⟩
abbrev cX3_leastLater : ByteArray := prog_5_method_9_code
def yX3_leastLater : MethodName := ⟨RX3, "leastLater", "(III)I"⟩
def RX4 : String := "LongestMet$Rod"
def TX4 : u_T := fun k => match k with
  | 0 => ("LongestMet$Rod", "lengths", "[I", true)
  | _ => ("LongestMet$Rod", "pieces", "I", false)
def tyX4 : Nat → FieldType := fun k => match k with
  | 0 => .array .int
  | _ => .int
abbrev wsX40 : List Cond := u_ws RX4 TX4 2
theorem nmX4 : ∀ a, a < 2 → ∀ b, b < 2 → a ≠ b → (TX4 a).2.1 ≠ (TX4 b).2.1 := by decide +kernel
theorem tyX4_ok : ∀ k, k < 2 → parseFieldDescriptor (TX4 k).2.2.1 = some (tyX4 k) := by decide +kernel
abbrev cX4_init : ByteArray := prog_6_method_1_code
def yX4_init : MethodName := ⟨RX4, "<init>", "()V"⟩
abbrev cX4_lengthen : ByteArray := prog_6_method_2_code
def yX4_lengthen : MethodName := ⟨RX4, "lengthen", "(I)I"⟩
abbrev cX4_clear : ByteArray := prog_6_method_3_code
def yX4_clear : MethodName := ⟨RX4, "clear", "()I"⟩
abbrev cX4_piecesTold : ByteArray := prog_6_method_4_code
def yX4_piecesTold : MethodName := ⟨RX4, "piecesTold", "()I"⟩
abbrev cX4_lengthInAll : ByteArray := prog_6_method_5_code
def yX4_lengthInAll : MethodName := ⟨RX4, "lengthInAll", "()I"⟩
abbrev cX4_squares : ByteArray := prog_6_method_6_code
def yX4_squares : MethodName := ⟨RX4, "squares", "()I"⟩
abbrev cX4_ways : ByteArray := prog_6_method_7_code
def yX4_ways : MethodName := ⟨RX4, "ways", "(I)J"⟩
abbrev cX4_waysToHit : ByteArray := prog_6_method_8_code
def yX4_waysToHit : MethodName := ⟨RX4, "waysToHit", "(II)J"⟩
abbrev cX4_allWaysToHit : ByteArray := prog_6_method_9_code
def yX4_allWaysToHit : MethodName := ⟨RX4, "allWaysToHit", "(I)J"⟩
abbrev cX4_waysToHitAll : ByteArray := prog_6_method_10_code
def yX4_waysToHitAll : MethodName := ⟨RX4, "waysToHitAll", "(I)J"⟩
abbrev cX4_lengthWithout : ByteArray := prog_6_method_11_code
def yX4_lengthWithout : MethodName := ⟨RX4, "lengthWithout", "(I)I"⟩
abbrev cX4_power : ByteArray := prog_6_method_12_code
def yX4_power : MethodName := ⟨RX4, "power", "(JI)J"⟩
def RX5 : String := "LongestMet$Sheets"
def TX5 : u_T := fun k => match k with
  | 0 => ("LongestMet$Sheets", "rows", "[[I", true)
  | 1 => ("LongestMet$Sheets", "forms", "[I", true)
  | 2 => ("LongestMet$Sheets", "sizes", "[I", true)
  | _ => ("LongestMet$Sheets", "latest", "I", false)
def tyX5 : Nat → FieldType := fun k => match k with
  | 0 => .array (.array .int)
  | 1 => .array .int
  | 2 => .array .int
  | _ => .int
abbrev wsX50 : List Cond := u_ws RX5 TX5 4
theorem nmX5 : ∀ a, a < 4 → ∀ b, b < 4 → a ≠ b → (TX5 a).2.1 ≠ (TX5 b).2.1 := by decide +kernel
theorem tyX5_ok : ∀ k, k < 4 → parseFieldDescriptor (TX5 k).2.2.1 = some (tyX5 k) := by decide +kernel
abbrev cX5_init : ByteArray := prog_7_method_1_code
def yX5_init : MethodName := ⟨RX5, "<init>", "()V"⟩
abbrev cX5_finding : ByteArray := prog_7_method_2_code
def yX5_finding : MethodName := ⟨RX5, "finding", "(I)I"⟩
abbrev cX5_latestFinding : ByteArray := prog_7_method_3_code
def yX5_latestFinding : MethodName := ⟨RX5, "latestFinding", "()I"⟩
abbrev cX5_isLost : ByteArray := prog_7_method_4_code
def yX5_isLost : MethodName := ⟨RX5, "isLost", "(I)Z"⟩
abbrev cX5_itemsOf : ByteArray := prog_7_method_5_code
def yX5_itemsOf : MethodName := ⟨RX5, "itemsOf", "(I)I"⟩
abbrev cX5_renew : ByteArray := prog_7_method_6_code
def yX5_renew : MethodName := ⟨RX5, "renew", "(III)V"⟩
abbrev cX5_drop : ByteArray := prog_7_method_7_code
def yX5_drop : MethodName := ⟨RX5, "drop", "(I)I"⟩
abbrev cX5_faultOf : ByteArray := prog_7_method_8_code
def yX5_faultOf : MethodName := ⟨RX5, "faultOf", "(III)I"⟩
abbrev cX5_itemAt : ByteArray := prog_7_method_9_code
def yX5_itemAt : MethodName := ⟨RX5, "itemAt", "(II)I"⟩
abbrev cX5_setItem : ByteArray := prog_7_method_10_code
def yX5_setItem : MethodName := ⟨RX5, "setItem", "(III)V"⟩
abbrev cX5_areUnlike : ByteArray := prog_7_method_11_code
def yX5_areUnlike : MethodName := ⟨RX5, "areUnlike", "(II)Z"⟩
abbrev cX5_hasNotSoMany : ByteArray := prog_7_method_12_code
def yX5_hasNotSoMany : MethodName := ⟨RX5, "hasNotSoMany", "(III)Z"⟩
abbrev cX5_move : ByteArray := prog_7_method_13_code
def yX5_move : MethodName := ⟨RX5, "move", "(IIIII)V"⟩
def RX6 : String := "LongestMet$Stop"
def TX6 : u_T := fun k => match k with
  | _ => ("LongestMet$Stop", "lines", "[J", true)
def tyX6 : Nat → FieldType := fun k => match k with
  | _ => .array .long
abbrev wsX60 : List Cond := u_ws RX6 TX6 1
theorem nmX6 : ∀ a, a < 1 → ∀ b, b < 1 → a ≠ b → (TX6 a).2.1 ≠ (TX6 b).2.1 := by decide +kernel
theorem tyX6_ok : ∀ k, k < 1 → parseFieldDescriptor (TX6 k).2.2.1 = some (tyX6 k) := by decide +kernel
abbrev cX6_init : ByteArray := prog_8_method_1_code
def yX6_init : MethodName := ⟨RX6, "<init>", "()V"⟩
abbrev cX6_setLine : ByteArray := prog_8_method_2_code
def yX6_setLine : MethodName := ⟨RX6, "setLine", "(IJ)V"⟩
abbrev cX6_minutesOf : ByteArray := prog_8_method_3_code
def yX6_minutesOf : MethodName := ⟨RX6, "minutesOf", "(I)J"⟩
abbrev cX6_busesOf : ByteArray := prog_8_method_4_code
def yX6_busesOf : MethodName := ⟨RX6, "busesOf", "(I)I"⟩
abbrev cX6_waitAt : ByteArray := prog_8_method_5_code
def yX6_waitAt : MethodName := ⟨RX6, "waitAt", "(II)I"⟩
abbrev cX6_metBy : ByteArray := prog_8_method_6_code
def yX6_metBy : MethodName := ⟨RX6, "metBy", "(II)I"⟩
abbrev cX6_sumOfGaps : ByteArray := prog_8_method_7_code
def yX6_sumOfGaps : MethodName := ⟨RX6, "sumOfGaps", "(II)I"⟩
abbrev cX6_weightOf : ByteArray := prog_8_method_8_code
def yX6_weightOf : MethodName := ⟨RX6, "weightOf", "(II)I"⟩
abbrev cX6_gapBehind : ByteArray := prog_8_method_9_code
def yX6_gapBehind : MethodName := ⟨RX6, "gapBehind", "(II)I"⟩
abbrev cX6_isIn : ByteArray := prog_8_method_10_code
def yX6_isIn : MethodName := ⟨RX6, "isIn", "(JI)Z"⟩
abbrev cX6_waitsIn : ByteArray := prog_8_method_11_code
def yX6_waitsIn : MethodName := ⟨RX6, "waitsIn", "(I)I"⟩
def RX7 : String := "LongestMet$Survey"
def TX7 : u_T := fun k => match k with
  | 0 => ("LongestMet$Survey", "answers", "[I", true)
  | 1 => ("LongestMet$Survey", "toldAt", "[I", true)
  | 2 => ("LongestMet$Survey", "backAt", "[I", true)
  | 3 => ("LongestMet$Survey", "told", "I", false)
  | 4 => ("LongestMet$Survey", "now", "I", false)
  | _ => ("LongestMet$Survey", "seenFrom", "I", false)
def tyX7 : Nat → FieldType := fun k => match k with
  | 0 => .array .int
  | 1 => .array .int
  | 2 => .array .int
  | 3 => .int
  | 4 => .int
  | _ => .int
abbrev wsX70 : List Cond := u_ws RX7 TX7 6
theorem nmX7 : ∀ a, a < 6 → ∀ b, b < 6 → a ≠ b → (TX7 a).2.1 ≠ (TX7 b).2.1 := by decide +kernel
theorem tyX7_ok : ∀ k, k < 6 → parseFieldDescriptor (TX7 k).2.2.1 = some (tyX7 k) := by decide +kernel
abbrev cX7_init : ByteArray := prog_9_method_1_code
def yX7_init : MethodName := ⟨RX7, "<init>", "()V"⟩
abbrev cX7_cannotBeNow : ByteArray := prog_9_method_2_code
def yX7_cannotBeNow : MethodName := ⟨RX7, "cannotBeNow", "(I)Z"⟩
abbrev cX7_answer : ByteArray := prog_9_method_3_code
def yX7_answer : MethodName := ⟨RX7, "answer", "(II)I"⟩
abbrev cX7_answersTold : ByteArray := prog_9_method_4_code
def yX7_answersTold : MethodName := ⟨RX7, "answersTold", "()I"⟩
abbrev cX7_isTakenBack : ByteArray := prog_9_method_5_code
def yX7_isTakenBack : MethodName := ⟨RX7, "isTakenBack", "(I)Z"⟩
abbrev cX7_forget : ByteArray := prog_9_method_6_code
def yX7_forget : MethodName := ⟨RX7, "forget", "(II)V"⟩
abbrev cX7_lookFrom : ByteArray := prog_9_method_7_code
def yX7_lookFrom : MethodName := ⟨RX7, "lookFrom", "(I)I"⟩
abbrev cX7_saying : ByteArray := prog_9_method_8_code
def yX7_saying : MethodName := ⟨RX7, "saying", "(I)I"⟩
abbrev cX7_counting : ByteArray := prog_9_method_9_code
def yX7_counting : MethodName := ⟨RX7, "counting", "()I"⟩
abbrev cX7_childrenSaid : ByteArray := prog_9_method_10_code
def yX7_childrenSaid : MethodName := ⟨RX7, "childrenSaid", "()I"⟩
abbrev cX7_familyParts : ByteArray := prog_9_method_11_code
def yX7_familyParts : MethodName := ⟨RX7, "familyParts", "(I)I"⟩
abbrev cX7_allFamilyParts : ByteArray := prog_9_method_12_code
def yX7_allFamilyParts : MethodName := ⟨RX7, "allFamilyParts", "()I"⟩
abbrev cX7_counts : ByteArray := prog_9_method_13_code
def yX7_counts : MethodName := ⟨RX7, "counts", "(I)Z"⟩
def RX8 : String := "LongestMet$Text"
def TX8 : u_T := fun k => match k with
  | 0 => ("LongestMet$Text", "bytes", "[I", true)
  | 1 => ("LongestMet$Text", "length", "I", false)
  | 2 => ("LongestMet$Text", "place", "I", false)
  | _ => ("LongestMet$Text", "minutes", "J", false)
def tyX8 : Nat → FieldType := fun k => match k with
  | 0 => .array .int
  | 1 => .int
  | 2 => .int
  | _ => .long
abbrev wsX80 : List Cond := u_ws RX8 TX8 4
theorem nmX8 : ∀ a, a < 4 → ∀ b, b < 4 → a ≠ b → (TX8 a).2.1 ≠ (TX8 b).2.1 := by decide +kernel
theorem tyX8_ok : ∀ k, k < 4 → parseFieldDescriptor (TX8 k).2.2.1 = some (tyX8 k) := by decide +kernel
abbrev cX8_init : ByteArray := prog_10_method_1_code
def yX8_init : MethodName := ⟨RX8, "<init>", "()V"⟩
abbrev cX8_append : ByteArray := prog_10_method_2_code
def yX8_append : MethodName := ⟨RX8, "append", "(I)I"⟩
abbrev cX8_empty : ByteArray := prog_10_method_3_code
def yX8_empty : MethodName := ⟨RX8, "empty", "()I"⟩
abbrev cX8_bytesTyped : ByteArray := prog_10_method_4_code
def yX8_bytesTyped : MethodName := ⟨RX8, "bytesTyped", "()I"⟩
abbrev cX8_minutesScanned : ByteArray := prog_10_method_5_code
def yX8_minutesScanned : MethodName := ⟨RX8, "minutesScanned", "()J"⟩
abbrev cX8_scan : ByteArray := prog_10_method_6_code
def yX8_scan : MethodName := ⟨RX8, "scan", "()I"⟩
abbrev cX8_scanPart : ByteArray := prog_10_method_7_code
def yX8_scanPart : MethodName := ⟨RX8, "scanPart", "()I"⟩
abbrev cX8_scanNumber : ByteArray := prog_10_method_8_code
def yX8_scanNumber : MethodName := ⟨RX8, "scanNumber", "()I"⟩
abbrev cX8_ahead : ByteArray := prog_10_method_9_code
def yX8_ahead : MethodName := ⟨RX8, "ahead", "()I"⟩
def RX9 : String := "LongestMet$Ward"
def TX9 : u_T := fun k => match k with
  | 0 => ("LongestMet$Ward", "first", "[I", true)
  | 1 => ("LongestMet$Ward", "last", "[I", true)
  | _ => ("LongestMet$Ward", "stays", "I", false)
def tyX9 : Nat → FieldType := fun k => match k with
  | 0 => .array .int
  | 1 => .array .int
  | _ => .int
abbrev wsX90 : List Cond := u_ws RX9 TX9 3
theorem nmX9 : ∀ a, a < 3 → ∀ b, b < 3 → a ≠ b → (TX9 a).2.1 ≠ (TX9 b).2.1 := by decide +kernel
theorem tyX9_ok : ∀ k, k < 3 → parseFieldDescriptor (TX9 k).2.2.1 = some (tyX9 k) := by decide +kernel
abbrev cX9_init : ByteArray := prog_11_method_1_code
def yX9_init : MethodName := ⟨RX9, "<init>", "()V"⟩
abbrev cX9_admit : ByteArray := prog_11_method_2_code
def yX9_admit : MethodName := ⟨RX9, "admit", "(II)I"⟩
abbrev cX9_staysTold : ByteArray := prog_11_method_3_code
def yX9_staysTold : MethodName := ⟨RX9, "staysTold", "()I"⟩
abbrev cX9_firstDay : ByteArray := prog_11_method_4_code
def yX9_firstDay : MethodName := ⟨RX9, "firstDay", "(I)I"⟩
abbrev cX9_endOn : ByteArray := prog_11_method_5_code
def yX9_endOn : MethodName := ⟨RX9, "endOn", "(II)I"⟩
abbrev cX9_sum : ByteArray := prog_11_method_6_code
def yX9_sum : MethodName := ⟨RX9, "sum", "(III)J"⟩
abbrev cX9_weight : ByteArray := prog_11_method_7_code
def yX9_weight : MethodName := ⟨RX9, "weight", "(IIII)J"⟩
abbrev cX9_above : ByteArray := prog_11_method_8_code
def yX9_above : MethodName := ⟨RX9, "above", "(III)J"⟩
abbrev cX9_below : ByteArray := prog_11_method_9_code
def yX9_below : MethodName := ⟨RX9, "below", "(III)J"⟩
abbrev cX9_lyingOn : ByteArray := prog_11_method_10_code
def yX9_lyingOn : MethodName := ⟨RX9, "lyingOn", "(I)I"⟩
abbrev cX9_fullestDay : ByteArray := prog_11_method_11_code
def yX9_fullestDay : MethodName := ⟨RX9, "fullestDay", "()I"⟩
abbrev cX9_mostApart : ByteArray := prog_11_method_12_code
def yX9_mostApart : MethodName := ⟨RX9, "mostApart", "()I"⟩
abbrev cX9_firstEnd : ByteArray := prog_11_method_13_code
def yX9_firstEnd : MethodName := ⟨RX9, "firstEnd", "(I)I"⟩
def RX10 : String := "LongestMet"
def TX10 : u_T := fun k => match k with
  | 0 => ("LongestMet", "text", "LLongestMet$Text;", true)
  | 1 => ("LongestMet", "stop", "LLongestMet$Stop;", true)
  | 2 => ("LongestMet", "holding", "LLongestMet$Holding;", true)
  | 3 => ("LongestMet", "survey", "LLongestMet$Survey;", true)
  | 4 => ("LongestMet", "country", "LLongestMet$Country;", true)
  | 5 => ("LongestMet", "beds", "LLongestMet$Ward;", true)
  | 6 => ("LongestMet", "circle", "LLongestMet$Circle;", true)
  | 7 => ("LongestMet", "rod", "LLongestMet$Rod;", true)
  | _ => ("LongestMet", "sheets", "LLongestMet$Sheets;", true)
def tyX10 : Nat → FieldType := fun k => match k with
  | 0 => .object "LongestMet$Text"
  | 1 => .object "LongestMet$Stop"
  | 2 => .object "LongestMet$Holding"
  | 3 => .object "LongestMet$Survey"
  | 4 => .object "LongestMet$Country"
  | 5 => .object "LongestMet$Ward"
  | 6 => .object "LongestMet$Circle"
  | 7 => .object "LongestMet$Rod"
  | _ => .object "LongestMet$Sheets"
abbrev wsX100 : List Cond := u_ws RX10 TX10 9
theorem nmX10 : ∀ a, a < 9 → ∀ b, b < 9 → a ≠ b → (TX10 a).2.1 ≠ (TX10 b).2.1 := by decide +kernel
theorem tyX10_ok : ∀ k, k < 9 → parseFieldDescriptor (TX10 k).2.2.1 = some (tyX10 k) := by decide +kernel
abbrev cX10_init : ByteArray := prog_1_method_1_code
def yX10_init : MethodName := ⟨RX10, "<init>", "()V"⟩
abbrev cX10_type : ByteArray := prog_1_method_2_code
def yX10_type : MethodName := ⟨RX10, "type", "(I)I"⟩
abbrev cX10_wipe : ByteArray := prog_1_method_3_code
def yX10_wipe : MethodName := ⟨RX10, "wipe", "()I"⟩
abbrev cX10_fault : ByteArray := prog_1_method_4_code
def yX10_fault : MethodName := ⟨RX10, "fault", "()I"⟩
abbrev cX10_line : ByteArray := prog_1_method_5_code
def yX10_line : MethodName := ⟨RX10, "line", "(I)I"⟩
abbrev cX10_waits : ByteArray := prog_1_method_6_code
def yX10_waits : MethodName := ⟨RX10, "waits", "(II)I"⟩
abbrev cX10_met : ByteArray := prog_1_method_7_code
def yX10_met : MethodName := ⟨RX10, "met", "(II)I"⟩
abbrev cX10_gaps : ByteArray := prog_1_method_8_code
def yX10_gaps : MethodName := ⟨RX10, "gaps", "(III)J"⟩
abbrev cX10_held : ByteArray := prog_1_method_9_code
def yX10_held : MethodName := ⟨RX10, "held", "(III)I"⟩
abbrev cX10_asked : ByteArray := prog_1_method_10_code
def yX10_asked : MethodName := ⟨RX10, "asked", "(II)I"⟩
abbrev cX10_read : ByteArray := prog_1_method_11_code
def yX10_read : MethodName := ⟨RX10, "read", "(II)I"⟩
abbrev cX10_takeBack : ByteArray := prog_1_method_12_code
def yX10_takeBack : MethodName := ⟨RX10, "takeBack", "(II)I"⟩
abbrev cX10_asOf : ByteArray := prog_1_method_13_code
def yX10_asOf : MethodName := ⟨RX10, "asOf", "(I)I"⟩
abbrev cX10_said : ByteArray := prog_1_method_14_code
def yX10_said : MethodName := ⟨RX10, "said", "(I)I"⟩
abbrev cX10_share : ByteArray := prog_1_method_15_code
def yX10_share : MethodName := ⟨RX10, "share", "(III)J"⟩
abbrev cX10_size : ByteArray := prog_1_method_16_code
def yX10_size : MethodName := ⟨RX10, "size", "(II)J"⟩
abbrev cX10_families : ByteArray := prog_1_method_17_code
def yX10_families : MethodName := ⟨RX10, "families", "(III)I"⟩
abbrev cX10_chance : ByteArray := prog_1_method_18_code
def yX10_chance : MethodName := ⟨RX10, "chance", "(II)J"⟩
abbrev cX10_likeliest : ByteArray := prog_1_method_19_code
def yX10_likeliest : MethodName := ⟨RX10, "likeliest", "()I"⟩
abbrev cX10_stay : ByteArray := prog_1_method_20_code
def yX10_stay : MethodName := ⟨RX10, "stay", "(II)I"⟩
abbrev cX10_leaves : ByteArray := prog_1_method_21_code
def yX10_leaves : MethodName := ⟨RX10, "leaves", "(II)I"⟩
abbrev cX10_ward : ByteArray := prog_1_method_22_code
def yX10_ward : MethodName := ⟨RX10, "ward", "(III)I"⟩
abbrev cX10_means : ByteArray := prog_1_method_23_code
def yX10_means : MethodName := ⟨RX10, "means", "(IIII)J"⟩
abbrev cX10_fullest : ByteArray := prog_1_method_24_code
def yX10_fullest : MethodName := ⟨RX10, "fullest", "(I)I"⟩
abbrev cX10_friends : ByteArray := prog_1_method_25_code
def yX10_friends : MethodName := ⟨RX10, "friends", "(III)I"⟩
abbrev cX10_mean : ByteArray := prog_1_method_26_code
def yX10_mean : MethodName := ⟨RX10, "mean", "(II)J"⟩
abbrev cX10_fewer : ByteArray := prog_1_method_27_code
def yX10_fewer : MethodName := ⟨RX10, "fewer", "()I"⟩
abbrev cX10_picked : ByteArray := prog_1_method_28_code
def yX10_picked : MethodName := ⟨RX10, "picked", "(II)J"⟩
abbrev cX10_best : ByteArray := prog_1_method_29_code
def yX10_best : MethodName := ⟨RX10, "best", "(II)I"⟩
abbrev cX10_piece : ByteArray := prog_1_method_30_code
def yX10_piece : MethodName := ⟨RX10, "piece", "(I)I"⟩
abbrev cX10_snap : ByteArray := prog_1_method_31_code
def yX10_snap : MethodName := ⟨RX10, "snap", "()I"⟩
abbrev cX10_hit : ByteArray := prog_1_method_32_code
def yX10_hit : MethodName := ⟨RX10, "hit", "(III)J"⟩
abbrev cX10_stick : ByteArray := prog_1_method_33_code
def yX10_stick : MethodName := ⟨RX10, "stick", "(III)J"⟩
abbrev cX10_sheet : ByteArray := prog_1_method_34_code
def yX10_sheet : MethodName := ⟨RX10, "sheet", "(III)I"⟩
abbrev cX10_lose : ByteArray := prog_1_method_35_code
def yX10_lose : MethodName := ⟨RX10, "lose", "(I)I"⟩
abbrev cX10_put : ByteArray := prog_1_method_36_code
def yX10_put : MethodName := ⟨RX10, "put", "(IIII)I"⟩
abbrev cX10_get : ByteArray := prog_1_method_37_code
def yX10_get : MethodName := ⟨RX10, "get", "(III)I"⟩
abbrev cX10_copy : ByteArray := prog_1_method_38_code
def yX10_copy : MethodName := ⟨RX10, "copy", "(IIIII)I"⟩
abbrev cX10_write : ByteArray := prog_1_method_39_code
def yX10_write : MethodName := ⟨RX10, "write", "(II)I"⟩
abbrev cX10_count : ByteArray := prog_1_method_40_code
def yX10_count : MethodName := ⟨RX10, "count", "(I)I"⟩
abbrev cX10_digest : ByteArray := prog_1_method_41_code
def yX10_digest : MethodName := ⟨RX10, "digest", "()J"⟩
abbrev cX10_behind : ByteArray := prog_1_method_42_code
def yX10_behind : MethodName := ⟨RX10, "behind", "(JJ)J"⟩
abbrev cX10_outside : ByteArray := prog_1_method_43_code
def yX10_outside : MethodName := ⟨RX10, "outside", "(III)Z"⟩
abbrev cX10_cannotEnd : ByteArray := prog_1_method_44_code
def yX10_cannotEnd : MethodName := ⟨RX10, "cannotEnd", "(II)Z"⟩
abbrev cX10_isNoSpan : ByteArray := prog_1_method_45_code
def yX10_isNoSpan : MethodName := ⟨RX10, "isNoSpan", "(II)Z"⟩
def RX11 : String := "LongestMetModel"
def TX11 : u_T := fun k => match k with
  | 0 => ("LongestMetModel", "typed", "I", false)
  | 1 => ("LongestMetModel", "text", "[I", true)
  | 2 => ("LongestMetModel", "said60", "[I", true)
  | 3 => ("LongestMetModel", "goes", "[I", true)
  | 4 => ("LongestMetModel", "at", "I", false)
  | 5 => ("LongestMetModel", "minutes", "[I", true)
  | 6 => ("LongestMetModel", "least", "[I", true)
  | 7 => ("LongestMetModel", "later", "[I", true)
  | 8 => ("LongestMetModel", "answers", "I", false)
  | 9 => ("LongestMetModel", "answerOf", "[I", true)
  | 10 => ("LongestMetModel", "answerTime", "[I", true)
  | 11 => ("LongestMetModel", "answerBack", "[I", true)
  | 12 => ("LongestMetModel", "lastTime", "I", false)
  | 13 => ("LongestMetModel", "knownTo", "I", false)
  | 14 => ("LongestMetModel", "families", "[I", true)
  | 15 => ("LongestMetModel", "stays", "I", false)
  | 16 => ("LongestMetModel", "fromDay", "[I", true)
  | 17 => ("LongestMetModel", "toDay", "[I", true)
  | 18 => ("LongestMetModel", "friendsOf", "[I", true)
  | 19 => ("LongestMetModel", "pieces", "I", false)
  | 20 => ("LongestMetModel", "lengths", "[I", true)
  | 21 => ("LongestMetModel", "isThere", "[Z", true)
  | 22 => ("LongestMetModel", "forms", "[I", true)
  | 23 => ("LongestMetModel", "sizes", "[I", true)
  | 24 => ("LongestMetModel", "items", "[I", true)
  | 25 => ("LongestMetModel", "moved", "[I", true)
  | _ => ("LongestMetModel", "finding", "I", false)
def tyX11 : Nat → FieldType := fun k => match k with
  | 0 => .int
  | 1 => .array .int
  | 2 => .array .int
  | 3 => .array .int
  | 4 => .int
  | 5 => .array .int
  | 6 => .array .int
  | 7 => .array .int
  | 8 => .int
  | 9 => .array .int
  | 10 => .array .int
  | 11 => .array .int
  | 12 => .int
  | 13 => .int
  | 14 => .array .int
  | 15 => .int
  | 16 => .array .int
  | 17 => .array .int
  | 18 => .array .int
  | 19 => .int
  | 20 => .array .int
  | 21 => .array .boolean
  | 22 => .array .int
  | 23 => .array .int
  | 24 => .array .int
  | 25 => .array .int
  | _ => .int
abbrev wsX110 : List Cond := u_ws RX11 TX11 27
theorem nmX11 : ∀ a, a < 27 → ∀ b, b < 27 → a ≠ b → (TX11 a).2.1 ≠ (TX11 b).2.1 := by decide +kernel
theorem tyX11_ok : ∀ k, k < 27 → parseFieldDescriptor (TX11 k).2.2.1 = some (tyX11 k) := by decide +kernel
abbrev cX11_init : ByteArray := prog_13_method_1_code
def yX11_init : MethodName := ⟨RX11, "<init>", "()V"⟩
abbrev cX11_in : ByteArray := prog_13_method_3_code
def yX11_in : MethodName := ⟨RX11, "in", "(III)Z"⟩
abbrev cX11_has : ByteArray := prog_13_method_4_code
def yX11_has : MethodName := ⟨RX11, "has", "(II)Z"⟩
abbrev cX11_ones : ByteArray := prog_13_method_5_code
def yX11_ones : MethodName := ⟨RX11, "ones", "(I)I"⟩
abbrev cX11_no : ByteArray := prog_13_method_6_code
def yX11_no : MethodName := ⟨RX11, "no", "(I)J"⟩
abbrev cX11_lowest : ByteArray := prog_13_method_7_code
def yX11_lowest : MethodName := ⟨RX11, "lowest", "(JJI)J"⟩
abbrev cX11_way : ByteArray := prog_13_method_8_code
def yX11_way : MethodName := ⟨RX11, "way", "(JJJJ)I"⟩
abbrev cX11_type : ByteArray := prog_13_method_9_code
def yX11_type : MethodName := ⟨RX11, "type", "(I)I"⟩
abbrev cX11_wipe : ByteArray := prog_13_method_10_code
def yX11_wipe : MethodName := ⟨RX11, "wipe", "()I"⟩
abbrev cX11_byteAt : ByteArray := prog_13_method_11_code
def yX11_byteAt : MethodName := ⟨RX11, "byteAt", "(I)I"⟩
abbrev cX11_number : ByteArray := prog_13_method_12_code
def yX11_number : MethodName := ⟨RX11, "number", "(I)I"⟩
abbrev cX11_faultNow : ByteArray := prog_13_method_13_code
def yX11_faultNow : MethodName := ⟨RX11, "faultNow", "()I"⟩
abbrev cX11_fault : ByteArray := prog_13_method_14_code
def yX11_fault : MethodName := ⟨RX11, "fault", "()I"⟩
abbrev cX11_line : ByteArray := prog_13_method_15_code
def yX11_line : MethodName := ⟨RX11, "line", "(I)I"⟩
abbrev cX11_isBus : ByteArray := prog_13_method_16_code
def yX11_isBus : MethodName := ⟨RX11, "isBus", "(II)Z"⟩
abbrev cX11_many : ByteArray := prog_13_method_17_code
def yX11_many : MethodName := ⟨RX11, "many", "(I)I"⟩
abbrev cX11_waitOf : ByteArray := prog_13_method_18_code
def yX11_waitOf : MethodName := ⟨RX11, "waitOf", "(II)I"⟩
abbrev cX11_waits : ByteArray := prog_13_method_19_code
def yX11_waits : MethodName := ⟨RX11, "waits", "(II)I"⟩
abbrev cX11_gapBehind : ByteArray := prog_13_method_20_code
def yX11_gapBehind : MethodName := ⟨RX11, "gapBehind", "(II)I"⟩
abbrev cX11_met : ByteArray := prog_13_method_21_code
def yX11_met : MethodName := ⟨RX11, "met", "(II)I"⟩
abbrev cX11_gapsNow : ByteArray := prog_13_method_22_code
def yX11_gapsNow : MethodName := ⟨RX11, "gapsNow", "(III)J"⟩
abbrev cX11_gaps : ByteArray := prog_13_method_23_code
def yX11_gaps : MethodName := ⟨RX11, "gaps", "(III)J"⟩
abbrev cX11_waitsIn : ByteArray := prog_13_method_24_code
def yX11_waitsIn : MethodName := ⟨RX11, "waitsIn", "(I)I"⟩
abbrev cX11_backFrom : ByteArray := prog_13_method_25_code
def yX11_backFrom : MethodName := ⟨RX11, "backFrom", "(III)I"⟩
abbrev cX11_heldNow : ByteArray := prog_13_method_26_code
def yX11_heldNow : MethodName := ⟨RX11, "heldNow", "(III)I"⟩
abbrev cX11_held : ByteArray := prog_13_method_27_code
def yX11_held : MethodName := ⟨RX11, "held", "(III)I"⟩
abbrev cX11_answerMore : ByteArray := prog_13_method_28_code
def yX11_answerMore : MethodName := ⟨RX11, "answerMore", "(II)I"⟩
abbrev cX11_asked : ByteArray := prog_13_method_29_code
def yX11_asked : MethodName := ⟨RX11, "asked", "(II)I"⟩
abbrev cX11_read : ByteArray := prog_13_method_30_code
def yX11_read : MethodName := ⟨RX11, "read", "(II)I"⟩
abbrev cX11_takeBack : ByteArray := prog_13_method_31_code
def yX11_takeBack : MethodName := ⟨RX11, "takeBack", "(II)I"⟩
abbrev cX11_asOf : ByteArray := prog_13_method_32_code
def yX11_asOf : MethodName := ⟨RX11, "asOf", "(I)I"⟩
abbrev cX11_saidOf : ByteArray := prog_13_method_33_code
def yX11_saidOf : MethodName := ⟨RX11, "saidOf", "(I)I"⟩
abbrev cX11_said : ByteArray := prog_13_method_34_code
def yX11_said : MethodName := ⟨RX11, "said", "(I)I"⟩
abbrev cX11_familyParts : ByteArray := prog_13_method_35_code
def yX11_familyParts : MethodName := ⟨RX11, "familyParts", "()I"⟩
abbrev cX11_share : ByteArray := prog_13_method_36_code
def yX11_share : MethodName := ⟨RX11, "share", "(III)J"⟩
abbrev cX11_sizeNow : ByteArray := prog_13_method_37_code
def yX11_sizeNow : MethodName := ⟨RX11, "sizeNow", "(II)J"⟩
abbrev cX11_size : ByteArray := prog_13_method_38_code
def yX11_size : MethodName := ⟨RX11, "size", "(II)J"⟩
abbrev cX11_families : ByteArray := prog_13_method_39_code
def yX11_families : MethodName := ⟨RX11, "families", "(III)I"⟩
abbrev cX11_choose : ByteArray := prog_13_method_40_code
def yX11_choose : MethodName := ⟨RX11, "choose", "(II)J"⟩
abbrev cX11_childrenOf : ByteArray := prog_13_method_41_code
def yX11_childrenOf : MethodName := ⟨RX11, "childrenOf", "(I)I"⟩
abbrev cX11_choices : ByteArray := prog_13_method_42_code
def yX11_choices : MethodName := ⟨RX11, "choices", "(I)J"⟩
abbrev cX11_chance : ByteArray := prog_13_method_43_code
def yX11_chance : MethodName := ⟨RX11, "chance", "(II)J"⟩
abbrev cX11_likeliestNow : ByteArray := prog_13_method_44_code
def yX11_likeliestNow : MethodName := ⟨RX11, "likeliestNow", "()I"⟩
abbrev cX11_likeliest : ByteArray := prog_13_method_45_code
def yX11_likeliest : MethodName := ⟨RX11, "likeliest", "()I"⟩
abbrev cX11_stay : ByteArray := prog_13_method_46_code
def yX11_stay : MethodName := ⟨RX11, "stay", "(II)I"⟩
abbrev cX11_leaves : ByteArray := prog_13_method_47_code
def yX11_leaves : MethodName := ⟨RX11, "leaves", "(II)I"⟩
abbrev cX11_lengthOf : ByteArray := prog_13_method_48_code
def yX11_lengthOf : MethodName := ⟨RX11, "lengthOf", "(I)I"⟩
abbrev cX11_daysIn : ByteArray := prog_13_method_49_code
def yX11_daysIn : MethodName := ⟨RX11, "daysIn", "(III)I"⟩
abbrev cX11_wardOf : ByteArray := prog_13_method_50_code
def yX11_wardOf : MethodName := ⟨RX11, "wardOf", "(III)J"⟩
abbrev cX11_wardNow : ByteArray := prog_13_method_51_code
def yX11_wardNow : MethodName := ⟨RX11, "wardNow", "(III)I"⟩
abbrev cX11_isSpan : ByteArray := prog_13_method_52_code
def yX11_isSpan : MethodName := ⟨RX11, "isSpan", "(II)Z"⟩
abbrev cX11_ward : ByteArray := prog_13_method_53_code
def yX11_ward : MethodName := ⟨RX11, "ward", "(III)I"⟩
abbrev cX11_meansNow : ByteArray := prog_13_method_54_code
def yX11_meansNow : MethodName := ⟨RX11, "meansNow", "(IIII)J"⟩
abbrev cX11_means : ByteArray := prog_13_method_55_code
def yX11_means : MethodName := ⟨RX11, "means", "(IIII)J"⟩
abbrev cX11_apartNow : ByteArray := prog_13_method_56_code
def yX11_apartNow : MethodName := ⟨RX11, "apartNow", "()I"⟩
abbrev cX11_fullestNow : ByteArray := prog_13_method_57_code
def yX11_fullestNow : MethodName := ⟨RX11, "fullestNow", "(I)I"⟩
abbrev cX11_fullest : ByteArray := prog_13_method_58_code
def yX11_fullest : MethodName := ⟨RX11, "fullest", "(I)I"⟩
abbrev cX11_friends : ByteArray := prog_13_method_59_code
def yX11_friends : MethodName := ⟨RX11, "friends", "(III)I"⟩
abbrev cX11_pickedParts : ByteArray := prog_13_method_60_code
def yX11_pickedParts : MethodName := ⟨RX11, "pickedParts", "(I)I"⟩
abbrev cX11_meanNow : ByteArray := prog_13_method_61_code
def yX11_meanNow : MethodName := ⟨RX11, "meanNow", "(II)J"⟩
abbrev cX11_mean : ByteArray := prog_13_method_62_code
def yX11_mean : MethodName := ⟨RX11, "mean", "(II)J"⟩
abbrev cX11_fewerNow : ByteArray := prog_13_method_63_code
def yX11_fewerNow : MethodName := ⟨RX11, "fewerNow", "()I"⟩
abbrev cX11_fewer : ByteArray := prog_13_method_64_code
def yX11_fewer : MethodName := ⟨RX11, "fewer", "()I"⟩
abbrev cX11_picked : ByteArray := prog_13_method_65_code
def yX11_picked : MethodName := ⟨RX11, "picked", "(II)J"⟩
abbrev cX11_bestNow : ByteArray := prog_13_method_66_code
def yX11_bestNow : MethodName := ⟨RX11, "bestNow", "(II)I"⟩
abbrev cX11_best : ByteArray := prog_13_method_67_code
def yX11_best : MethodName := ⟨RX11, "best", "(II)I"⟩
abbrev cX11_piece : ByteArray := prog_13_method_68_code
def yX11_piece : MethodName := ⟨RX11, "piece", "(I)I"⟩
abbrev cX11_snap : ByteArray := prog_13_method_69_code
def yX11_snap : MethodName := ⟨RX11, "snap", "()I"⟩
abbrev cX11_whole : ByteArray := prog_13_method_70_code
def yX11_whole : MethodName := ⟨RX11, "whole", "()I"⟩
abbrev cX11_power : ByteArray := prog_13_method_71_code
def yX11_power : MethodName := ⟨RX11, "power", "(II)J"⟩
abbrev cX11_hit : ByteArray := prog_13_method_72_code
def yX11_hit : MethodName := ⟨RX11, "hit", "(III)J"⟩
abbrev cX11_stickNow : ByteArray := prog_13_method_73_code
def yX11_stickNow : MethodName := ⟨RX11, "stickNow", "(III)J"⟩
abbrev cX11_stick : ByteArray := prog_13_method_74_code
def yX11_stick : MethodName := ⟨RX11, "stick", "(III)J"⟩
abbrev cX11_meets : ByteArray := prog_13_method_75_code
def yX11_meets : MethodName := ⟨RX11, "meets", "(I)I"⟩
abbrev cX11_isSheet : ByteArray := prog_13_method_76_code
def yX11_isSheet : MethodName := ⟨RX11, "isSheet", "(I)Z"⟩
abbrev cX11_sheet : ByteArray := prog_13_method_77_code
def yX11_sheet : MethodName := ⟨RX11, "sheet", "(III)I"⟩
abbrev cX11_lose : ByteArray := prog_13_method_78_code
def yX11_lose : MethodName := ⟨RX11, "lose", "(I)I"⟩
abbrev cX11_lacks : ByteArray := prog_13_method_79_code
def yX11_lacks : MethodName := ⟨RX11, "lacks", "(III)I"⟩
abbrev cX11_keep : ByteArray := prog_13_method_80_code
def yX11_keep : MethodName := ⟨RX11, "keep", "(III)V"⟩
abbrev cX11_put : ByteArray := prog_13_method_81_code
def yX11_put : MethodName := ⟨RX11, "put", "(IIII)I"⟩
abbrev cX11_get : ByteArray := prog_13_method_82_code
def yX11_get : MethodName := ⟨RX11, "get", "(III)I"⟩
abbrev cX11_copy : ByteArray := prog_13_method_83_code
def yX11_copy : MethodName := ⟨RX11, "copy", "(IIIII)I"⟩
abbrev cX11_write : ByteArray := prog_13_method_84_code
def yX11_write : MethodName := ⟨RX11, "write", "(II)I"⟩
abbrev cX11_friendships : ByteArray := prog_13_method_85_code
def yX11_friendships : MethodName := ⟨RX11, "friendships", "()I"⟩
abbrev cX11_count : ByteArray := prog_13_method_86_code
def yX11_count : MethodName := ⟨RX11, "count", "(I)I"⟩
abbrev cX11_digest : ByteArray := prog_13_method_87_code
def yX11_digest : MethodName := ⟨RX11, "digest", "()J"⟩
def RJ6 : String := "java/lang/Integer"
def TJ6 : u_T := fun k => match k with
  | _ => ("", "", "", false)
def tyJ6 : Nat → FieldType := fun k => match k with
  | _ => .int
abbrev wsJ60 : List Cond := u_ws RJ6 TJ6 0
theorem nmJ6 : ∀ a, a < 0 → ∀ b, b < 0 → a ≠ b → (TJ6 a).2.1 ≠ (TJ6 b).2.1 := by decide +kernel
theorem tyJ6_ok : ∀ k, k < 0 → parseFieldDescriptor (TJ6 k).2.2.1 = some (tyJ6 k) := by decide +kernel
abbrev cJ6_bitCount_0f7a4 : ByteArray := prog_14_method_49_code
def yJ6_bitCount_0f7a4 : MethodName := ⟨RJ6, "bitCount", "(I)I"⟩
def RJ13 : String := "java/lang/Long"
def TJ13 : u_T := fun k => match k with
  | _ => ("", "", "", false)
def tyJ13 : Nat → FieldType := fun k => match k with
  | _ => .int
abbrev wsJ130 : List Cond := u_ws RJ13 TJ13 0
theorem nmJ13 : ∀ a, a < 0 → ∀ b, b < 0 → a ≠ b → (TJ13 a).2.1 ≠ (TJ13 b).2.1 := by decide +kernel
theorem tyJ13_ok : ∀ k, k < 0 → parseFieldDescriptor (TJ13 k).2.2.1 = some (tyJ13 k) := by decide +kernel
abbrev cJ13_bitCount_95d88 : ByteArray := prog_15_method_50_code
def yJ13_bitCount_95d88 : MethodName := ⟨RJ13, "bitCount", "(J)I"⟩
def RJ9 : String := "java/lang/Math"
def TJ9 : u_T := fun k => match k with
  | _ => ("", "", "", false)
def tyJ9 : Nat → FieldType := fun k => match k with
  | _ => .int
abbrev wsJ90 : List Cond := u_ws RJ9 TJ9 0
theorem nmJ9 : ∀ a, a < 0 → ∀ b, b < 0 → a ≠ b → (TJ9 a).2.1 ≠ (TJ9 b).2.1 := by decide +kernel
theorem tyJ9_ok : ∀ k, k < 0 → parseFieldDescriptor (TJ9 k).2.2.1 = some (tyJ9 k) := by decide +kernel
abbrev cJ9_max_7cf53 : ByteArray := prog_16_method_65_code
def yJ9_max_7cf53 : MethodName := ⟨RJ9, "max", "(II)I"⟩
abbrev cJ9_min_7cf53 : ByteArray := prog_16_method_69_code
def yJ9_min_7cf53 : MethodName := ⟨RJ9, "min", "(II)I"⟩
def RJ10 : String := "java/lang/System"
def TJ10 : u_T := fun k => match k with
  | _ => ("", "", "", false)
def tyJ10 : Nat → FieldType := fun k => match k with
  | _ => .int
abbrev wsJ100 : List Cond := u_ws RJ10 TJ10 0
theorem nmJ10 : ∀ a, a < 0 → ∀ b, b < 0 → a ≠ b → (TJ10 a).2.1 ≠ (TJ10 b).2.1 := by decide +kernel
theorem tyJ10_ok : ∀ k, k < 0 → parseFieldDescriptor (TJ10 k).2.2.1 = some (tyJ10 k) := by decide +kernel
def RL : String := "LongestMetLaw"
abbrev cL_law : ByteArray := code
def yL_law : MethodName := ⟨RL, "law", "([I)Z"⟩
abbrev vwCl : List vw_C := [(RX0, TX0, 1), (RX1, TX1, 1), (RX3, TX3, 5), (RX4, TX4, 2), (RX5, TX5, 4), (RX6, TX6, 1), (RX7, TX7, 6), (RX8, TX8, 4), (RX9, TX9, 3), (RX10, TX10, 9), (RX11, TX11, 27)]
end
section
def wsX0_init : List Cond := .code yX0_init cX0_init 1 none :: ([.methodLink RX0 5 objectInit, .instanceMethod objectInit, .code objectInit ⟨#[0xb1]⟩ 1 none, .arrayClass .int, .fieldLink RX0 11 "LongestMet$Circle" "hers" "[I"] ++ wsX00)
def wsX0_setFriends : List Cond := .code yX0_setFriends cX0_setFriends 5 (some .int) :: ([.fieldLink RX0 11 "LongestMet$Circle" "hers" "[I"] ++ wsX00)
def wsJ6_bitCount_0f7a4 : List Cond := .code yJ6_bitCount_0f7a4 cJ6_bitCount_0f7a4 1 (some .int) :: ([.constant RJ6 265 (1431655765), .constant RJ6 266 (858993459), .constant RJ6 267 (252645135)])
def wsX0_friendsOf : List Cond := .code yX0_friendsOf cX0_friendsOf 2 (some .int) :: ([.fieldLink RX0 11 "LongestMet$Circle" "hers" "[I", .methodLink RX0 29 yJ6_bitCount_0f7a4, .static yJ6_bitCount_0f7a4, .initialized RJ6, .code yJ6_bitCount_0f7a4 cJ6_bitCount_0f7a4 1 (some .int), .constant RJ6 265 (1431655765), .constant RJ6 266 (858993459), .constant RJ6 267 (252645135)] ++ wsX00)
def wsX0_tellings : List Cond := .code yX0_tellings cX0_tellings 3 (some .int) :: ([.methodLink RX0 15 yX0_friendsOf, .instanceMethod yX0_friendsOf, .selects RX0 yX0_friendsOf yX0_friendsOf, .initialized RX0, .code yX0_friendsOf cX0_friendsOf 2 (some .int), .fieldLink RX0 11 "LongestMet$Circle" "hers" "[I", .methodLink RX0 29 yJ6_bitCount_0f7a4, .static yJ6_bitCount_0f7a4, .initialized RJ6, .code yJ6_bitCount_0f7a4 cJ6_bitCount_0f7a4 1 (some .int), .constant RJ6 265 (1431655765), .constant RJ6 266 (858993459), .constant RJ6 267 (252645135)] ++ wsX00)
def wsX0_isFriend : List Cond := .code yX0_isFriend cX0_isFriend 3 (some .boolean) :: ([.fieldLink RX0 11 "LongestMet$Circle" "hers" "[I"] ++ wsX00)
def wsX0_friendsOfHers : List Cond := .code yX0_friendsOfHers cX0_friendsOfHers 4 (some .int) :: ([.methodLink RX0 25 yX0_isFriend, .instanceMethod yX0_isFriend, .selects RX0 yX0_isFriend yX0_isFriend, .initialized RX0, .code yX0_isFriend cX0_isFriend 3 (some .boolean), .fieldLink RX0 11 "LongestMet$Circle" "hers" "[I", .methodLink RX0 15 yX0_friendsOf, .instanceMethod yX0_friendsOf, .selects RX0 yX0_friendsOf yX0_friendsOf, .code yX0_friendsOf cX0_friendsOf 2 (some .int), .methodLink RX0 29 yJ6_bitCount_0f7a4, .static yJ6_bitCount_0f7a4, .initialized RJ6, .code yJ6_bitCount_0f7a4 cJ6_bitCount_0f7a4 1 (some .int), .constant RJ6 265 (1431655765), .constant RJ6 266 (858993459), .constant RJ6 267 (252645135)] ++ wsX00)
def wsX0_friendsOfFriends : List Cond := .code yX0_friendsOfFriends cX0_friendsOfFriends 3 (some .int) :: ([.methodLink RX0 19 yX0_friendsOfHers, .instanceMethod yX0_friendsOfHers, .selects RX0 yX0_friendsOfHers yX0_friendsOfHers, .initialized RX0, .code yX0_friendsOfHers cX0_friendsOfHers 4 (some .int), .methodLink RX0 25 yX0_isFriend, .instanceMethod yX0_isFriend, .selects RX0 yX0_isFriend yX0_isFriend, .code yX0_isFriend cX0_isFriend 3 (some .boolean), .fieldLink RX0 11 "LongestMet$Circle" "hers" "[I", .methodLink RX0 15 yX0_friendsOf, .instanceMethod yX0_friendsOf, .selects RX0 yX0_friendsOf yX0_friendsOf, .code yX0_friendsOf cX0_friendsOf 2 (some .int), .methodLink RX0 29 yJ6_bitCount_0f7a4, .static yJ6_bitCount_0f7a4, .initialized RJ6, .code yJ6_bitCount_0f7a4 cJ6_bitCount_0f7a4 1 (some .int), .constant RJ6 265 (1431655765), .constant RJ6 266 (858993459), .constant RJ6 267 (252645135)] ++ wsX00)
def wsX0_pickedParts : List Cond := .code yX0_pickedParts cX0_pickedParts 4 (some .int) :: ([.methodLink RX0 15 yX0_friendsOf, .instanceMethod yX0_friendsOf, .selects RX0 yX0_friendsOf yX0_friendsOf, .initialized RX0, .code yX0_friendsOf cX0_friendsOf 2 (some .int), .fieldLink RX0 11 "LongestMet$Circle" "hers" "[I", .methodLink RX0 29 yJ6_bitCount_0f7a4, .static yJ6_bitCount_0f7a4, .initialized RJ6, .code yJ6_bitCount_0f7a4 cJ6_bitCount_0f7a4 1 (some .int), .constant RJ6 265 (1431655765), .constant RJ6 266 (858993459), .constant RJ6 267 (252645135), .methodLink RX0 25 yX0_isFriend, .instanceMethod yX0_isFriend, .selects RX0 yX0_isFriend yX0_isFriend, .code yX0_isFriend cX0_isFriend 3 (some .boolean)] ++ wsX00)
def wsX0_friendsOfPicked : List Cond := .code yX0_friendsOfPicked cX0_friendsOfPicked 3 (some .int) :: ([.methodLink RX0 22 yX0_pickedParts, .instanceMethod yX0_pickedParts, .selects RX0 yX0_pickedParts yX0_pickedParts, .initialized RX0, .code yX0_pickedParts cX0_pickedParts 4 (some .int), .methodLink RX0 15 yX0_friendsOf, .instanceMethod yX0_friendsOf, .selects RX0 yX0_friendsOf yX0_friendsOf, .code yX0_friendsOf cX0_friendsOf 2 (some .int), .fieldLink RX0 11 "LongestMet$Circle" "hers" "[I", .methodLink RX0 29 yJ6_bitCount_0f7a4, .static yJ6_bitCount_0f7a4, .initialized RJ6, .code yJ6_bitCount_0f7a4 cJ6_bitCount_0f7a4 1 (some .int), .constant RJ6 265 (1431655765), .constant RJ6 266 (858993459), .constant RJ6 267 (252645135), .methodLink RX0 25 yX0_isFriend, .instanceMethod yX0_isFriend, .selects RX0 yX0_isFriend yX0_isFriend, .code yX0_isFriend cX0_isFriend 3 (some .boolean)] ++ wsX00)
def wsX0_withFewer : List Cond := .code yX0_withFewer cX0_withFewer 3 (some .int) :: ([.methodLink RX0 15 yX0_friendsOf, .instanceMethod yX0_friendsOf, .selects RX0 yX0_friendsOf yX0_friendsOf, .initialized RX0, .code yX0_friendsOf cX0_friendsOf 2 (some .int), .fieldLink RX0 11 "LongestMet$Circle" "hers" "[I", .methodLink RX0 29 yJ6_bitCount_0f7a4, .static yJ6_bitCount_0f7a4, .initialized RJ6, .code yJ6_bitCount_0f7a4 cJ6_bitCount_0f7a4 1 (some .int), .constant RJ6 265 (1431655765), .constant RJ6 266 (858993459), .constant RJ6 267 (252645135), .methodLink RX0 19 yX0_friendsOfHers, .instanceMethod yX0_friendsOfHers, .selects RX0 yX0_friendsOfHers yX0_friendsOfHers, .code yX0_friendsOfHers cX0_friendsOfHers 4 (some .int), .methodLink RX0 25 yX0_isFriend, .instanceMethod yX0_isFriend, .selects RX0 yX0_isFriend yX0_isFriend, .code yX0_isFriend cX0_isFriend 3 (some .boolean)] ++ wsX00)
def wsX0_friendshipsOf : List Cond := .code yX0_friendshipsOf cX0_friendshipsOf 4 (some .int) :: ([.fieldLink RX0 11 "LongestMet$Circle" "hers" "[I", .methodLink RX0 15 yX0_friendsOf, .instanceMethod yX0_friendsOf, .selects RX0 yX0_friendsOf yX0_friendsOf, .initialized RX0, .code yX0_friendsOf cX0_friendsOf 2 (some .int), .methodLink RX0 29 yJ6_bitCount_0f7a4, .static yJ6_bitCount_0f7a4, .initialized RJ6, .code yJ6_bitCount_0f7a4 cJ6_bitCount_0f7a4 1 (some .int), .constant RJ6 265 (1431655765), .constant RJ6 266 (858993459), .constant RJ6 267 (252645135)] ++ wsX00)
def wsX0_bestGroup : List Cond := .code yX0_bestGroup cX0_bestGroup 5 (some .int) :: ([.methodLink RX0 29 yJ6_bitCount_0f7a4, .static yJ6_bitCount_0f7a4, .initialized RJ6, .code yJ6_bitCount_0f7a4 cJ6_bitCount_0f7a4 1 (some .int), .constant RJ6 265 (1431655765), .constant RJ6 266 (858993459), .constant RJ6 267 (252645135), .methodLink RX0 34 yX0_friendshipsOf, .instanceMethod yX0_friendshipsOf, .selects RX0 yX0_friendshipsOf yX0_friendshipsOf, .initialized RX0, .code yX0_friendshipsOf cX0_friendshipsOf 4 (some .int), .fieldLink RX0 11 "LongestMet$Circle" "hers" "[I", .methodLink RX0 15 yX0_friendsOf, .instanceMethod yX0_friendsOf, .selects RX0 yX0_friendsOf yX0_friendsOf, .code yX0_friendsOf cX0_friendsOf 2 (some .int)] ++ wsX00)
def wsX1_init : List Cond := .code yX1_init cX1_init 1 none :: ([.methodLink RX1 3 objectInit, .instanceMethod objectInit, .code objectInit ⟨#[0xb1]⟩ 1 none, .classLink RX1 9 "[[I", .arrayClass .int, .fieldLink RX1 11 "LongestMet$Country" "alike" "[[I"] ++ wsX10)
def wsX1_setFamilies : List Cond := .code yX1_setFamilies cX1_setFamilies 5 (some .int) :: ([.fieldLink RX1 11 "LongestMet$Country" "alike" "[[I"] ++ wsX10)
def wsX1_childrenOf : List Cond := .code yX1_childrenOf cX1_childrenOf 4 (some .int) :: ([.fieldLink RX1 11 "LongestMet$Country" "alike" "[[I"] ++ wsX10)
def wsX7_counts : List Cond := .code yX7_counts cX7_counts 2 (some .boolean) :: ([.fieldLink RX7 15 "LongestMet$Survey" "toldAt" "[I", .fieldLink RX7 28 "LongestMet$Survey" "seenFrom" "I", .fieldLink RX7 18 "LongestMet$Survey" "backAt" "[I"] ++ wsX70)
def wsX7_counting : List Cond := .code yX7_counting cX7_counting 3 (some .int) :: ([.fieldLink RX7 21 "LongestMet$Survey" "told" "I", .methodLink RX7 35 yX7_counts, .instanceMethod yX7_counts, .selects RX7 yX7_counts yX7_counts, .initialized RX7, .code yX7_counts cX7_counts 2 (some .boolean), .fieldLink RX7 15 "LongestMet$Survey" "toldAt" "[I", .fieldLink RX7 28 "LongestMet$Survey" "seenFrom" "I", .fieldLink RX7 18 "LongestMet$Survey" "backAt" "[I"] ++ wsX70)
def wsX1_hasFewer : List Cond := .code yX1_hasFewer cX1_hasFewer 3 (some .boolean) :: ([.methodLink RX1 16 yX1_childrenOf, .instanceMethod yX1_childrenOf, .selects RX1 yX1_childrenOf yX1_childrenOf, .initialized RX1, .code yX1_childrenOf cX1_childrenOf 4 (some .int), .fieldLink RX1 11 "LongestMet$Country" "alike" "[[I", .methodLink RX1 20 yX7_counting, .instanceMethod yX7_counting, .selects RX7 yX7_counting yX7_counting, .initialized RX7, .code yX7_counting cX7_counting 3 (some .int), .fieldLink RX7 21 "LongestMet$Survey" "told" "I", .methodLink RX7 35 yX7_counts, .instanceMethod yX7_counts, .selects RX7 yX7_counts yX7_counts, .code yX7_counts cX7_counts 2 (some .boolean), .fieldLink RX7 15 "LongestMet$Survey" "toldAt" "[I", .fieldLink RX7 28 "LongestMet$Survey" "seenFrom" "I", .fieldLink RX7 18 "LongestMet$Survey" "backAt" "[I"] ++ wsX10 ++ wsX70)
def wsX1_choose : List Cond := .code yX1_choose cX1_choose 5 (some .long) :: ([])
def wsX1_choices : List Cond := .code yX1_choices cX1_choices 3 (some .long) :: ([.methodLink RX1 16 yX1_childrenOf, .instanceMethod yX1_childrenOf, .selects RX1 yX1_childrenOf yX1_childrenOf, .initialized RX1, .code yX1_childrenOf cX1_childrenOf 4 (some .int), .fieldLink RX1 11 "LongestMet$Country" "alike" "[[I", .methodLink RX1 20 yX7_counting, .instanceMethod yX7_counting, .selects RX7 yX7_counting yX7_counting, .initialized RX7, .code yX7_counting cX7_counting 3 (some .int), .fieldLink RX7 21 "LongestMet$Survey" "told" "I", .methodLink RX7 35 yX7_counts, .instanceMethod yX7_counts, .selects RX7 yX7_counts yX7_counts, .code yX7_counts cX7_counts 2 (some .boolean), .fieldLink RX7 15 "LongestMet$Survey" "toldAt" "[I", .fieldLink RX7 28 "LongestMet$Survey" "seenFrom" "I", .fieldLink RX7 18 "LongestMet$Survey" "backAt" "[I", .methodLink RX1 26 yX1_choose, .static yX1_choose, .code yX1_choose cX1_choose 5 (some .long)] ++ wsX10 ++ wsX70)
def wsX7_saying : List Cond := .code yX7_saying cX7_saying 4 (some .int) :: ([.fieldLink RX7 21 "LongestMet$Survey" "told" "I", .fieldLink RX7 11 "LongestMet$Survey" "answers" "[I", .methodLink RX7 35 yX7_counts, .instanceMethod yX7_counts, .selects RX7 yX7_counts yX7_counts, .initialized RX7, .code yX7_counts cX7_counts 2 (some .boolean), .fieldLink RX7 15 "LongestMet$Survey" "toldAt" "[I", .fieldLink RX7 28 "LongestMet$Survey" "seenFrom" "I", .fieldLink RX7 18 "LongestMet$Survey" "backAt" "[I"] ++ wsX70)
def wsX1_choicesThatFit : List Cond := .code yX1_choicesThatFit cX1_choicesThatFit 6 (some .long) :: ([.fieldLink RX1 11 "LongestMet$Country" "alike" "[[I", .methodLink RX1 30 yX7_saying, .instanceMethod yX7_saying, .selects RX7 yX7_saying yX7_saying, .initialized RX7, .code yX7_saying cX7_saying 4 (some .int), .fieldLink RX7 21 "LongestMet$Survey" "told" "I", .fieldLink RX7 11 "LongestMet$Survey" "answers" "[I", .methodLink RX7 35 yX7_counts, .instanceMethod yX7_counts, .selects RX7 yX7_counts yX7_counts, .code yX7_counts cX7_counts 2 (some .boolean), .fieldLink RX7 15 "LongestMet$Survey" "toldAt" "[I", .fieldLink RX7 28 "LongestMet$Survey" "seenFrom" "I", .fieldLink RX7 18 "LongestMet$Survey" "backAt" "[I", .methodLink RX1 26 yX1_choose, .static yX1_choose, .initialized RX1, .code yX1_choose cX1_choose 5 (some .long)] ++ wsX10 ++ wsX70)
def wsX2_isMore : List Cond := .code yX2_isMore cX2_isMore 26 (some .boolean) :: ([])
def wsX1_likeliestTown_r1 : List Cond := [Cond.methodLink RX1 33 yX1_hasFewer, Cond.instanceMethod yX1_hasFewer, Cond.selects RX1 yX1_hasFewer yX1_hasFewer, Cond.initialized RX1, Cond.code yX1_hasFewer cX1_hasFewer 3 (some .boolean), Cond.methodLink RX1 16 yX1_childrenOf, Cond.instanceMethod yX1_childrenOf, Cond.selects RX1 yX1_childrenOf yX1_childrenOf, Cond.code yX1_childrenOf cX1_childrenOf 4 (some .int), Cond.fieldLink RX1 11 "LongestMet$Country" "alike" "[[I", Cond.methodLink RX1 20 yX7_counting, Cond.instanceMethod yX7_counting, Cond.selects RX7 yX7_counting yX7_counting, Cond.initialized RX7, Cond.code yX7_counting cX7_counting 3 (some .int), Cond.fieldLink RX7 21 "LongestMet$Survey" "told" "I", Cond.methodLink RX7 35 yX7_counts, Cond.instanceMethod yX7_counts, Cond.selects RX7 yX7_counts yX7_counts, Cond.code yX7_counts cX7_counts 2 (some .boolean), Cond.fieldLink RX7 15 "LongestMet$Survey" "toldAt" "[I", Cond.fieldLink RX7 28 "LongestMet$Survey" "seenFrom" "I", Cond.fieldLink RX7 18 "LongestMet$Survey" "backAt" "[I", Cond.methodLink RX1 37 yX1_choicesThatFit]
def wsX1_likeliestTown_r2 : List Cond := [Cond.instanceMethod yX1_choicesThatFit, Cond.selects RX1 yX1_choicesThatFit yX1_choicesThatFit, Cond.code yX1_choicesThatFit cX1_choicesThatFit 6 (some .long), Cond.methodLink RX1 30 yX7_saying, Cond.instanceMethod yX7_saying, Cond.selects RX7 yX7_saying yX7_saying, Cond.code yX7_saying cX7_saying 4 (some .int), Cond.fieldLink RX7 11 "LongestMet$Survey" "answers" "[I", Cond.methodLink RX1 26 yX1_choose, Cond.static yX1_choose, Cond.code yX1_choose cX1_choose 5 (some .long), Cond.methodLink RX1 41 yX1_choices, Cond.instanceMethod yX1_choices, Cond.selects RX1 yX1_choices yX1_choices, Cond.code yX1_choices cX1_choices 3 (some .long), Cond.methodLink RX1 44 yX2_isMore, Cond.static yX2_isMore, Cond.initialized RX2, Cond.code yX2_isMore cX2_isMore 26 (some .boolean)]
def wsX1_likeliestTown : List Cond := .code yX1_likeliestTown cX1_likeliestTown 12 (some .int) :: ((wsX1_likeliestTown_r1 ++ wsX1_likeliestTown_r2) ++ wsX10 ++ wsX70)
def wsX2_refused : List Cond := .code yX2_refused cX2_refused 1 (some .long) :: ([.constantLong RX2 11 (-9223372036854775808)])
def wsX2_commonOf : List Cond := .code yX2_commonOf cX2_commonOf 11 (some .long) :: ([])
def wsX2_told : List Cond := .code yX2_told cX2_told 7 (some .long) :: ([.methodLink RX2 13 yX2_commonOf, .static yX2_commonOf, .initialized RX2, .code yX2_commonOf cX2_commonOf 11 (some .long), .methodLink RX2 19 yX2_refused, .static yX2_refused, .code yX2_refused cX2_refused 1 (some .long), .constantLong RX2 11 (-9223372036854775808)])
def wsX3_init : List Cond := .code yX3_init cX3_init 1 none :: ([.methodLink RX3 3 objectInit, .instanceMethod objectInit, .code objectInit ⟨#[0xb1]⟩ 1 none, .arrayClass .int, .fieldLink RX3 11 "LongestMet$Holding" "goes" "[I", .fieldLink RX3 15 "LongestMet$Holding" "later" "[I", .classLink RX3 18 "[[I", .fieldLink RX3 20 "LongestMet$Holding" "onward" "[[I", .fieldLink RX3 23 "LongestMet$Holding" "buses" "I", .fieldLink RX3 27 "LongestMet$Holding" "latest" "I"] ++ wsX30)
def wsX6_isIn : List Cond := .code yX6_isIn cX6_isIn 3 (some .boolean) :: ([])
def wsX3_takeBuses : List Cond := .code yX3_takeBuses cX3_takeBuses 4 none :: ([.fieldLink RX3 23 "LongestMet$Holding" "buses" "I", .fieldLink RX3 11 "LongestMet$Holding" "goes" "[I", .methodLink RX3 43 yX6_isIn, .static yX6_isIn, .initialized RX6, .code yX6_isIn cX6_isIn 3 (some .boolean)] ++ wsX30)
def wsX6_waitsIn : List Cond := .code yX6_waitsIn cX6_waitsIn 1 (some .int) :: ([])
def wsX3_through : List Cond := .code yX3_through cX3_through 5 (some .int) :: ([.fieldLink RX3 11 "LongestMet$Holding" "goes" "[I", .fieldLink RX3 20 "LongestMet$Holding" "onward" "[[I", .constant RX3 34 (1000000), .methodLink RX3 53 yX6_waitsIn, .static yX6_waitsIn, .initialized RX6, .code yX6_waitsIn cX6_waitsIn 1 (some .int)] ++ wsX30)
def wsX3_leastOnward : List Cond := .code yX3_leastOnward cX3_leastOnward 7 (some .int) :: ([.fieldLink RX3 11 "LongestMet$Holding" "goes" "[I", .constant RX3 34 (1000000), .fieldLink RX3 23 "LongestMet$Holding" "buses" "I", .fieldLink RX3 27 "LongestMet$Holding" "latest" "I", .methodLink RX3 59 Lib.Math.min.name, .static Lib.Math.min.name, .initialized "java/lang/Math", .code Lib.Math.min.name Lib.Math.min.code 2 (some .int), .methodLink RX3 53 yX6_waitsIn, .static yX6_waitsIn, .initialized RX6, .code yX6_waitsIn cX6_waitsIn 1 (some .int), .methodLink RX3 56 yX3_through, .instanceMethod yX3_through, .selects RX3 yX3_through yX3_through, .initialized RX3, .code yX3_through cX3_through 5 (some .int), .fieldLink RX3 20 "LongestMet$Holding" "onward" "[[I"] ++ wsX30)
def wsX3_leastWithFirst : List Cond := .code yX3_leastWithFirst cX3_leastWithFirst 5 (some .int) :: ([.fieldLink RX3 11 "LongestMet$Holding" "goes" "[I", .fieldLink RX3 23 "LongestMet$Holding" "buses" "I", .fieldLink RX3 27 "LongestMet$Holding" "latest" "I", .fieldLink RX3 20 "LongestMet$Holding" "onward" "[[I", .methodLink RX3 49 yX3_leastOnward, .instanceMethod yX3_leastOnward, .selects RX3 yX3_leastOnward yX3_leastOnward, .initialized RX3, .code yX3_leastOnward cX3_leastOnward 7 (some .int), .constant RX3 34 (1000000), .methodLink RX3 59 Lib.Math.min.name, .static Lib.Math.min.name, .initialized "java/lang/Math", .code Lib.Math.min.name Lib.Math.min.code 2 (some .int), .methodLink RX3 53 yX6_waitsIn, .static yX6_waitsIn, .initialized RX6, .code yX6_waitsIn cX6_waitsIn 1 (some .int), .methodLink RX3 56 yX3_through, .instanceMethod yX3_through, .selects RX3 yX3_through yX3_through, .code yX3_through cX3_through 5 (some .int)] ++ wsX30)
def wsX3_leastLater : List Cond := .code yX3_leastLater cX3_leastLater 5 (some .int) :: ([.fieldLink RX3 27 "LongestMet$Holding" "latest" "I", .methodLink RX3 56 yX3_through, .instanceMethod yX3_through, .selects RX3 yX3_through yX3_through, .initialized RX3, .code yX3_through cX3_through 5 (some .int), .fieldLink RX3 11 "LongestMet$Holding" "goes" "[I", .fieldLink RX3 20 "LongestMet$Holding" "onward" "[[I", .constant RX3 34 (1000000), .methodLink RX3 53 yX6_waitsIn, .static yX6_waitsIn, .initialized RX6, .code yX6_waitsIn cX6_waitsIn 1 (some .int)] ++ wsX30)
def wsX3_chooseLater : List Cond := .code yX3_chooseLater cX3_chooseLater 4 none :: ([.fieldLink RX3 15 "LongestMet$Holding" "later" "[I", .fieldLink RX3 23 "LongestMet$Holding" "buses" "I", .fieldLink RX3 11 "LongestMet$Holding" "goes" "[I", .fieldLink RX3 20 "LongestMet$Holding" "onward" "[[I", .methodLink RX3 65 yX3_leastLater, .instanceMethod yX3_leastLater, .selects RX3 yX3_leastLater yX3_leastLater, .initialized RX3, .code yX3_leastLater cX3_leastLater 5 (some .int), .fieldLink RX3 27 "LongestMet$Holding" "latest" "I", .methodLink RX3 56 yX3_through, .instanceMethod yX3_through, .selects RX3 yX3_through yX3_through, .code yX3_through cX3_through 5 (some .int), .constant RX3 34 (1000000), .methodLink RX3 53 yX6_waitsIn, .static yX6_waitsIn, .initialized RX6, .code yX6_waitsIn cX6_waitsIn 1 (some .int)] ++ wsX30)
def wsX3_settle_r1 : List Cond := [Cond.fieldLink RX3 27 "LongestMet$Holding" "latest" "I", Cond.constant RX3 34 (1000000), Cond.methodLink RX3 30 yX3_takeBuses, Cond.instanceMethod yX3_takeBuses, Cond.selects RX3 yX3_takeBuses yX3_takeBuses, Cond.initialized RX3, Cond.code yX3_takeBuses cX3_takeBuses 4 none, Cond.fieldLink RX3 23 "LongestMet$Holding" "buses" "I", Cond.fieldLink RX3 11 "LongestMet$Holding" "goes" "[I", Cond.methodLink RX3 43 yX6_isIn, Cond.static yX6_isIn, Cond.initialized RX6, Cond.code yX6_isIn cX6_isIn 3 (some .boolean), Cond.methodLink RX3 35 yX3_leastWithFirst, Cond.instanceMethod yX3_leastWithFirst, Cond.selects RX3 yX3_leastWithFirst yX3_leastWithFirst, Cond.code yX3_leastWithFirst cX3_leastWithFirst 5 (some .int), Cond.fieldLink RX3 20 "LongestMet$Holding" "onward" "[[I", Cond.methodLink RX3 49 yX3_leastOnward, Cond.instanceMethod yX3_leastOnward, Cond.selects RX3 yX3_leastOnward yX3_leastOnward, Cond.code yX3_leastOnward cX3_leastOnward 7 (some .int), Cond.methodLink RX3 59 Lib.Math.min.name, Cond.static Lib.Math.min.name]
def wsX3_settle_r2 : List Cond := [Cond.initialized "java/lang/Math", Cond.code Lib.Math.min.name Lib.Math.min.code 2 (some .int), Cond.methodLink RX3 53 yX6_waitsIn, Cond.static yX6_waitsIn, Cond.code yX6_waitsIn cX6_waitsIn 1 (some .int), Cond.methodLink RX3 56 yX3_through, Cond.instanceMethod yX3_through, Cond.selects RX3 yX3_through yX3_through, Cond.code yX3_through cX3_through 5 (some .int), Cond.methodLink RX3 39 yX3_chooseLater, Cond.instanceMethod yX3_chooseLater, Cond.selects RX3 yX3_chooseLater yX3_chooseLater, Cond.code yX3_chooseLater cX3_chooseLater 4 none, Cond.fieldLink RX3 15 "LongestMet$Holding" "later" "[I", Cond.methodLink RX3 65 yX3_leastLater, Cond.instanceMethod yX3_leastLater, Cond.selects RX3 yX3_leastLater yX3_leastLater, Cond.code yX3_leastLater cX3_leastLater 5 (some .int)]
def wsX3_settle : List Cond := .code yX3_settle cX3_settle 8 (some .int) :: ((wsX3_settle_r1 ++ wsX3_settle_r2) ++ wsX30)
def wsX3_laterOf : List Cond := .code yX3_laterOf cX3_laterOf 2 (some .int) :: ([.fieldLink RX3 15 "LongestMet$Holding" "later" "[I"] ++ wsX30)
def wsX4_init : List Cond := .code yX4_init cX4_init 1 none :: ([.methodLink RX4 3 objectInit, .instanceMethod objectInit, .code objectInit ⟨#[0xb1]⟩ 1 none, .arrayClass .int, .fieldLink RX4 11 "LongestMet$Rod" "lengths" "[I", .fieldLink RX4 15 "LongestMet$Rod" "pieces" "I"] ++ wsX40)
def wsX4_lengthen : List Cond := .code yX4_lengthen cX4_lengthen 2 (some .int) :: ([.fieldLink RX4 15 "LongestMet$Rod" "pieces" "I", .fieldLink RX4 11 "LongestMet$Rod" "lengths" "[I"] ++ wsX40)
def wsX4_clear : List Cond := .code yX4_clear cX4_clear 2 (some .int) :: ([.fieldLink RX4 15 "LongestMet$Rod" "pieces" "I"] ++ wsX40)
def wsX4_piecesTold : List Cond := .code yX4_piecesTold cX4_piecesTold 1 (some .int) :: ([.fieldLink RX4 15 "LongestMet$Rod" "pieces" "I"] ++ wsX40)
def wsX4_lengthInAll : List Cond := .code yX4_lengthInAll cX4_lengthInAll 3 (some .int) :: ([.fieldLink RX4 15 "LongestMet$Rod" "pieces" "I", .fieldLink RX4 11 "LongestMet$Rod" "lengths" "[I"] ++ wsX40)
def wsX4_squares : List Cond := .code yX4_squares cX4_squares 3 (some .int) :: ([.fieldLink RX4 15 "LongestMet$Rod" "pieces" "I", .fieldLink RX4 11 "LongestMet$Rod" "lengths" "[I"] ++ wsX40)
def wsX4_power : List Cond := .code yX4_power cX4_power 6 (some .long) :: ([])
def wsX4_ways : List Cond := .code yX4_ways cX4_ways 2 (some .long) :: ([.methodLink RX4 19 yX4_lengthInAll, .instanceMethod yX4_lengthInAll, .selects RX4 yX4_lengthInAll yX4_lengthInAll, .initialized RX4, .code yX4_lengthInAll cX4_lengthInAll 3 (some .int), .fieldLink RX4 15 "LongestMet$Rod" "pieces" "I", .fieldLink RX4 11 "LongestMet$Rod" "lengths" "[I", .methodLink RX4 23 yX4_power, .static yX4_power, .code yX4_power cX4_power 6 (some .long)] ++ wsX40)
def wsX4_waysToHit : List Cond := .code yX4_waysToHit cX4_waysToHit 3 (some .long) :: ([.fieldLink RX4 11 "LongestMet$Rod" "lengths" "[I", .methodLink RX4 27 yX4_ways, .instanceMethod yX4_ways, .selects RX4 yX4_ways yX4_ways, .initialized RX4, .code yX4_ways cX4_ways 2 (some .long), .methodLink RX4 19 yX4_lengthInAll, .instanceMethod yX4_lengthInAll, .selects RX4 yX4_lengthInAll yX4_lengthInAll, .code yX4_lengthInAll cX4_lengthInAll 3 (some .int), .fieldLink RX4 15 "LongestMet$Rod" "pieces" "I", .methodLink RX4 23 yX4_power, .static yX4_power, .code yX4_power cX4_power 6 (some .long)] ++ wsX40)
def wsX4_allWaysToHit : List Cond := .code yX4_allWaysToHit cX4_allWaysToHit 5 (some .long) :: ([.fieldLink RX4 15 "LongestMet$Rod" "pieces" "I", .methodLink RX4 31 yX4_waysToHit, .instanceMethod yX4_waysToHit, .selects RX4 yX4_waysToHit yX4_waysToHit, .initialized RX4, .code yX4_waysToHit cX4_waysToHit 3 (some .long), .fieldLink RX4 11 "LongestMet$Rod" "lengths" "[I", .methodLink RX4 27 yX4_ways, .instanceMethod yX4_ways, .selects RX4 yX4_ways yX4_ways, .code yX4_ways cX4_ways 2 (some .long), .methodLink RX4 19 yX4_lengthInAll, .instanceMethod yX4_lengthInAll, .selects RX4 yX4_lengthInAll yX4_lengthInAll, .code yX4_lengthInAll cX4_lengthInAll 3 (some .int), .methodLink RX4 23 yX4_power, .static yX4_power, .code yX4_power cX4_power 6 (some .long)] ++ wsX40)
def wsX4_lengthWithout : List Cond := .code yX4_lengthWithout cX4_lengthWithout 4 (some .int) :: ([.fieldLink RX4 15 "LongestMet$Rod" "pieces" "I", .fieldLink RX4 11 "LongestMet$Rod" "lengths" "[I"] ++ wsX40)
def wsX4_waysToHitAll : List Cond := .code yX4_waysToHitAll cX4_waysToHitAll 7 (some .long) :: ([.fieldLink RX4 15 "LongestMet$Rod" "pieces" "I", .methodLink RX4 35 yX4_lengthWithout, .instanceMethod yX4_lengthWithout, .selects RX4 yX4_lengthWithout yX4_lengthWithout, .initialized RX4, .code yX4_lengthWithout cX4_lengthWithout 4 (some .int), .fieldLink RX4 11 "LongestMet$Rod" "lengths" "[I", .methodLink RX4 23 yX4_power, .static yX4_power, .code yX4_power cX4_power 6 (some .long), .methodLink RX4 39 yJ6_bitCount_0f7a4, .static yJ6_bitCount_0f7a4, .initialized RJ6, .code yJ6_bitCount_0f7a4 cJ6_bitCount_0f7a4 1 (some .int), .constant RJ6 265 (1431655765), .constant RJ6 266 (858993459), .constant RJ6 267 (252645135)] ++ wsX40)
def wsX5_init : List Cond := .code yX5_init cX5_init 2 none :: ([.methodLink RX5 3 objectInit, .instanceMethod objectInit, .code objectInit ⟨#[0xb1]⟩ 1 none, .classLink RX5 9 "[[I", .arrayClass .int, .fieldLink RX5 11 "LongestMet$Sheets" "rows" "[[I", .fieldLink RX5 16 "LongestMet$Sheets" "forms" "[I", .fieldLink RX5 20 "LongestMet$Sheets" "sizes" "[I", .fieldLink RX5 23 "LongestMet$Sheets" "latest" "I"] ++ wsX50)
def wsX5_finding : List Cond := .code yX5_finding cX5_finding 2 (some .int) :: ([.fieldLink RX5 23 "LongestMet$Sheets" "latest" "I"] ++ wsX50)
def wsX5_latestFinding : List Cond := .code yX5_latestFinding cX5_latestFinding 1 (some .int) :: ([.fieldLink RX5 23 "LongestMet$Sheets" "latest" "I"] ++ wsX50)
def wsX5_isLost : List Cond := .code yX5_isLost cX5_isLost 2 (some .boolean) :: ([.fieldLink RX5 20 "LongestMet$Sheets" "sizes" "[I"] ++ wsX50)
def wsX5_itemsOf : List Cond := .code yX5_itemsOf cX5_itemsOf 2 (some .int) :: ([.fieldLink RX5 20 "LongestMet$Sheets" "sizes" "[I"] ++ wsX50)
def wsX5_renew : List Cond := .code yX5_renew cX5_renew 5 none :: ([.fieldLink RX5 16 "LongestMet$Sheets" "forms" "[I", .fieldLink RX5 20 "LongestMet$Sheets" "sizes" "[I", .fieldLink RX5 11 "LongestMet$Sheets" "rows" "[[I"] ++ wsX50)
def wsX5_drop : List Cond := .code yX5_drop cX5_drop 3 (some .int) :: ([.fieldLink RX5 20 "LongestMet$Sheets" "sizes" "[I"] ++ wsX50)
def wsX10_outside : List Cond := .code yX10_outside cX10_outside 3 (some .boolean) :: ([])
def wsX5_faultOf : List Cond := .code yX5_faultOf cX5_faultOf 4 (some .int) :: ([.fieldLink RX5 16 "LongestMet$Sheets" "forms" "[I", .fieldLink RX5 20 "LongestMet$Sheets" "sizes" "[I", .methodLink RX5 27 yX5_isLost, .instanceMethod yX5_isLost, .selects RX5 yX5_isLost yX5_isLost, .initialized RX5, .code yX5_isLost cX5_isLost 2 (some .boolean), .static yX10_outside, .initialized RX10, .code yX10_outside cX10_outside 3 (some .boolean)] ++ wsX50)
def wsX5_itemAt : List Cond := .code yX5_itemAt cX5_itemAt 3 (some .int) :: ([.fieldLink RX5 11 "LongestMet$Sheets" "rows" "[[I"] ++ wsX50)
def wsX5_setItem : List Cond := .code yX5_setItem cX5_setItem 4 none :: ([.fieldLink RX5 11 "LongestMet$Sheets" "rows" "[[I", .fieldLink RX5 16 "LongestMet$Sheets" "forms" "[I"] ++ wsX50)
def wsX5_areUnlike : List Cond := .code yX5_areUnlike cX5_areUnlike 3 (some .boolean) :: ([.fieldLink RX5 16 "LongestMet$Sheets" "forms" "[I"] ++ wsX50)
def wsX5_hasNotSoMany : List Cond := .code yX5_hasNotSoMany cX5_hasNotSoMany 4 (some .boolean) :: ([.fieldLink RX5 20 "LongestMet$Sheets" "sizes" "[I", .static yX10_outside, .initialized RX10, .code yX10_outside cX10_outside 3 (some .boolean)] ++ wsX50)
def wsX5_move : List Cond := .code yX5_move cX5_move 6 none :: ([.fieldLink RX5 11 "LongestMet$Sheets" "rows" "[[I", .methodLink RX5 35 arraycopyName, .native arraycopyName, .static arraycopyName, .initialized "java/lang/System"] ++ wsX50)
def wsX6_init : List Cond := .code yX6_init cX6_init 1 none :: ([.methodLink RX6 3 objectInit, .instanceMethod objectInit, .code objectInit ⟨#[0xb1]⟩ 1 none, .arrayClass .long, .fieldLink RX6 9 "LongestMet$Stop" "lines" "[J"] ++ wsX60)
def wsX6_setLine : List Cond := .code yX6_setLine cX6_setLine 4 none :: ([.fieldLink RX6 9 "LongestMet$Stop" "lines" "[J"] ++ wsX60)
def wsX6_minutesOf : List Cond := .code yX6_minutesOf cX6_minutesOf 2 (some .long) :: ([.fieldLink RX6 9 "LongestMet$Stop" "lines" "[J"] ++ wsX60)
def wsJ13_bitCount_95d88 : List Cond := .code yJ13_bitCount_95d88 cJ13_bitCount_95d88 2 (some .int) :: ([.constantLong RJ13 314 (6148914691236517205), .constantLong RJ13 316 (3689348814741910323), .constantLong RJ13 318 (1085102592571150095)])
def wsX6_busesOf : List Cond := .code yX6_busesOf cX6_busesOf 2 (some .int) :: ([.methodLink RX6 15 yX6_minutesOf, .instanceMethod yX6_minutesOf, .selects RX6 yX6_minutesOf yX6_minutesOf, .initialized RX6, .code yX6_minutesOf cX6_minutesOf 2 (some .long), .fieldLink RX6 9 "LongestMet$Stop" "lines" "[J", .methodLink RX6 19 yJ13_bitCount_95d88, .static yJ13_bitCount_95d88, .initialized RJ13, .code yJ13_bitCount_95d88 cJ13_bitCount_95d88 2 (some .int), .constantLong RJ13 314 (6148914691236517205), .constantLong RJ13 316 (3689348814741910323), .constantLong RJ13 318 (1085102592571150095)] ++ wsX60)
def wsX6_waitAt : List Cond := .code yX6_waitAt cX6_waitAt 6 (some .int) :: ([.methodLink RX6 15 yX6_minutesOf, .instanceMethod yX6_minutesOf, .selects RX6 yX6_minutesOf yX6_minutesOf, .initialized RX6, .code yX6_minutesOf cX6_minutesOf 2 (some .long), .fieldLink RX6 9 "LongestMet$Stop" "lines" "[J", .methodLink RX6 25 yX6_isIn, .static yX6_isIn, .code yX6_isIn cX6_isIn 3 (some .boolean)] ++ wsX60)
def wsX6_gapBehind : List Cond := .code yX6_gapBehind cX6_gapBehind 3 (some .int) :: ([.methodLink RX6 40 yX6_waitAt, .instanceMethod yX6_waitAt, .selects RX6 yX6_waitAt yX6_waitAt, .initialized RX6, .code yX6_waitAt cX6_waitAt 6 (some .int), .methodLink RX6 15 yX6_minutesOf, .instanceMethod yX6_minutesOf, .selects RX6 yX6_minutesOf yX6_minutesOf, .code yX6_minutesOf cX6_minutesOf 2 (some .long), .fieldLink RX6 9 "LongestMet$Stop" "lines" "[J", .methodLink RX6 25 yX6_isIn, .static yX6_isIn, .code yX6_isIn cX6_isIn 3 (some .boolean)] ++ wsX60)
def wsX6_metBy : List Cond := .code yX6_metBy cX6_metBy 7 (some .int) :: ([.methodLink RX6 15 yX6_minutesOf, .instanceMethod yX6_minutesOf, .selects RX6 yX6_minutesOf yX6_minutesOf, .initialized RX6, .code yX6_minutesOf cX6_minutesOf 2 (some .long), .fieldLink RX6 9 "LongestMet$Stop" "lines" "[J", .methodLink RX6 25 yX6_isIn, .static yX6_isIn, .code yX6_isIn cX6_isIn 3 (some .boolean), .methodLink RX6 29 yX6_gapBehind, .instanceMethod yX6_gapBehind, .selects RX6 yX6_gapBehind yX6_gapBehind, .code yX6_gapBehind cX6_gapBehind 3 (some .int), .methodLink RX6 40 yX6_waitAt, .instanceMethod yX6_waitAt, .selects RX6 yX6_waitAt yX6_waitAt, .code yX6_waitAt cX6_waitAt 6 (some .int)] ++ wsX60)
def wsX6_weightOf : List Cond := .code yX6_weightOf cX6_weightOf 2 (some .int) :: ([.methodLink RX6 36 yX6_waitsIn, .static yX6_waitsIn, .initialized RX6, .code yX6_waitsIn cX6_waitsIn 1 (some .int)])
def wsX6_sumOfGaps : List Cond := .code yX6_sumOfGaps cX6_sumOfGaps 7 (some .int) :: ([.methodLink RX6 15 yX6_minutesOf, .instanceMethod yX6_minutesOf, .selects RX6 yX6_minutesOf yX6_minutesOf, .initialized RX6, .code yX6_minutesOf cX6_minutesOf 2 (some .long), .fieldLink RX6 9 "LongestMet$Stop" "lines" "[J", .methodLink RX6 25 yX6_isIn, .static yX6_isIn, .code yX6_isIn cX6_isIn 3 (some .boolean), .methodLink RX6 29 yX6_gapBehind, .instanceMethod yX6_gapBehind, .selects RX6 yX6_gapBehind yX6_gapBehind, .code yX6_gapBehind cX6_gapBehind 3 (some .int), .methodLink RX6 40 yX6_waitAt, .instanceMethod yX6_waitAt, .selects RX6 yX6_waitAt yX6_waitAt, .code yX6_waitAt cX6_waitAt 6 (some .int), .methodLink RX6 33 yX6_weightOf, .static yX6_weightOf, .code yX6_weightOf cX6_weightOf 2 (some .int), .methodLink RX6 36 yX6_waitsIn, .static yX6_waitsIn, .code yX6_waitsIn cX6_waitsIn 1 (some .int)] ++ wsX60)
def wsX7_init : List Cond := .code yX7_init cX7_init 1 none :: ([.methodLink RX7 3 objectInit, .instanceMethod objectInit, .code objectInit ⟨#[0xb1]⟩ 1 none, .arrayClass .int, .fieldLink RX7 11 "LongestMet$Survey" "answers" "[I", .fieldLink RX7 15 "LongestMet$Survey" "toldAt" "[I", .fieldLink RX7 18 "LongestMet$Survey" "backAt" "[I", .fieldLink RX7 21 "LongestMet$Survey" "told" "I", .fieldLink RX7 25 "LongestMet$Survey" "now" "I", .fieldLink RX7 28 "LongestMet$Survey" "seenFrom" "I"] ++ wsX70)
def wsX7_cannotBeNow : List Cond := .code yX7_cannotBeNow cX7_cannotBeNow 2 (some .boolean) :: ([.fieldLink RX7 25 "LongestMet$Survey" "now" "I", .static yX10_outside, .initialized RX10, .code yX10_outside cX10_outside 3 (some .boolean)] ++ wsX70)
def wsX7_answer : List Cond := .code yX7_answer cX7_answer 3 (some .int) :: ([.fieldLink RX7 21 "LongestMet$Survey" "told" "I", .fieldLink RX7 11 "LongestMet$Survey" "answers" "[I", .fieldLink RX7 15 "LongestMet$Survey" "toldAt" "[I", .fieldLink RX7 18 "LongestMet$Survey" "backAt" "[I", .fieldLink RX7 25 "LongestMet$Survey" "now" "I"] ++ wsX70)
def wsX7_answersTold : List Cond := .code yX7_answersTold cX7_answersTold 1 (some .int) :: ([.fieldLink RX7 21 "LongestMet$Survey" "told" "I"] ++ wsX70)
def wsX7_isTakenBack : List Cond := .code yX7_isTakenBack cX7_isTakenBack 2 (some .boolean) :: ([.fieldLink RX7 18 "LongestMet$Survey" "backAt" "[I"] ++ wsX70)
def wsX7_forget : List Cond := .code yX7_forget cX7_forget 3 none :: ([.fieldLink RX7 18 "LongestMet$Survey" "backAt" "[I", .fieldLink RX7 25 "LongestMet$Survey" "now" "I"] ++ wsX70)
def wsX7_lookFrom : List Cond := .code yX7_lookFrom cX7_lookFrom 3 (some .int) :: ([.fieldLink RX7 28 "LongestMet$Survey" "seenFrom" "I"] ++ wsX70)
def wsX7_childrenSaid : List Cond := .code yX7_childrenSaid cX7_childrenSaid 3 (some .int) :: ([.methodLink RX7 39 yX7_saying, .instanceMethod yX7_saying, .selects RX7 yX7_saying yX7_saying, .initialized RX7, .code yX7_saying cX7_saying 4 (some .int), .fieldLink RX7 21 "LongestMet$Survey" "told" "I", .fieldLink RX7 11 "LongestMet$Survey" "answers" "[I", .methodLink RX7 35 yX7_counts, .instanceMethod yX7_counts, .selects RX7 yX7_counts yX7_counts, .code yX7_counts cX7_counts 2 (some .boolean), .fieldLink RX7 15 "LongestMet$Survey" "toldAt" "[I", .fieldLink RX7 28 "LongestMet$Survey" "seenFrom" "I", .fieldLink RX7 18 "LongestMet$Survey" "backAt" "[I"] ++ wsX70)
def wsX7_familyParts : List Cond := .code yX7_familyParts cX7_familyParts 2 (some .int) :: ([.methodLink RX7 39 yX7_saying, .instanceMethod yX7_saying, .selects RX7 yX7_saying yX7_saying, .initialized RX7, .code yX7_saying cX7_saying 4 (some .int), .fieldLink RX7 21 "LongestMet$Survey" "told" "I", .fieldLink RX7 11 "LongestMet$Survey" "answers" "[I", .methodLink RX7 35 yX7_counts, .instanceMethod yX7_counts, .selects RX7 yX7_counts yX7_counts, .code yX7_counts cX7_counts 2 (some .boolean), .fieldLink RX7 15 "LongestMet$Survey" "toldAt" "[I", .fieldLink RX7 28 "LongestMet$Survey" "seenFrom" "I", .fieldLink RX7 18 "LongestMet$Survey" "backAt" "[I"] ++ wsX70)
def wsX7_allFamilyParts : List Cond := .code yX7_allFamilyParts cX7_allFamilyParts 3 (some .int) :: ([.methodLink RX7 43 yX7_familyParts, .instanceMethod yX7_familyParts, .selects RX7 yX7_familyParts yX7_familyParts, .initialized RX7, .code yX7_familyParts cX7_familyParts 2 (some .int), .methodLink RX7 39 yX7_saying, .instanceMethod yX7_saying, .selects RX7 yX7_saying yX7_saying, .code yX7_saying cX7_saying 4 (some .int), .fieldLink RX7 21 "LongestMet$Survey" "told" "I", .fieldLink RX7 11 "LongestMet$Survey" "answers" "[I", .methodLink RX7 35 yX7_counts, .instanceMethod yX7_counts, .selects RX7 yX7_counts yX7_counts, .code yX7_counts cX7_counts 2 (some .boolean), .fieldLink RX7 15 "LongestMet$Survey" "toldAt" "[I", .fieldLink RX7 28 "LongestMet$Survey" "seenFrom" "I", .fieldLink RX7 18 "LongestMet$Survey" "backAt" "[I"] ++ wsX70)
def wsX8_init : List Cond := .code yX8_init cX8_init 1 none :: ([.methodLink RX8 3 objectInit, .instanceMethod objectInit, .code objectInit ⟨#[0xb1]⟩ 1 none, .arrayClass .int, .fieldLink RX8 11 "LongestMet$Text" "bytes" "[I", .fieldLink RX8 15 "LongestMet$Text" "length" "I", .fieldLink RX8 19 "LongestMet$Text" "place" "I", .fieldLink RX8 22 "LongestMet$Text" "minutes" "J"] ++ wsX80)
def wsX8_append : List Cond := .code yX8_append cX8_append 2 (some .int) :: ([.fieldLink RX8 15 "LongestMet$Text" "length" "I", .fieldLink RX8 11 "LongestMet$Text" "bytes" "[I"] ++ wsX80)
def wsX8_empty : List Cond := .code yX8_empty cX8_empty 2 (some .int) :: ([.fieldLink RX8 15 "LongestMet$Text" "length" "I"] ++ wsX80)
def wsX8_bytesTyped : List Cond := .code yX8_bytesTyped cX8_bytesTyped 1 (some .int) :: ([.fieldLink RX8 15 "LongestMet$Text" "length" "I"] ++ wsX80)
def wsX8_minutesScanned : List Cond := .code yX8_minutesScanned cX8_minutesScanned 1 (some .long) :: ([.fieldLink RX8 22 "LongestMet$Text" "minutes" "J"] ++ wsX80)
def wsX8_ahead : List Cond := .code yX8_ahead cX8_ahead 1 (some .int) :: ([.fieldLink RX8 19 "LongestMet$Text" "place" "I", .fieldLink RX8 15 "LongestMet$Text" "length" "I", .fieldLink RX8 11 "LongestMet$Text" "bytes" "[I"] ++ wsX80)
def wsX8_scanNumber : List Cond := .code yX8_scanNumber cX8_scanNumber 3 (some .int) :: ([.methodLink RX8 40 Lib.Math.max.name, .static Lib.Math.max.name, .initialized "java/lang/Math", .code Lib.Math.max.name Lib.Math.max.code 2 (some .int), .fieldLink RX8 19 "LongestMet$Text" "place" "I", .methodLink RX8 30 yX8_ahead, .instanceMethod yX8_ahead, .selects RX8 yX8_ahead yX8_ahead, .initialized RX8, .code yX8_ahead cX8_ahead 1 (some .int), .fieldLink RX8 15 "LongestMet$Text" "length" "I", .fieldLink RX8 11 "LongestMet$Text" "bytes" "[I", .static yX10_outside, .initialized RX10, .code yX10_outside cX10_outside 3 (some .boolean)] ++ wsX80)
def wsX8_scanPart : List Cond := .code yX8_scanPart cX8_scanPart 5 (some .int) :: ([.fieldLink RX8 19 "LongestMet$Text" "place" "I", .fieldLink RX8 22 "LongestMet$Text" "minutes" "J", .methodLink RX8 33 yX8_scanNumber, .instanceMethod yX8_scanNumber, .selects RX8 yX8_scanNumber yX8_scanNumber, .initialized RX8, .code yX8_scanNumber cX8_scanNumber 3 (some .int), .methodLink RX8 40 Lib.Math.max.name, .static Lib.Math.max.name, .initialized "java/lang/Math", .code Lib.Math.max.name Lib.Math.max.code 2 (some .int), .methodLink RX8 30 yX8_ahead, .instanceMethod yX8_ahead, .selects RX8 yX8_ahead yX8_ahead, .code yX8_ahead cX8_ahead 1 (some .int), .fieldLink RX8 15 "LongestMet$Text" "length" "I", .fieldLink RX8 11 "LongestMet$Text" "bytes" "[I", .static yX10_outside, .initialized RX10, .code yX10_outside cX10_outside 3 (some .boolean)] ++ wsX80)
def wsX8_scan : List Cond := .code yX8_scan cX8_scan 3 (some .int) :: ([.fieldLink RX8 19 "LongestMet$Text" "place" "I", .fieldLink RX8 22 "LongestMet$Text" "minutes" "J", .methodLink RX8 26 yX8_scanPart, .instanceMethod yX8_scanPart, .selects RX8 yX8_scanPart yX8_scanPart, .initialized RX8, .code yX8_scanPart cX8_scanPart 5 (some .int), .methodLink RX8 33 yX8_scanNumber, .instanceMethod yX8_scanNumber, .selects RX8 yX8_scanNumber yX8_scanNumber, .code yX8_scanNumber cX8_scanNumber 3 (some .int), .methodLink RX8 40 Lib.Math.max.name, .static Lib.Math.max.name, .initialized "java/lang/Math", .code Lib.Math.max.name Lib.Math.max.code 2 (some .int), .methodLink RX8 30 yX8_ahead, .instanceMethod yX8_ahead, .selects RX8 yX8_ahead yX8_ahead, .code yX8_ahead cX8_ahead 1 (some .int), .fieldLink RX8 15 "LongestMet$Text" "length" "I", .fieldLink RX8 11 "LongestMet$Text" "bytes" "[I", .static yX10_outside, .initialized RX10, .code yX10_outside cX10_outside 3 (some .boolean)] ++ wsX80)
def wsX9_init : List Cond := .code yX9_init cX9_init 1 none :: ([.methodLink RX9 3 objectInit, .instanceMethod objectInit, .code objectInit ⟨#[0xb1]⟩ 1 none, .arrayClass .int, .fieldLink RX9 11 "LongestMet$Ward" "first" "[I", .fieldLink RX9 15 "LongestMet$Ward" "last" "[I", .fieldLink RX9 18 "LongestMet$Ward" "stays" "I"] ++ wsX90)
def wsX9_admit : List Cond := .code yX9_admit cX9_admit 3 (some .int) :: ([.fieldLink RX9 18 "LongestMet$Ward" "stays" "I", .fieldLink RX9 11 "LongestMet$Ward" "first" "[I", .fieldLink RX9 15 "LongestMet$Ward" "last" "[I"] ++ wsX90)
def wsX9_staysTold : List Cond := .code yX9_staysTold cX9_staysTold 1 (some .int) :: ([.fieldLink RX9 18 "LongestMet$Ward" "stays" "I"] ++ wsX90)
def wsX9_firstDay : List Cond := .code yX9_firstDay cX9_firstDay 2 (some .int) :: ([.fieldLink RX9 11 "LongestMet$Ward" "first" "[I"] ++ wsX90)
def wsX9_endOn : List Cond := .code yX9_endOn cX9_endOn 4 (some .int) :: ([.fieldLink RX9 15 "LongestMet$Ward" "last" "[I"] ++ wsX90)
def wsX9_weight : List Cond := .code yX9_weight cX9_weight 8 (some .long) :: ([.fieldLink RX9 15 "LongestMet$Ward" "last" "[I", .fieldLink RX9 11 "LongestMet$Ward" "first" "[I", .methodLink RX9 26 Lib.Math.min.name, .static Lib.Math.min.name, .initialized "java/lang/Math", .code Lib.Math.min.name Lib.Math.min.code 2 (some .int), .methodLink RX9 32 Lib.Math.max.name, .static Lib.Math.max.name, .code Lib.Math.max.name Lib.Math.max.code 2 (some .int), .constantLong RX9 35 (232792560)] ++ wsX90)
def wsX9_sum : List Cond := .code yX9_sum cX9_sum 7 (some .long) :: ([.fieldLink RX9 18 "LongestMet$Ward" "stays" "I", .methodLink RX9 22 yX9_weight, .instanceMethod yX9_weight, .selects RX9 yX9_weight yX9_weight, .initialized RX9, .code yX9_weight cX9_weight 8 (some .long), .fieldLink RX9 15 "LongestMet$Ward" "last" "[I", .fieldLink RX9 11 "LongestMet$Ward" "first" "[I", .methodLink RX9 26 Lib.Math.min.name, .static Lib.Math.min.name, .initialized "java/lang/Math", .code Lib.Math.min.name Lib.Math.min.code 2 (some .int), .methodLink RX9 32 Lib.Math.max.name, .static Lib.Math.max.name, .code Lib.Math.max.name Lib.Math.max.code 2 (some .int), .constantLong RX9 35 (232792560)] ++ wsX90)
def wsX9_above : List Cond := .code yX9_above cX9_above 4 (some .long) :: ([.constantLong RX9 35 (232792560), .methodLink RX9 37 yX9_sum, .instanceMethod yX9_sum, .selects RX9 yX9_sum yX9_sum, .initialized RX9, .code yX9_sum cX9_sum 7 (some .long), .fieldLink RX9 18 "LongestMet$Ward" "stays" "I", .methodLink RX9 22 yX9_weight, .instanceMethod yX9_weight, .selects RX9 yX9_weight yX9_weight, .code yX9_weight cX9_weight 8 (some .long), .fieldLink RX9 15 "LongestMet$Ward" "last" "[I", .fieldLink RX9 11 "LongestMet$Ward" "first" "[I", .methodLink RX9 26 Lib.Math.min.name, .static Lib.Math.min.name, .initialized "java/lang/Math", .code Lib.Math.min.name Lib.Math.min.code 2 (some .int), .methodLink RX9 32 Lib.Math.max.name, .static Lib.Math.max.name, .code Lib.Math.max.name Lib.Math.max.code 2 (some .int)] ++ wsX90)
def wsX9_below : List Cond := .code yX9_below cX9_below 4 (some .long) :: ([.methodLink RX9 37 yX9_sum, .instanceMethod yX9_sum, .selects RX9 yX9_sum yX9_sum, .initialized RX9, .code yX9_sum cX9_sum 7 (some .long), .fieldLink RX9 18 "LongestMet$Ward" "stays" "I", .methodLink RX9 22 yX9_weight, .instanceMethod yX9_weight, .selects RX9 yX9_weight yX9_weight, .code yX9_weight cX9_weight 8 (some .long), .fieldLink RX9 15 "LongestMet$Ward" "last" "[I", .fieldLink RX9 11 "LongestMet$Ward" "first" "[I", .methodLink RX9 26 Lib.Math.min.name, .static Lib.Math.min.name, .initialized "java/lang/Math", .code Lib.Math.min.name Lib.Math.min.code 2 (some .int), .methodLink RX9 32 Lib.Math.max.name, .static Lib.Math.max.name, .code Lib.Math.max.name Lib.Math.max.code 2 (some .int), .constantLong RX9 35 (232792560)] ++ wsX90)
def wsX9_lyingOn : List Cond := .code yX9_lyingOn cX9_lyingOn 2 (some .int) :: ([.methodLink RX9 37 yX9_sum, .instanceMethod yX9_sum, .selects RX9 yX9_sum yX9_sum, .initialized RX9, .code yX9_sum cX9_sum 7 (some .long), .fieldLink RX9 18 "LongestMet$Ward" "stays" "I", .methodLink RX9 22 yX9_weight, .instanceMethod yX9_weight, .selects RX9 yX9_weight yX9_weight, .code yX9_weight cX9_weight 8 (some .long), .fieldLink RX9 15 "LongestMet$Ward" "last" "[I", .fieldLink RX9 11 "LongestMet$Ward" "first" "[I", .methodLink RX9 26 Lib.Math.min.name, .static Lib.Math.min.name, .initialized "java/lang/Math", .code Lib.Math.min.name Lib.Math.min.code 2 (some .int), .methodLink RX9 32 Lib.Math.max.name, .static Lib.Math.max.name, .code Lib.Math.max.name Lib.Math.max.code 2 (some .int), .constantLong RX9 35 (232792560)] ++ wsX90)
def wsX9_fullestDay : List Cond := .code yX9_fullestDay cX9_fullestDay 5 (some .int) :: ([.methodLink RX9 41 yX9_lyingOn, .instanceMethod yX9_lyingOn, .selects RX9 yX9_lyingOn yX9_lyingOn, .initialized RX9, .code yX9_lyingOn cX9_lyingOn 2 (some .int), .methodLink RX9 37 yX9_sum, .instanceMethod yX9_sum, .selects RX9 yX9_sum yX9_sum, .code yX9_sum cX9_sum 7 (some .long), .fieldLink RX9 18 "LongestMet$Ward" "stays" "I", .methodLink RX9 22 yX9_weight, .instanceMethod yX9_weight, .selects RX9 yX9_weight yX9_weight, .code yX9_weight cX9_weight 8 (some .long), .fieldLink RX9 15 "LongestMet$Ward" "last" "[I", .fieldLink RX9 11 "LongestMet$Ward" "first" "[I", .methodLink RX9 26 Lib.Math.min.name, .static Lib.Math.min.name, .initialized "java/lang/Math", .code Lib.Math.min.name Lib.Math.min.code 2 (some .int), .methodLink RX9 32 Lib.Math.max.name, .static Lib.Math.max.name, .code Lib.Math.max.name Lib.Math.max.code 2 (some .int), .constantLong RX9 35 (232792560)] ++ wsX90)
def wsX9_firstEnd : List Cond := .code yX9_firstEnd cX9_firstEnd 4 (some .int) :: ([.fieldLink RX9 18 "LongestMet$Ward" "stays" "I", .fieldLink RX9 11 "LongestMet$Ward" "first" "[I", .fieldLink RX9 15 "LongestMet$Ward" "last" "[I"] ++ wsX90)
def wsX9_mostApart : List Cond := .code yX9_mostApart cX9_mostApart 5 (some .int) :: ([.methodLink RX9 45 yX9_firstEnd, .instanceMethod yX9_firstEnd, .selects RX9 yX9_firstEnd yX9_firstEnd, .initialized RX9, .code yX9_firstEnd cX9_firstEnd 4 (some .int), .fieldLink RX9 18 "LongestMet$Ward" "stays" "I", .fieldLink RX9 11 "LongestMet$Ward" "first" "[I", .fieldLink RX9 15 "LongestMet$Ward" "last" "[I"] ++ wsX90)
def wsX10_init_r1 : List Cond := [Cond.methodLink RX10 1 objectInit, Cond.instanceMethod objectInit, Cond.code objectInit ⟨#[0xb1]⟩ 1 none, Cond.classLink RX10 7 RX8, Cond.instantiable RX8 4, Cond.initialized RX8, Cond.fieldLink RX10 10 "LongestMet" "text" "LLongestMet$Text;", Cond.classLink RX10 16 RX6, Cond.instantiable RX6 1, Cond.initialized RX6, Cond.fieldLink RX10 19 "LongestMet" "stop" "LLongestMet$Stop;", Cond.classLink RX10 23 RX3, Cond.instantiable RX3 5, Cond.initialized RX3, Cond.fieldLink RX10 26 "LongestMet" "holding" "LLongestMet$Holding;", Cond.classLink RX10 30 RX7, Cond.instantiable RX7 6, Cond.initialized RX7, Cond.fieldLink RX10 33 "LongestMet" "survey" "LLongestMet$Survey;", Cond.classLink RX10 37 RX1, Cond.instantiable RX1 1, Cond.initialized RX1, Cond.fieldLink RX10 40 "LongestMet" "country" "LLongestMet$Country;", Cond.classLink RX10 44 RX9]
def wsX10_init_r2 : List Cond := [Cond.instantiable RX9 3, Cond.initialized RX9, Cond.fieldLink RX10 47 "LongestMet" "beds" "LLongestMet$Ward;", Cond.classLink RX10 51 RX0, Cond.instantiable RX0 1, Cond.initialized RX0, Cond.fieldLink RX10 54 "LongestMet" "circle" "LLongestMet$Circle;", Cond.classLink RX10 58 RX4, Cond.instantiable RX4 2, Cond.initialized RX4, Cond.fieldLink RX10 61 "LongestMet" "rod" "LLongestMet$Rod;", Cond.classLink RX10 65 RX5, Cond.instantiable RX5 4, Cond.initialized RX5, Cond.fieldLink RX10 68 "LongestMet" "sheets" "LLongestMet$Sheets;", Cond.instanceMethod yX8_init, Cond.code yX8_init cX8_init 1 none, Cond.methodLink RX8 3 objectInit, Cond.arrayClass .int, Cond.fieldLink RX8 11 "LongestMet$Text" "bytes" "[I", Cond.fieldLink RX8 15 "LongestMet$Text" "length" "I", Cond.fieldLink RX8 19 "LongestMet$Text" "place" "I", Cond.fieldLink RX8 22 "LongestMet$Text" "minutes" "J", Cond.instanceMethod yX6_init]
def wsX10_init_r3 : List Cond := [Cond.code yX6_init cX6_init 1 none, Cond.methodLink RX6 3 objectInit, Cond.arrayClass .long, Cond.fieldLink RX6 9 "LongestMet$Stop" "lines" "[J", Cond.instanceMethod yX3_init, Cond.code yX3_init cX3_init 1 none, Cond.methodLink RX3 3 objectInit, Cond.fieldLink RX3 11 "LongestMet$Holding" "goes" "[I", Cond.fieldLink RX3 15 "LongestMet$Holding" "later" "[I", Cond.classLink RX3 18 "[[I", Cond.fieldLink RX3 20 "LongestMet$Holding" "onward" "[[I", Cond.fieldLink RX3 23 "LongestMet$Holding" "buses" "I", Cond.fieldLink RX3 27 "LongestMet$Holding" "latest" "I", Cond.instanceMethod yX7_init, Cond.code yX7_init cX7_init 1 none, Cond.methodLink RX7 3 objectInit, Cond.fieldLink RX7 11 "LongestMet$Survey" "answers" "[I", Cond.fieldLink RX7 15 "LongestMet$Survey" "toldAt" "[I", Cond.fieldLink RX7 18 "LongestMet$Survey" "backAt" "[I", Cond.fieldLink RX7 21 "LongestMet$Survey" "told" "I", Cond.fieldLink RX7 25 "LongestMet$Survey" "now" "I", Cond.fieldLink RX7 28 "LongestMet$Survey" "seenFrom" "I", Cond.instanceMethod yX1_init, Cond.code yX1_init cX1_init 1 none]
def wsX10_init_r4 : List Cond := [Cond.methodLink RX1 3 objectInit, Cond.classLink RX1 9 "[[I", Cond.fieldLink RX1 11 "LongestMet$Country" "alike" "[[I", Cond.instanceMethod yX9_init, Cond.code yX9_init cX9_init 1 none, Cond.methodLink RX9 3 objectInit, Cond.fieldLink RX9 11 "LongestMet$Ward" "first" "[I", Cond.fieldLink RX9 15 "LongestMet$Ward" "last" "[I", Cond.fieldLink RX9 18 "LongestMet$Ward" "stays" "I", Cond.instanceMethod yX0_init, Cond.code yX0_init cX0_init 1 none, Cond.methodLink RX0 5 objectInit, Cond.fieldLink RX0 11 "LongestMet$Circle" "hers" "[I", Cond.instanceMethod yX4_init, Cond.code yX4_init cX4_init 1 none, Cond.methodLink RX4 3 objectInit, Cond.fieldLink RX4 11 "LongestMet$Rod" "lengths" "[I", Cond.fieldLink RX4 15 "LongestMet$Rod" "pieces" "I", Cond.methodLink RX10 67 yX5_init, Cond.instanceMethod yX5_init, Cond.code yX5_init cX5_init 2 none, Cond.methodLink RX5 3 objectInit, Cond.classLink RX5 9 "[[I", Cond.fieldLink RX5 11 "LongestMet$Sheets" "rows" "[[I"]
def wsX10_init_r5 : List Cond := [Cond.fieldLink RX5 16 "LongestMet$Sheets" "forms" "[I", Cond.fieldLink RX5 20 "LongestMet$Sheets" "sizes" "[I", Cond.fieldLink RX5 23 "LongestMet$Sheets" "latest" "I"]
def wsX10_init : List Cond := .code yX10_init cX10_init 1 none :: ((wsX10_init_r1 ++ (wsX10_init_r2 ++ (wsX10_init_r3 ++ (wsX10_init_r4 ++ wsX10_init_r5)))) ++ wsX80 ++ wsX100 ++ wsX60 ++ wsX30 ++ wsX70 ++ wsX10 ++ wsX90 ++ wsX00 ++ wsX40 ++ wsX50)
def wsX10_type : List Cond := .code yX10_type cX10_type 2 (some .int) :: ([.fieldLink RX10 10 "LongestMet" "text" "LLongestMet$Text;", .methodLink RX10 72 yX10_outside, .static yX10_outside, .initialized RX10, .code yX10_outside cX10_outside 3 (some .boolean), .methodLink RX10 76 yX8_append, .instanceMethod yX8_append, .selects RX8 yX8_append yX8_append, .initialized RX8, .code yX8_append cX8_append 2 (some .int), .fieldLink RX8 15 "LongestMet$Text" "length" "I", .fieldLink RX8 11 "LongestMet$Text" "bytes" "[I"] ++ wsX100 ++ wsX80)
def wsX10_wipe : List Cond := .code yX10_wipe cX10_wipe 1 (some .int) :: ([.fieldLink RX10 10 "LongestMet" "text" "LLongestMet$Text;", .methodLink RX10 80 yX8_empty, .instanceMethod yX8_empty, .selects RX8 yX8_empty yX8_empty, .initialized RX8, .code yX8_empty cX8_empty 2 (some .int), .fieldLink RX8 15 "LongestMet$Text" "length" "I"] ++ wsX100 ++ wsX80)
def wsX10_fault_r1 : List Cond := [Cond.fieldLink RX10 10 "LongestMet" "text" "LLongestMet$Text;", Cond.methodLink RX10 84 yX8_scan, Cond.instanceMethod yX8_scan, Cond.selects RX8 yX8_scan yX8_scan, Cond.initialized RX8, Cond.code yX8_scan cX8_scan 3 (some .int), Cond.fieldLink RX8 19 "LongestMet$Text" "place" "I", Cond.fieldLink RX8 22 "LongestMet$Text" "minutes" "J", Cond.methodLink RX8 26 yX8_scanPart, Cond.instanceMethod yX8_scanPart, Cond.selects RX8 yX8_scanPart yX8_scanPart, Cond.code yX8_scanPart cX8_scanPart 5 (some .int), Cond.methodLink RX8 33 yX8_scanNumber, Cond.instanceMethod yX8_scanNumber, Cond.selects RX8 yX8_scanNumber yX8_scanNumber, Cond.code yX8_scanNumber cX8_scanNumber 3 (some .int), Cond.methodLink RX8 40 Lib.Math.max.name, Cond.static Lib.Math.max.name, Cond.initialized "java/lang/Math", Cond.code Lib.Math.max.name Lib.Math.max.code 2 (some .int), Cond.methodLink RX8 30 yX8_ahead, Cond.instanceMethod yX8_ahead, Cond.selects RX8 yX8_ahead yX8_ahead, Cond.code yX8_ahead cX8_ahead 1 (some .int)]
def wsX10_fault_r2 : List Cond := [Cond.fieldLink RX8 15 "LongestMet$Text" "length" "I", Cond.fieldLink RX8 11 "LongestMet$Text" "bytes" "[I", Cond.static yX10_outside, Cond.initialized RX10, Cond.code yX10_outside cX10_outside 3 (some .boolean)]
def wsX10_fault : List Cond := .code yX10_fault cX10_fault 1 (some .int) :: ((wsX10_fault_r1 ++ wsX10_fault_r2) ++ wsX100 ++ wsX80)
def wsX10_line_r1 : List Cond := [Cond.fieldLink RX10 10 "LongestMet" "text" "LLongestMet$Text;", Cond.fieldLink RX10 19 "LongestMet" "stop" "LLongestMet$Stop;", Cond.methodLink RX10 72 yX10_outside, Cond.static yX10_outside, Cond.initialized RX10, Cond.code yX10_outside cX10_outside 3 (some .boolean), Cond.methodLink RX10 84 yX8_scan, Cond.instanceMethod yX8_scan, Cond.selects RX8 yX8_scan yX8_scan, Cond.initialized RX8, Cond.code yX8_scan cX8_scan 3 (some .int), Cond.fieldLink RX8 19 "LongestMet$Text" "place" "I", Cond.fieldLink RX8 22 "LongestMet$Text" "minutes" "J", Cond.methodLink RX8 26 yX8_scanPart, Cond.instanceMethod yX8_scanPart, Cond.selects RX8 yX8_scanPart yX8_scanPart, Cond.code yX8_scanPart cX8_scanPart 5 (some .int), Cond.methodLink RX8 33 yX8_scanNumber, Cond.instanceMethod yX8_scanNumber, Cond.selects RX8 yX8_scanNumber yX8_scanNumber, Cond.code yX8_scanNumber cX8_scanNumber 3 (some .int), Cond.methodLink RX8 40 Lib.Math.max.name, Cond.static Lib.Math.max.name, Cond.initialized "java/lang/Math"]
def wsX10_line_r2 : List Cond := [Cond.code Lib.Math.max.name Lib.Math.max.code 2 (some .int), Cond.methodLink RX8 30 yX8_ahead, Cond.instanceMethod yX8_ahead, Cond.selects RX8 yX8_ahead yX8_ahead, Cond.code yX8_ahead cX8_ahead 1 (some .int), Cond.fieldLink RX8 15 "LongestMet$Text" "length" "I", Cond.fieldLink RX8 11 "LongestMet$Text" "bytes" "[I", Cond.methodLink RX10 87 yX8_minutesScanned, Cond.instanceMethod yX8_minutesScanned, Cond.selects RX8 yX8_minutesScanned yX8_minutesScanned, Cond.code yX8_minutesScanned cX8_minutesScanned 1 (some .long), Cond.methodLink RX10 91 yX6_setLine, Cond.instanceMethod yX6_setLine, Cond.selects RX6 yX6_setLine yX6_setLine, Cond.initialized RX6, Cond.code yX6_setLine cX6_setLine 4 none, Cond.fieldLink RX6 9 "LongestMet$Stop" "lines" "[J", Cond.methodLink RX10 80 yX8_empty, Cond.instanceMethod yX8_empty, Cond.selects RX8 yX8_empty yX8_empty, Cond.code yX8_empty cX8_empty 2 (some .int), Cond.methodLink RX10 95 yX6_busesOf, Cond.instanceMethod yX6_busesOf, Cond.selects RX6 yX6_busesOf yX6_busesOf]
def wsX10_line_r3 : List Cond := [Cond.code yX6_busesOf cX6_busesOf 2 (some .int), Cond.methodLink RX6 15 yX6_minutesOf, Cond.instanceMethod yX6_minutesOf, Cond.selects RX6 yX6_minutesOf yX6_minutesOf, Cond.code yX6_minutesOf cX6_minutesOf 2 (some .long), Cond.methodLink RX6 19 yJ13_bitCount_95d88, Cond.static yJ13_bitCount_95d88, Cond.initialized RJ13, Cond.code yJ13_bitCount_95d88 cJ13_bitCount_95d88 2 (some .int), Cond.constantLong RJ13 314 (6148914691236517205), Cond.constantLong RJ13 316 (3689348814741910323), Cond.constantLong RJ13 318 (1085102592571150095)]
def wsX10_line : List Cond := .code yX10_line cX10_line 2 (some .int) :: ((wsX10_line_r1 ++ (wsX10_line_r2 ++ wsX10_line_r3)) ++ wsX100 ++ wsX80 ++ wsX60)
def wsX10_waits_r1 : List Cond := [Cond.fieldLink RX10 19 "LongestMet" "stop" "LLongestMet$Stop;", Cond.methodLink RX10 72 yX10_outside, Cond.static yX10_outside, Cond.initialized RX10, Cond.code yX10_outside cX10_outside 3 (some .boolean), Cond.methodLink RX10 95 yX6_busesOf, Cond.instanceMethod yX6_busesOf, Cond.selects RX6 yX6_busesOf yX6_busesOf, Cond.initialized RX6, Cond.code yX6_busesOf cX6_busesOf 2 (some .int), Cond.methodLink RX6 15 yX6_minutesOf, Cond.instanceMethod yX6_minutesOf, Cond.selects RX6 yX6_minutesOf yX6_minutesOf, Cond.code yX6_minutesOf cX6_minutesOf 2 (some .long), Cond.fieldLink RX6 9 "LongestMet$Stop" "lines" "[J", Cond.methodLink RX6 19 yJ13_bitCount_95d88, Cond.static yJ13_bitCount_95d88, Cond.initialized RJ13, Cond.code yJ13_bitCount_95d88 cJ13_bitCount_95d88 2 (some .int), Cond.constantLong RJ13 314 (6148914691236517205), Cond.constantLong RJ13 316 (3689348814741910323), Cond.constantLong RJ13 318 (1085102592571150095), Cond.methodLink RX10 98 yX6_waitAt, Cond.instanceMethod yX6_waitAt]
def wsX10_waits_r2 : List Cond := [Cond.selects RX6 yX6_waitAt yX6_waitAt, Cond.code yX6_waitAt cX6_waitAt 6 (some .int), Cond.methodLink RX6 25 yX6_isIn, Cond.static yX6_isIn, Cond.code yX6_isIn cX6_isIn 3 (some .boolean)]
def wsX10_waits : List Cond := .code yX10_waits cX10_waits 3 (some .int) :: ((wsX10_waits_r1 ++ wsX10_waits_r2) ++ wsX100 ++ wsX60)
def wsX10_met_r1 : List Cond := [Cond.fieldLink RX10 19 "LongestMet" "stop" "LLongestMet$Stop;", Cond.methodLink RX10 72 yX10_outside, Cond.static yX10_outside, Cond.initialized RX10, Cond.code yX10_outside cX10_outside 3 (some .boolean), Cond.methodLink RX10 102 yX6_metBy, Cond.instanceMethod yX6_metBy, Cond.selects RX6 yX6_metBy yX6_metBy, Cond.initialized RX6, Cond.code yX6_metBy cX6_metBy 7 (some .int), Cond.methodLink RX6 15 yX6_minutesOf, Cond.instanceMethod yX6_minutesOf, Cond.selects RX6 yX6_minutesOf yX6_minutesOf, Cond.code yX6_minutesOf cX6_minutesOf 2 (some .long), Cond.fieldLink RX6 9 "LongestMet$Stop" "lines" "[J", Cond.methodLink RX6 25 yX6_isIn, Cond.static yX6_isIn, Cond.code yX6_isIn cX6_isIn 3 (some .boolean), Cond.methodLink RX6 29 yX6_gapBehind, Cond.instanceMethod yX6_gapBehind, Cond.selects RX6 yX6_gapBehind yX6_gapBehind, Cond.code yX6_gapBehind cX6_gapBehind 3 (some .int), Cond.methodLink RX6 40 yX6_waitAt, Cond.instanceMethod yX6_waitAt]
def wsX10_met_r2 : List Cond := [Cond.selects RX6 yX6_waitAt yX6_waitAt, Cond.code yX6_waitAt cX6_waitAt 6 (some .int)]
def wsX10_met : List Cond := .code yX10_met cX10_met 3 (some .int) :: ((wsX10_met_r1 ++ wsX10_met_r2) ++ wsX100 ++ wsX60)
def wsX10_gaps_r1 : List Cond := [Cond.fieldLink RX10 19 "LongestMet" "stop" "LLongestMet$Stop;", Cond.methodLink RX10 72 yX10_outside, Cond.static yX10_outside, Cond.initialized RX10, Cond.code yX10_outside cX10_outside 3 (some .boolean), Cond.methodLink RX10 105 yX2_refused, Cond.static yX2_refused, Cond.initialized RX2, Cond.code yX2_refused cX2_refused 1 (some .long), Cond.constantLong RX2 11 (-9223372036854775808), Cond.methodLink RX10 95 yX6_busesOf, Cond.instanceMethod yX6_busesOf, Cond.selects RX6 yX6_busesOf yX6_busesOf, Cond.initialized RX6, Cond.code yX6_busesOf cX6_busesOf 2 (some .int), Cond.methodLink RX6 15 yX6_minutesOf, Cond.instanceMethod yX6_minutesOf, Cond.selects RX6 yX6_minutesOf yX6_minutesOf, Cond.code yX6_minutesOf cX6_minutesOf 2 (some .long), Cond.fieldLink RX6 9 "LongestMet$Stop" "lines" "[J", Cond.methodLink RX6 19 yJ13_bitCount_95d88, Cond.static yJ13_bitCount_95d88, Cond.initialized RJ13, Cond.code yJ13_bitCount_95d88 cJ13_bitCount_95d88 2 (some .int)]
def wsX10_gaps_r2 : List Cond := [Cond.constantLong RJ13 314 (6148914691236517205), Cond.constantLong RJ13 316 (3689348814741910323), Cond.constantLong RJ13 318 (1085102592571150095), Cond.methodLink RX10 111 yX6_sumOfGaps, Cond.instanceMethod yX6_sumOfGaps, Cond.selects RX6 yX6_sumOfGaps yX6_sumOfGaps, Cond.code yX6_sumOfGaps cX6_sumOfGaps 7 (some .int), Cond.methodLink RX6 25 yX6_isIn, Cond.static yX6_isIn, Cond.code yX6_isIn cX6_isIn 3 (some .boolean), Cond.methodLink RX6 29 yX6_gapBehind, Cond.instanceMethod yX6_gapBehind, Cond.selects RX6 yX6_gapBehind yX6_gapBehind, Cond.code yX6_gapBehind cX6_gapBehind 3 (some .int), Cond.methodLink RX6 40 yX6_waitAt, Cond.instanceMethod yX6_waitAt, Cond.selects RX6 yX6_waitAt yX6_waitAt, Cond.code yX6_waitAt cX6_waitAt 6 (some .int), Cond.methodLink RX6 33 yX6_weightOf, Cond.static yX6_weightOf, Cond.code yX6_weightOf cX6_weightOf 2 (some .int), Cond.methodLink RX6 36 yX6_waitsIn, Cond.static yX6_waitsIn, Cond.code yX6_waitsIn cX6_waitsIn 1 (some .int)]
def wsX10_gaps_r3 : List Cond := [Cond.methodLink RX10 114 yX2_told, Cond.static yX2_told, Cond.code yX2_told cX2_told 7 (some .long), Cond.methodLink RX2 13 yX2_commonOf, Cond.static yX2_commonOf, Cond.code yX2_commonOf cX2_commonOf 11 (some .long), Cond.methodLink RX2 19 yX2_refused]
def wsX10_gaps : List Cond := .code yX10_gaps cX10_gaps 5 (some .long) :: ((wsX10_gaps_r1 ++ (wsX10_gaps_r2 ++ wsX10_gaps_r3)) ++ wsX100 ++ wsX60)
def wsX10_held_r1 : List Cond := [Cond.fieldLink RX10 19 "LongestMet" "stop" "LLongestMet$Stop;", Cond.fieldLink RX10 26 "LongestMet" "holding" "LLongestMet$Holding;", Cond.methodLink RX10 72 yX10_outside, Cond.static yX10_outside, Cond.initialized RX10, Cond.code yX10_outside cX10_outside 3 (some .boolean), Cond.methodLink RX10 95 yX6_busesOf, Cond.instanceMethod yX6_busesOf, Cond.selects RX6 yX6_busesOf yX6_busesOf, Cond.initialized RX6, Cond.code yX6_busesOf cX6_busesOf 2 (some .int), Cond.methodLink RX6 15 yX6_minutesOf, Cond.instanceMethod yX6_minutesOf, Cond.selects RX6 yX6_minutesOf yX6_minutesOf, Cond.code yX6_minutesOf cX6_minutesOf 2 (some .long), Cond.fieldLink RX6 9 "LongestMet$Stop" "lines" "[J", Cond.methodLink RX6 19 yJ13_bitCount_95d88, Cond.static yJ13_bitCount_95d88, Cond.initialized RJ13, Cond.code yJ13_bitCount_95d88 cJ13_bitCount_95d88 2 (some .int), Cond.constantLong RJ13 314 (6148914691236517205), Cond.constantLong RJ13 316 (3689348814741910323), Cond.constantLong RJ13 318 (1085102592571150095), Cond.methodLink RX10 118 yX6_minutesOf]
def wsX10_held_r2 : List Cond := [Cond.methodLink RX10 121 yX3_settle, Cond.instanceMethod yX3_settle, Cond.selects RX3 yX3_settle yX3_settle, Cond.initialized RX3, Cond.code yX3_settle cX3_settle 8 (some .int), Cond.fieldLink RX3 27 "LongestMet$Holding" "latest" "I", Cond.constant RX3 34 (1000000), Cond.methodLink RX3 30 yX3_takeBuses, Cond.instanceMethod yX3_takeBuses, Cond.selects RX3 yX3_takeBuses yX3_takeBuses, Cond.code yX3_takeBuses cX3_takeBuses 4 none, Cond.fieldLink RX3 23 "LongestMet$Holding" "buses" "I", Cond.fieldLink RX3 11 "LongestMet$Holding" "goes" "[I", Cond.methodLink RX3 43 yX6_isIn, Cond.static yX6_isIn, Cond.code yX6_isIn cX6_isIn 3 (some .boolean), Cond.methodLink RX3 35 yX3_leastWithFirst, Cond.instanceMethod yX3_leastWithFirst, Cond.selects RX3 yX3_leastWithFirst yX3_leastWithFirst, Cond.code yX3_leastWithFirst cX3_leastWithFirst 5 (some .int), Cond.fieldLink RX3 20 "LongestMet$Holding" "onward" "[[I", Cond.methodLink RX3 49 yX3_leastOnward, Cond.instanceMethod yX3_leastOnward, Cond.selects RX3 yX3_leastOnward yX3_leastOnward]
def wsX10_held_r3 : List Cond := [Cond.code yX3_leastOnward cX3_leastOnward 7 (some .int), Cond.methodLink RX3 59 Lib.Math.min.name, Cond.static Lib.Math.min.name, Cond.initialized "java/lang/Math", Cond.code Lib.Math.min.name Lib.Math.min.code 2 (some .int), Cond.methodLink RX3 53 yX6_waitsIn, Cond.static yX6_waitsIn, Cond.code yX6_waitsIn cX6_waitsIn 1 (some .int), Cond.methodLink RX3 56 yX3_through, Cond.instanceMethod yX3_through, Cond.selects RX3 yX3_through yX3_through, Cond.code yX3_through cX3_through 5 (some .int), Cond.methodLink RX3 39 yX3_chooseLater, Cond.instanceMethod yX3_chooseLater, Cond.selects RX3 yX3_chooseLater yX3_chooseLater, Cond.code yX3_chooseLater cX3_chooseLater 4 none, Cond.fieldLink RX3 15 "LongestMet$Holding" "later" "[I", Cond.methodLink RX3 65 yX3_leastLater, Cond.instanceMethod yX3_leastLater, Cond.selects RX3 yX3_leastLater yX3_leastLater, Cond.code yX3_leastLater cX3_leastLater 5 (some .int), Cond.methodLink RX10 125 yX3_laterOf, Cond.instanceMethod yX3_laterOf, Cond.selects RX3 yX3_laterOf yX3_laterOf]
def wsX10_held_r4 : List Cond := [Cond.code yX3_laterOf cX3_laterOf 2 (some .int)]
def wsX10_held : List Cond := .code yX10_held cX10_held 6 (some .int) :: ((wsX10_held_r1 ++ (wsX10_held_r2 ++ (wsX10_held_r3 ++ wsX10_held_r4))) ++ wsX100 ++ wsX60 ++ wsX30)
def wsX10_asked : List Cond := .code yX10_asked cX10_asked 3 (some .int) :: ([.fieldLink RX10 33 "LongestMet" "survey" "LLongestMet$Survey;", .methodLink RX10 72 yX10_outside, .static yX10_outside, .initialized RX10, .code yX10_outside cX10_outside 3 (some .boolean), .methodLink RX10 128 yX7_cannotBeNow, .instanceMethod yX7_cannotBeNow, .selects RX7 yX7_cannotBeNow yX7_cannotBeNow, .initialized RX7, .code yX7_cannotBeNow cX7_cannotBeNow 2 (some .boolean), .fieldLink RX7 25 "LongestMet$Survey" "now" "I", .methodLink RX10 132 yX7_answer, .instanceMethod yX7_answer, .selects RX7 yX7_answer yX7_answer, .code yX7_answer cX7_answer 3 (some .int), .fieldLink RX7 21 "LongestMet$Survey" "told" "I", .fieldLink RX7 11 "LongestMet$Survey" "answers" "[I", .fieldLink RX7 15 "LongestMet$Survey" "toldAt" "[I", .fieldLink RX7 18 "LongestMet$Survey" "backAt" "[I"] ++ wsX100 ++ wsX70)
def wsX10_read_r1 : List Cond := [Cond.fieldLink RX10 33 "LongestMet" "survey" "LLongestMet$Survey;", Cond.fieldLink RX10 68 "LongestMet" "sheets" "LLongestMet$Sheets;", Cond.methodLink RX10 72 yX10_outside, Cond.static yX10_outside, Cond.initialized RX10, Cond.code yX10_outside cX10_outside 3 (some .boolean), Cond.methodLink RX10 128 yX7_cannotBeNow, Cond.instanceMethod yX7_cannotBeNow, Cond.selects RX7 yX7_cannotBeNow yX7_cannotBeNow, Cond.initialized RX7, Cond.code yX7_cannotBeNow cX7_cannotBeNow 2 (some .boolean), Cond.fieldLink RX7 25 "LongestMet$Survey" "now" "I", Cond.methodLink RX10 135 yX5_isLost, Cond.instanceMethod yX5_isLost, Cond.selects RX5 yX5_isLost yX5_isLost, Cond.initialized RX5, Cond.code yX5_isLost cX5_isLost 2 (some .boolean), Cond.fieldLink RX5 20 "LongestMet$Sheets" "sizes" "[I", Cond.methodLink RX10 138 yX5_finding, Cond.instanceMethod yX5_finding, Cond.selects RX5 yX5_finding yX5_finding, Cond.code yX5_finding cX5_finding 2 (some .int), Cond.fieldLink RX5 23 "LongestMet$Sheets" "latest" "I", Cond.methodLink RX10 141 yX5_itemsOf]
def wsX10_read_r2 : List Cond := [Cond.instanceMethod yX5_itemsOf, Cond.selects RX5 yX5_itemsOf yX5_itemsOf, Cond.code yX5_itemsOf cX5_itemsOf 2 (some .int), Cond.methodLink RX10 144 yX5_itemAt, Cond.instanceMethod yX5_itemAt, Cond.selects RX5 yX5_itemAt yX5_itemAt, Cond.code yX5_itemAt cX5_itemAt 3 (some .int), Cond.fieldLink RX5 11 "LongestMet$Sheets" "rows" "[[I", Cond.methodLink RX10 147 yX10_asked, Cond.instanceMethod yX10_asked, Cond.selects RX10 yX10_asked yX10_asked, Cond.code yX10_asked cX10_asked 3 (some .int), Cond.methodLink RX10 132 yX7_answer, Cond.instanceMethod yX7_answer, Cond.selects RX7 yX7_answer yX7_answer, Cond.code yX7_answer cX7_answer 3 (some .int), Cond.fieldLink RX7 21 "LongestMet$Survey" "told" "I", Cond.fieldLink RX7 11 "LongestMet$Survey" "answers" "[I", Cond.fieldLink RX7 15 "LongestMet$Survey" "toldAt" "[I", Cond.fieldLink RX7 18 "LongestMet$Survey" "backAt" "[I"]
def wsX10_read : List Cond := .code yX10_read cX10_read 5 (some .int) :: ((wsX10_read_r1 ++ wsX10_read_r2) ++ wsX100 ++ wsX70 ++ wsX50)
def wsX10_takeBack_r1 : List Cond := [Cond.fieldLink RX10 33 "LongestMet" "survey" "LLongestMet$Survey;", Cond.methodLink RX10 150 yX7_answersTold, Cond.instanceMethod yX7_answersTold, Cond.selects RX7 yX7_answersTold yX7_answersTold, Cond.initialized RX7, Cond.code yX7_answersTold cX7_answersTold 1 (some .int), Cond.fieldLink RX7 21 "LongestMet$Survey" "told" "I", Cond.methodLink RX10 72 yX10_outside, Cond.static yX10_outside, Cond.initialized RX10, Cond.code yX10_outside cX10_outside 3 (some .boolean), Cond.methodLink RX10 128 yX7_cannotBeNow, Cond.instanceMethod yX7_cannotBeNow, Cond.selects RX7 yX7_cannotBeNow yX7_cannotBeNow, Cond.code yX7_cannotBeNow cX7_cannotBeNow 2 (some .boolean), Cond.fieldLink RX7 25 "LongestMet$Survey" "now" "I", Cond.methodLink RX10 153 yX7_isTakenBack, Cond.instanceMethod yX7_isTakenBack, Cond.selects RX7 yX7_isTakenBack yX7_isTakenBack, Cond.code yX7_isTakenBack cX7_isTakenBack 2 (some .boolean), Cond.fieldLink RX7 18 "LongestMet$Survey" "backAt" "[I", Cond.methodLink RX10 156 yX7_forget, Cond.instanceMethod yX7_forget, Cond.selects RX7 yX7_forget yX7_forget]
def wsX10_takeBack_r2 : List Cond := [Cond.code yX7_forget cX7_forget 3 none]
def wsX10_takeBack : List Cond := .code yX10_takeBack cX10_takeBack 3 (some .int) :: ((wsX10_takeBack_r1 ++ wsX10_takeBack_r2) ++ wsX100 ++ wsX70)
def wsX10_asOf : List Cond := .code yX10_asOf cX10_asOf 2 (some .int) :: ([.fieldLink RX10 33 "LongestMet" "survey" "LLongestMet$Survey;", .methodLink RX10 72 yX10_outside, .static yX10_outside, .initialized RX10, .code yX10_outside cX10_outside 3 (some .boolean), .methodLink RX10 160 yX7_lookFrom, .instanceMethod yX7_lookFrom, .selects RX7 yX7_lookFrom yX7_lookFrom, .initialized RX7, .code yX7_lookFrom cX7_lookFrom 3 (some .int), .fieldLink RX7 28 "LongestMet$Survey" "seenFrom" "I"] ++ wsX100 ++ wsX70)
def wsX10_said : List Cond := .code yX10_said cX10_said 2 (some .int) :: ([.fieldLink RX10 33 "LongestMet" "survey" "LLongestMet$Survey;", .methodLink RX10 72 yX10_outside, .static yX10_outside, .initialized RX10, .code yX10_outside cX10_outside 3 (some .boolean), .methodLink RX10 163 yX7_saying, .instanceMethod yX7_saying, .selects RX7 yX7_saying yX7_saying, .initialized RX7, .code yX7_saying cX7_saying 4 (some .int), .fieldLink RX7 21 "LongestMet$Survey" "told" "I", .fieldLink RX7 11 "LongestMet$Survey" "answers" "[I", .methodLink RX7 35 yX7_counts, .instanceMethod yX7_counts, .selects RX7 yX7_counts yX7_counts, .code yX7_counts cX7_counts 2 (some .boolean), .fieldLink RX7 15 "LongestMet$Survey" "toldAt" "[I", .fieldLink RX7 28 "LongestMet$Survey" "seenFrom" "I", .fieldLink RX7 18 "LongestMet$Survey" "backAt" "[I"] ++ wsX100 ++ wsX70)
def wsX10_share_r1 : List Cond := [Cond.fieldLink RX10 33 "LongestMet" "survey" "LLongestMet$Survey;", Cond.methodLink RX10 72 yX10_outside, Cond.static yX10_outside, Cond.initialized RX10, Cond.code yX10_outside cX10_outside 3 (some .boolean), Cond.methodLink RX10 105 yX2_refused, Cond.static yX2_refused, Cond.initialized RX2, Cond.code yX2_refused cX2_refused 1 (some .long), Cond.constantLong RX2 11 (-9223372036854775808), Cond.methodLink RX10 163 yX7_saying, Cond.instanceMethod yX7_saying, Cond.selects RX7 yX7_saying yX7_saying, Cond.initialized RX7, Cond.code yX7_saying cX7_saying 4 (some .int), Cond.fieldLink RX7 21 "LongestMet$Survey" "told" "I", Cond.fieldLink RX7 11 "LongestMet$Survey" "answers" "[I", Cond.methodLink RX7 35 yX7_counts, Cond.instanceMethod yX7_counts, Cond.selects RX7 yX7_counts yX7_counts, Cond.code yX7_counts cX7_counts 2 (some .boolean), Cond.fieldLink RX7 15 "LongestMet$Survey" "toldAt" "[I", Cond.fieldLink RX7 28 "LongestMet$Survey" "seenFrom" "I", Cond.fieldLink RX7 18 "LongestMet$Survey" "backAt" "[I"]
def wsX10_share_r2 : List Cond := [Cond.methodLink RX10 166 yX7_counting, Cond.instanceMethod yX7_counting, Cond.selects RX7 yX7_counting yX7_counting, Cond.code yX7_counting cX7_counting 3 (some .int), Cond.methodLink RX10 114 yX2_told, Cond.static yX2_told, Cond.code yX2_told cX2_told 7 (some .long), Cond.methodLink RX2 13 yX2_commonOf, Cond.static yX2_commonOf, Cond.code yX2_commonOf cX2_commonOf 11 (some .long), Cond.methodLink RX2 19 yX2_refused, Cond.methodLink RX10 169 yX7_familyParts, Cond.instanceMethod yX7_familyParts, Cond.selects RX7 yX7_familyParts yX7_familyParts, Cond.code yX7_familyParts cX7_familyParts 2 (some .int), Cond.methodLink RX7 39 yX7_saying, Cond.methodLink RX10 172 yX7_allFamilyParts, Cond.instanceMethod yX7_allFamilyParts, Cond.selects RX7 yX7_allFamilyParts yX7_allFamilyParts, Cond.code yX7_allFamilyParts cX7_allFamilyParts 3 (some .int), Cond.methodLink RX7 43 yX7_familyParts]
def wsX10_share : List Cond := .code yX10_share cX10_share 4 (some .long) :: ((wsX10_share_r1 ++ wsX10_share_r2) ++ wsX100 ++ wsX70)
def wsX10_size_r1 : List Cond := [Cond.fieldLink RX10 33 "LongestMet" "survey" "LLongestMet$Survey;", Cond.constantLong RX10 178 (840), Cond.methodLink RX10 72 yX10_outside, Cond.static yX10_outside, Cond.initialized RX10, Cond.code yX10_outside cX10_outside 3 (some .boolean), Cond.methodLink RX10 105 yX2_refused, Cond.static yX2_refused, Cond.initialized RX2, Cond.code yX2_refused cX2_refused 1 (some .long), Cond.constantLong RX2 11 (-9223372036854775808), Cond.methodLink RX10 175 yX7_childrenSaid, Cond.instanceMethod yX7_childrenSaid, Cond.selects RX7 yX7_childrenSaid yX7_childrenSaid, Cond.initialized RX7, Cond.code yX7_childrenSaid cX7_childrenSaid 3 (some .int), Cond.methodLink RX7 39 yX7_saying, Cond.instanceMethod yX7_saying, Cond.selects RX7 yX7_saying yX7_saying, Cond.code yX7_saying cX7_saying 4 (some .int), Cond.fieldLink RX7 21 "LongestMet$Survey" "told" "I", Cond.fieldLink RX7 11 "LongestMet$Survey" "answers" "[I", Cond.methodLink RX7 35 yX7_counts, Cond.instanceMethod yX7_counts]
def wsX10_size_r2 : List Cond := [Cond.selects RX7 yX7_counts yX7_counts, Cond.code yX7_counts cX7_counts 2 (some .boolean), Cond.fieldLink RX7 15 "LongestMet$Survey" "toldAt" "[I", Cond.fieldLink RX7 28 "LongestMet$Survey" "seenFrom" "I", Cond.fieldLink RX7 18 "LongestMet$Survey" "backAt" "[I", Cond.methodLink RX10 166 yX7_counting, Cond.instanceMethod yX7_counting, Cond.selects RX7 yX7_counting yX7_counting, Cond.code yX7_counting cX7_counting 3 (some .int), Cond.methodLink RX10 114 yX2_told, Cond.static yX2_told, Cond.code yX2_told cX2_told 7 (some .long), Cond.methodLink RX2 13 yX2_commonOf, Cond.static yX2_commonOf, Cond.code yX2_commonOf cX2_commonOf 11 (some .long), Cond.methodLink RX2 19 yX2_refused, Cond.methodLink RX10 172 yX7_allFamilyParts, Cond.instanceMethod yX7_allFamilyParts, Cond.selects RX7 yX7_allFamilyParts yX7_allFamilyParts, Cond.code yX7_allFamilyParts cX7_allFamilyParts 3 (some .int), Cond.methodLink RX7 43 yX7_familyParts, Cond.instanceMethod yX7_familyParts, Cond.selects RX7 yX7_familyParts yX7_familyParts, Cond.code yX7_familyParts cX7_familyParts 2 (some .int)]
def wsX10_size : List Cond := .code yX10_size cX10_size 3 (some .long) :: ((wsX10_size_r1 ++ wsX10_size_r2) ++ wsX100 ++ wsX70)
def wsX10_families : List Cond := .code yX10_families cX10_families 4 (some .int) :: ([.fieldLink RX10 40 "LongestMet" "country" "LLongestMet$Country;", .methodLink RX10 72 yX10_outside, .static yX10_outside, .initialized RX10, .code yX10_outside cX10_outside 3 (some .boolean), .methodLink RX10 180 yX1_setFamilies, .instanceMethod yX1_setFamilies, .selects RX1 yX1_setFamilies yX1_setFamilies, .initialized RX1, .code yX1_setFamilies cX1_setFamilies 5 (some .int), .fieldLink RX1 11 "LongestMet$Country" "alike" "[[I"] ++ wsX100 ++ wsX10)
def wsX10_chance_r1 : List Cond := [Cond.fieldLink RX10 33 "LongestMet" "survey" "LLongestMet$Survey;", Cond.fieldLink RX10 40 "LongestMet" "country" "LLongestMet$Country;", Cond.methodLink RX10 72 yX10_outside, Cond.static yX10_outside, Cond.initialized RX10, Cond.code yX10_outside cX10_outside 3 (some .boolean), Cond.methodLink RX10 105 yX2_refused, Cond.static yX2_refused, Cond.initialized RX2, Cond.code yX2_refused cX2_refused 1 (some .long), Cond.constantLong RX2 11 (-9223372036854775808), Cond.methodLink RX10 166 yX7_counting, Cond.instanceMethod yX7_counting, Cond.selects RX7 yX7_counting yX7_counting, Cond.initialized RX7, Cond.code yX7_counting cX7_counting 3 (some .int), Cond.fieldLink RX7 21 "LongestMet$Survey" "told" "I", Cond.methodLink RX7 35 yX7_counts, Cond.instanceMethod yX7_counts, Cond.selects RX7 yX7_counts yX7_counts, Cond.code yX7_counts cX7_counts 2 (some .boolean), Cond.fieldLink RX7 15 "LongestMet$Survey" "toldAt" "[I", Cond.fieldLink RX7 28 "LongestMet$Survey" "seenFrom" "I", Cond.fieldLink RX7 18 "LongestMet$Survey" "backAt" "[I"]
def wsX10_chance_r2 : List Cond := [Cond.methodLink RX10 184 yX1_hasFewer, Cond.instanceMethod yX1_hasFewer, Cond.selects RX1 yX1_hasFewer yX1_hasFewer, Cond.initialized RX1, Cond.code yX1_hasFewer cX1_hasFewer 3 (some .boolean), Cond.methodLink RX1 16 yX1_childrenOf, Cond.instanceMethod yX1_childrenOf, Cond.selects RX1 yX1_childrenOf yX1_childrenOf, Cond.code yX1_childrenOf cX1_childrenOf 4 (some .int), Cond.fieldLink RX1 11 "LongestMet$Country" "alike" "[[I", Cond.methodLink RX1 20 yX7_counting, Cond.methodLink RX10 188 yX1_choicesThatFit, Cond.instanceMethod yX1_choicesThatFit, Cond.selects RX1 yX1_choicesThatFit yX1_choicesThatFit, Cond.code yX1_choicesThatFit cX1_choicesThatFit 6 (some .long), Cond.methodLink RX1 30 yX7_saying, Cond.instanceMethod yX7_saying, Cond.selects RX7 yX7_saying yX7_saying, Cond.code yX7_saying cX7_saying 4 (some .int), Cond.fieldLink RX7 11 "LongestMet$Survey" "answers" "[I", Cond.methodLink RX1 26 yX1_choose, Cond.static yX1_choose, Cond.code yX1_choose cX1_choose 5 (some .long), Cond.methodLink RX10 192 yX1_choices]
def wsX10_chance_r3 : List Cond := [Cond.instanceMethod yX1_choices, Cond.selects RX1 yX1_choices yX1_choices, Cond.code yX1_choices cX1_choices 3 (some .long), Cond.methodLink RX10 114 yX2_told, Cond.static yX2_told, Cond.code yX2_told cX2_told 7 (some .long), Cond.methodLink RX2 13 yX2_commonOf, Cond.static yX2_commonOf, Cond.code yX2_commonOf cX2_commonOf 11 (some .long), Cond.methodLink RX2 19 yX2_refused]
def wsX10_chance : List Cond := .code yX10_chance cX10_chance 3 (some .long) :: ((wsX10_chance_r1 ++ (wsX10_chance_r2 ++ wsX10_chance_r3)) ++ wsX100 ++ wsX70 ++ wsX10)
def wsX10_likeliest_r1 : List Cond := [Cond.fieldLink RX10 33 "LongestMet" "survey" "LLongestMet$Survey;", Cond.fieldLink RX10 40 "LongestMet" "country" "LLongestMet$Country;", Cond.methodLink RX10 166 yX7_counting, Cond.instanceMethod yX7_counting, Cond.selects RX7 yX7_counting yX7_counting, Cond.initialized RX7, Cond.code yX7_counting cX7_counting 3 (some .int), Cond.fieldLink RX7 21 "LongestMet$Survey" "told" "I", Cond.methodLink RX7 35 yX7_counts, Cond.instanceMethod yX7_counts, Cond.selects RX7 yX7_counts yX7_counts, Cond.code yX7_counts cX7_counts 2 (some .boolean), Cond.fieldLink RX7 15 "LongestMet$Survey" "toldAt" "[I", Cond.fieldLink RX7 28 "LongestMet$Survey" "seenFrom" "I", Cond.fieldLink RX7 18 "LongestMet$Survey" "backAt" "[I", Cond.methodLink RX10 195 yX1_likeliestTown, Cond.instanceMethod yX1_likeliestTown, Cond.selects RX1 yX1_likeliestTown yX1_likeliestTown, Cond.initialized RX1, Cond.code yX1_likeliestTown cX1_likeliestTown 12 (some .int), Cond.methodLink RX1 33 yX1_hasFewer, Cond.instanceMethod yX1_hasFewer, Cond.selects RX1 yX1_hasFewer yX1_hasFewer, Cond.code yX1_hasFewer cX1_hasFewer 3 (some .boolean)]
def wsX10_likeliest_r2 : List Cond := [Cond.methodLink RX1 16 yX1_childrenOf, Cond.instanceMethod yX1_childrenOf, Cond.selects RX1 yX1_childrenOf yX1_childrenOf, Cond.code yX1_childrenOf cX1_childrenOf 4 (some .int), Cond.fieldLink RX1 11 "LongestMet$Country" "alike" "[[I", Cond.methodLink RX1 20 yX7_counting, Cond.methodLink RX1 37 yX1_choicesThatFit, Cond.instanceMethod yX1_choicesThatFit, Cond.selects RX1 yX1_choicesThatFit yX1_choicesThatFit, Cond.code yX1_choicesThatFit cX1_choicesThatFit 6 (some .long), Cond.methodLink RX1 30 yX7_saying, Cond.instanceMethod yX7_saying, Cond.selects RX7 yX7_saying yX7_saying, Cond.code yX7_saying cX7_saying 4 (some .int), Cond.fieldLink RX7 11 "LongestMet$Survey" "answers" "[I", Cond.methodLink RX1 26 yX1_choose, Cond.static yX1_choose, Cond.code yX1_choose cX1_choose 5 (some .long), Cond.methodLink RX1 41 yX1_choices, Cond.instanceMethod yX1_choices, Cond.selects RX1 yX1_choices yX1_choices, Cond.code yX1_choices cX1_choices 3 (some .long), Cond.methodLink RX1 44 yX2_isMore, Cond.static yX2_isMore]
def wsX10_likeliest_r3 : List Cond := [Cond.initialized RX2, Cond.code yX2_isMore cX2_isMore 26 (some .boolean)]
def wsX10_likeliest : List Cond := .code yX10_likeliest cX10_likeliest 1 (some .int) :: ((wsX10_likeliest_r1 ++ (wsX10_likeliest_r2 ++ wsX10_likeliest_r3)) ++ wsX100 ++ wsX70 ++ wsX10)
def wsX10_cannotEnd : List Cond := .code yX10_cannotEnd cX10_cannotEnd 2 (some .boolean) :: ([.methodLink RX10 373 Lib.Math.min.name, .static Lib.Math.min.name, .initialized "java/lang/Math", .code Lib.Math.min.name Lib.Math.min.code 2 (some .int), .methodLink RX10 72 yX10_outside, .static yX10_outside, .initialized RX10, .code yX10_outside cX10_outside 3 (some .boolean)])
def wsX10_stay : List Cond := .code yX10_stay cX10_stay 3 (some .int) :: ([.fieldLink RX10 47 "LongestMet" "beds" "LLongestMet$Ward;", .methodLink RX10 72 yX10_outside, .static yX10_outside, .initialized RX10, .code yX10_outside cX10_outside 3 (some .boolean), .methodLink RX10 199 yX10_cannotEnd, .static yX10_cannotEnd, .code yX10_cannotEnd cX10_cannotEnd 2 (some .boolean), .methodLink RX10 373 Lib.Math.min.name, .static Lib.Math.min.name, .initialized "java/lang/Math", .code Lib.Math.min.name Lib.Math.min.code 2 (some .int), .methodLink RX10 203 yX9_admit, .instanceMethod yX9_admit, .selects RX9 yX9_admit yX9_admit, .initialized RX9, .code yX9_admit cX9_admit 3 (some .int), .fieldLink RX9 18 "LongestMet$Ward" "stays" "I", .fieldLink RX9 11 "LongestMet$Ward" "first" "[I", .fieldLink RX9 15 "LongestMet$Ward" "last" "[I"] ++ wsX100 ++ wsX90)
def wsX10_leaves_r1 : List Cond := [Cond.fieldLink RX10 47 "LongestMet" "beds" "LLongestMet$Ward;", Cond.methodLink RX10 206 yX9_staysTold, Cond.instanceMethod yX9_staysTold, Cond.selects RX9 yX9_staysTold yX9_staysTold, Cond.initialized RX9, Cond.code yX9_staysTold cX9_staysTold 1 (some .int), Cond.fieldLink RX9 18 "LongestMet$Ward" "stays" "I", Cond.methodLink RX10 72 yX10_outside, Cond.static yX10_outside, Cond.initialized RX10, Cond.code yX10_outside cX10_outside 3 (some .boolean), Cond.methodLink RX10 209 yX9_firstDay, Cond.instanceMethod yX9_firstDay, Cond.selects RX9 yX9_firstDay yX9_firstDay, Cond.code yX9_firstDay cX9_firstDay 2 (some .int), Cond.fieldLink RX9 11 "LongestMet$Ward" "first" "[I", Cond.methodLink RX10 199 yX10_cannotEnd, Cond.static yX10_cannotEnd, Cond.code yX10_cannotEnd cX10_cannotEnd 2 (some .boolean), Cond.methodLink RX10 373 Lib.Math.min.name, Cond.static Lib.Math.min.name, Cond.initialized "java/lang/Math", Cond.code Lib.Math.min.name Lib.Math.min.code 2 (some .int), Cond.methodLink RX10 212 yX9_endOn]
def wsX10_leaves_r2 : List Cond := [Cond.instanceMethod yX9_endOn, Cond.selects RX9 yX9_endOn yX9_endOn, Cond.code yX9_endOn cX9_endOn 4 (some .int), Cond.fieldLink RX9 15 "LongestMet$Ward" "last" "[I"]
def wsX10_leaves : List Cond := .code yX10_leaves cX10_leaves 3 (some .int) :: ((wsX10_leaves_r1 ++ wsX10_leaves_r2) ++ wsX100 ++ wsX90)
def wsX10_isNoSpan : List Cond := .code yX10_isNoSpan cX10_isNoSpan 2 (some .boolean) :: ([.methodLink RX10 72 yX10_outside, .static yX10_outside, .initialized RX10, .code yX10_outside cX10_outside 3 (some .boolean)])
def wsX10_ward_r1 : List Cond := [Cond.fieldLink RX10 47 "LongestMet" "beds" "LLongestMet$Ward;", Cond.methodLink RX10 215 yX10_isNoSpan, Cond.static yX10_isNoSpan, Cond.initialized RX10, Cond.code yX10_isNoSpan cX10_isNoSpan 2 (some .boolean), Cond.methodLink RX10 72 yX10_outside, Cond.static yX10_outside, Cond.code yX10_outside cX10_outside 3 (some .boolean), Cond.methodLink RX10 218 yX9_sum, Cond.instanceMethod yX9_sum, Cond.selects RX9 yX9_sum yX9_sum, Cond.initialized RX9, Cond.code yX9_sum cX9_sum 7 (some .long), Cond.fieldLink RX9 18 "LongestMet$Ward" "stays" "I", Cond.methodLink RX9 22 yX9_weight, Cond.instanceMethod yX9_weight, Cond.selects RX9 yX9_weight yX9_weight, Cond.code yX9_weight cX9_weight 8 (some .long), Cond.fieldLink RX9 15 "LongestMet$Ward" "last" "[I", Cond.fieldLink RX9 11 "LongestMet$Ward" "first" "[I", Cond.methodLink RX9 26 Lib.Math.min.name, Cond.static Lib.Math.min.name, Cond.initialized "java/lang/Math", Cond.code Lib.Math.min.name Lib.Math.min.code 2 (some .int)]
def wsX10_ward_r2 : List Cond := [Cond.methodLink RX9 32 Lib.Math.max.name, Cond.static Lib.Math.max.name, Cond.code Lib.Math.max.name Lib.Math.max.code 2 (some .int), Cond.constantLong RX9 35 (232792560)]
def wsX10_ward : List Cond := .code yX10_ward cX10_ward 4 (some .int) :: ((wsX10_ward_r1 ++ wsX10_ward_r2) ++ wsX100 ++ wsX90)
def wsX10_means_r1 : List Cond := [Cond.fieldLink RX10 47 "LongestMet" "beds" "LLongestMet$Ward;", Cond.methodLink RX10 215 yX10_isNoSpan, Cond.static yX10_isNoSpan, Cond.initialized RX10, Cond.code yX10_isNoSpan cX10_isNoSpan 2 (some .boolean), Cond.methodLink RX10 72 yX10_outside, Cond.static yX10_outside, Cond.code yX10_outside cX10_outside 3 (some .boolean), Cond.methodLink RX10 105 yX2_refused, Cond.static yX2_refused, Cond.initialized RX2, Cond.code yX2_refused cX2_refused 1 (some .long), Cond.constantLong RX2 11 (-9223372036854775808), Cond.methodLink RX10 222 yX9_above, Cond.instanceMethod yX9_above, Cond.selects RX9 yX9_above yX9_above, Cond.initialized RX9, Cond.code yX9_above cX9_above 4 (some .long), Cond.constantLong RX9 35 (232792560), Cond.methodLink RX9 37 yX9_sum, Cond.instanceMethod yX9_sum, Cond.selects RX9 yX9_sum yX9_sum, Cond.code yX9_sum cX9_sum 7 (some .long), Cond.fieldLink RX9 18 "LongestMet$Ward" "stays" "I"]
def wsX10_means_r2 : List Cond := [Cond.methodLink RX9 22 yX9_weight, Cond.instanceMethod yX9_weight, Cond.selects RX9 yX9_weight yX9_weight, Cond.code yX9_weight cX9_weight 8 (some .long), Cond.fieldLink RX9 15 "LongestMet$Ward" "last" "[I", Cond.fieldLink RX9 11 "LongestMet$Ward" "first" "[I", Cond.methodLink RX9 26 Lib.Math.min.name, Cond.static Lib.Math.min.name, Cond.initialized "java/lang/Math", Cond.code Lib.Math.min.name Lib.Math.min.code 2 (some .int), Cond.methodLink RX9 32 Lib.Math.max.name, Cond.static Lib.Math.max.name, Cond.code Lib.Math.max.name Lib.Math.max.code 2 (some .int), Cond.methodLink RX10 225 yX9_below, Cond.instanceMethod yX9_below, Cond.selects RX9 yX9_below yX9_below, Cond.code yX9_below cX9_below 4 (some .long), Cond.methodLink RX10 114 yX2_told, Cond.static yX2_told, Cond.code yX2_told cX2_told 7 (some .long), Cond.methodLink RX2 13 yX2_commonOf, Cond.static yX2_commonOf, Cond.code yX2_commonOf cX2_commonOf 11 (some .long), Cond.methodLink RX2 19 yX2_refused]
def wsX10_means : List Cond := .code yX10_means cX10_means 5 (some .long) :: ((wsX10_means_r1 ++ wsX10_means_r2) ++ wsX100 ++ wsX90)
def wsX10_fullest_r1 : List Cond := [Cond.fieldLink RX10 47 "LongestMet" "beds" "LLongestMet$Ward;", Cond.methodLink RX10 72 yX10_outside, Cond.static yX10_outside, Cond.initialized RX10, Cond.code yX10_outside cX10_outside 3 (some .boolean), Cond.methodLink RX10 228 yX9_mostApart, Cond.instanceMethod yX9_mostApart, Cond.selects RX9 yX9_mostApart yX9_mostApart, Cond.initialized RX9, Cond.code yX9_mostApart cX9_mostApart 5 (some .int), Cond.methodLink RX9 45 yX9_firstEnd, Cond.instanceMethod yX9_firstEnd, Cond.selects RX9 yX9_firstEnd yX9_firstEnd, Cond.code yX9_firstEnd cX9_firstEnd 4 (some .int), Cond.fieldLink RX9 18 "LongestMet$Ward" "stays" "I", Cond.fieldLink RX9 11 "LongestMet$Ward" "first" "[I", Cond.fieldLink RX9 15 "LongestMet$Ward" "last" "[I", Cond.methodLink RX10 231 yX9_fullestDay, Cond.instanceMethod yX9_fullestDay, Cond.selects RX9 yX9_fullestDay yX9_fullestDay, Cond.code yX9_fullestDay cX9_fullestDay 5 (some .int), Cond.methodLink RX9 41 yX9_lyingOn, Cond.instanceMethod yX9_lyingOn, Cond.selects RX9 yX9_lyingOn yX9_lyingOn]
def wsX10_fullest_r2 : List Cond := [Cond.code yX9_lyingOn cX9_lyingOn 2 (some .int), Cond.methodLink RX9 37 yX9_sum, Cond.instanceMethod yX9_sum, Cond.selects RX9 yX9_sum yX9_sum, Cond.code yX9_sum cX9_sum 7 (some .long), Cond.methodLink RX9 22 yX9_weight, Cond.instanceMethod yX9_weight, Cond.selects RX9 yX9_weight yX9_weight, Cond.code yX9_weight cX9_weight 8 (some .long), Cond.methodLink RX9 26 Lib.Math.min.name, Cond.static Lib.Math.min.name, Cond.initialized "java/lang/Math", Cond.code Lib.Math.min.name Lib.Math.min.code 2 (some .int), Cond.methodLink RX9 32 Lib.Math.max.name, Cond.static Lib.Math.max.name, Cond.code Lib.Math.max.name Lib.Math.max.code 2 (some .int), Cond.constantLong RX9 35 (232792560), Cond.methodLink RX10 234 yX9_lyingOn]
def wsX10_fullest : List Cond := .code yX10_fullest cX10_fullest 3 (some .int) :: ((wsX10_fullest_r1 ++ wsX10_fullest_r2) ++ wsX100 ++ wsX90)
def wsX10_friends : List Cond := .code yX10_friends cX10_friends 4 (some .int) :: ([.fieldLink RX10 54 "LongestMet" "circle" "LLongestMet$Circle;", .methodLink RX10 72 yX10_outside, .static yX10_outside, .initialized RX10, .code yX10_outside cX10_outside 3 (some .boolean), .methodLink RX10 237 yX0_setFriends, .instanceMethod yX0_setFriends, .selects RX0 yX0_setFriends yX0_setFriends, .initialized RX0, .code yX0_setFriends cX0_setFriends 5 (some .int), .fieldLink RX0 11 "LongestMet$Circle" "hers" "[I"] ++ wsX100 ++ wsX00)
def wsX10_mean_r1 : List Cond := [Cond.fieldLink RX10 54 "LongestMet" "circle" "LLongestMet$Circle;", Cond.constantLong RX10 243 (8), Cond.constantLong RX10 251 (3360), Cond.methodLink RX10 72 yX10_outside, Cond.static yX10_outside, Cond.initialized RX10, Cond.code yX10_outside cX10_outside 3 (some .boolean), Cond.methodLink RX10 105 yX2_refused, Cond.static yX2_refused, Cond.initialized RX2, Cond.code yX2_refused cX2_refused 1 (some .long), Cond.constantLong RX2 11 (-9223372036854775808), Cond.methodLink RX10 240 yX0_tellings, Cond.instanceMethod yX0_tellings, Cond.selects RX0 yX0_tellings yX0_tellings, Cond.initialized RX0, Cond.code yX0_tellings cX0_tellings 3 (some .int), Cond.methodLink RX0 15 yX0_friendsOf, Cond.instanceMethod yX0_friendsOf, Cond.selects RX0 yX0_friendsOf yX0_friendsOf, Cond.code yX0_friendsOf cX0_friendsOf 2 (some .int), Cond.fieldLink RX0 11 "LongestMet$Circle" "hers" "[I", Cond.methodLink RX0 29 yJ6_bitCount_0f7a4, Cond.static yJ6_bitCount_0f7a4]
def wsX10_mean_r2 : List Cond := [Cond.initialized RJ6, Cond.code yJ6_bitCount_0f7a4 cJ6_bitCount_0f7a4 1 (some .int), Cond.constant RJ6 265 (1431655765), Cond.constant RJ6 266 (858993459), Cond.constant RJ6 267 (252645135), Cond.methodLink RX10 114 yX2_told, Cond.static yX2_told, Cond.code yX2_told cX2_told 7 (some .long), Cond.methodLink RX2 13 yX2_commonOf, Cond.static yX2_commonOf, Cond.code yX2_commonOf cX2_commonOf 11 (some .long), Cond.methodLink RX2 19 yX2_refused, Cond.methodLink RX10 245 yX0_friendsOfFriends, Cond.instanceMethod yX0_friendsOfFriends, Cond.selects RX0 yX0_friendsOfFriends yX0_friendsOfFriends, Cond.code yX0_friendsOfFriends cX0_friendsOfFriends 3 (some .int), Cond.methodLink RX0 19 yX0_friendsOfHers, Cond.instanceMethod yX0_friendsOfHers, Cond.selects RX0 yX0_friendsOfHers yX0_friendsOfHers, Cond.code yX0_friendsOfHers cX0_friendsOfHers 4 (some .int), Cond.methodLink RX0 25 yX0_isFriend, Cond.instanceMethod yX0_isFriend, Cond.selects RX0 yX0_isFriend yX0_isFriend, Cond.code yX0_isFriend cX0_isFriend 3 (some .boolean)]
def wsX10_mean_r3 : List Cond := [Cond.methodLink RX10 248 yX0_friendsOfPicked, Cond.instanceMethod yX0_friendsOfPicked, Cond.selects RX0 yX0_friendsOfPicked yX0_friendsOfPicked, Cond.code yX0_friendsOfPicked cX0_friendsOfPicked 3 (some .int), Cond.methodLink RX0 22 yX0_pickedParts, Cond.instanceMethod yX0_pickedParts, Cond.selects RX0 yX0_pickedParts yX0_pickedParts, Cond.code yX0_pickedParts cX0_pickedParts 4 (some .int)]
def wsX10_mean : List Cond := .code yX10_mean cX10_mean 3 (some .long) :: ((wsX10_mean_r1 ++ (wsX10_mean_r2 ++ wsX10_mean_r3)) ++ wsX100 ++ wsX00)
def wsX10_fewer_r1 : List Cond := [Cond.fieldLink RX10 54 "LongestMet" "circle" "LLongestMet$Circle;", Cond.methodLink RX10 253 yX0_withFewer, Cond.instanceMethod yX0_withFewer, Cond.selects RX0 yX0_withFewer yX0_withFewer, Cond.initialized RX0, Cond.code yX0_withFewer cX0_withFewer 3 (some .int), Cond.methodLink RX0 15 yX0_friendsOf, Cond.instanceMethod yX0_friendsOf, Cond.selects RX0 yX0_friendsOf yX0_friendsOf, Cond.code yX0_friendsOf cX0_friendsOf 2 (some .int), Cond.fieldLink RX0 11 "LongestMet$Circle" "hers" "[I", Cond.methodLink RX0 29 yJ6_bitCount_0f7a4, Cond.static yJ6_bitCount_0f7a4, Cond.initialized RJ6, Cond.code yJ6_bitCount_0f7a4 cJ6_bitCount_0f7a4 1 (some .int), Cond.constant RJ6 265 (1431655765), Cond.constant RJ6 266 (858993459), Cond.constant RJ6 267 (252645135), Cond.methodLink RX0 19 yX0_friendsOfHers, Cond.instanceMethod yX0_friendsOfHers, Cond.selects RX0 yX0_friendsOfHers yX0_friendsOfHers, Cond.code yX0_friendsOfHers cX0_friendsOfHers 4 (some .int), Cond.methodLink RX0 25 yX0_isFriend, Cond.instanceMethod yX0_isFriend]
def wsX10_fewer_r2 : List Cond := [Cond.selects RX0 yX0_isFriend yX0_isFriend, Cond.code yX0_isFriend cX0_isFriend 3 (some .boolean)]
def wsX10_fewer : List Cond := .code yX10_fewer cX10_fewer 1 (some .int) :: ((wsX10_fewer_r1 ++ wsX10_fewer_r2) ++ wsX100 ++ wsX00)
def wsX10_picked_r1 : List Cond := [Cond.fieldLink RX10 54 "LongestMet" "circle" "LLongestMet$Circle;", Cond.constantLong RX10 251 (3360), Cond.methodLink RX10 72 yX10_outside, Cond.static yX10_outside, Cond.initialized RX10, Cond.code yX10_outside cX10_outside 3 (some .boolean), Cond.methodLink RX10 105 yX2_refused, Cond.static yX2_refused, Cond.initialized RX2, Cond.code yX2_refused cX2_refused 1 (some .long), Cond.constantLong RX2 11 (-9223372036854775808), Cond.methodLink RX10 256 yX0_pickedParts, Cond.instanceMethod yX0_pickedParts, Cond.selects RX0 yX0_pickedParts yX0_pickedParts, Cond.initialized RX0, Cond.code yX0_pickedParts cX0_pickedParts 4 (some .int), Cond.methodLink RX0 15 yX0_friendsOf, Cond.instanceMethod yX0_friendsOf, Cond.selects RX0 yX0_friendsOf yX0_friendsOf, Cond.code yX0_friendsOf cX0_friendsOf 2 (some .int), Cond.fieldLink RX0 11 "LongestMet$Circle" "hers" "[I", Cond.methodLink RX0 29 yJ6_bitCount_0f7a4, Cond.static yJ6_bitCount_0f7a4, Cond.initialized RJ6]
def wsX10_picked_r2 : List Cond := [Cond.code yJ6_bitCount_0f7a4 cJ6_bitCount_0f7a4 1 (some .int), Cond.constant RJ6 265 (1431655765), Cond.constant RJ6 266 (858993459), Cond.constant RJ6 267 (252645135), Cond.methodLink RX0 25 yX0_isFriend, Cond.instanceMethod yX0_isFriend, Cond.selects RX0 yX0_isFriend yX0_isFriend, Cond.code yX0_isFriend cX0_isFriend 3 (some .boolean), Cond.methodLink RX10 114 yX2_told, Cond.static yX2_told, Cond.code yX2_told cX2_told 7 (some .long), Cond.methodLink RX2 13 yX2_commonOf, Cond.static yX2_commonOf, Cond.code yX2_commonOf cX2_commonOf 11 (some .long), Cond.methodLink RX2 19 yX2_refused]
def wsX10_picked : List Cond := .code yX10_picked cX10_picked 3 (some .long) :: ((wsX10_picked_r1 ++ wsX10_picked_r2) ++ wsX100 ++ wsX00)
def wsX10_best_r1 : List Cond := [Cond.fieldLink RX10 54 "LongestMet" "circle" "LLongestMet$Circle;", Cond.methodLink RX10 72 yX10_outside, Cond.static yX10_outside, Cond.initialized RX10, Cond.code yX10_outside cX10_outside 3 (some .boolean), Cond.methodLink RX10 259 yX0_bestGroup, Cond.instanceMethod yX0_bestGroup, Cond.selects RX0 yX0_bestGroup yX0_bestGroup, Cond.initialized RX0, Cond.code yX0_bestGroup cX0_bestGroup 5 (some .int), Cond.methodLink RX0 29 yJ6_bitCount_0f7a4, Cond.static yJ6_bitCount_0f7a4, Cond.initialized RJ6, Cond.code yJ6_bitCount_0f7a4 cJ6_bitCount_0f7a4 1 (some .int), Cond.constant RJ6 265 (1431655765), Cond.constant RJ6 266 (858993459), Cond.constant RJ6 267 (252645135), Cond.methodLink RX0 34 yX0_friendshipsOf, Cond.instanceMethod yX0_friendshipsOf, Cond.selects RX0 yX0_friendshipsOf yX0_friendshipsOf, Cond.code yX0_friendshipsOf cX0_friendshipsOf 4 (some .int), Cond.fieldLink RX0 11 "LongestMet$Circle" "hers" "[I", Cond.methodLink RX0 15 yX0_friendsOf, Cond.instanceMethod yX0_friendsOf]
def wsX10_best_r2 : List Cond := [Cond.selects RX0 yX0_friendsOf yX0_friendsOf, Cond.code yX0_friendsOf cX0_friendsOf 2 (some .int), Cond.methodLink RX10 262 yX0_friendshipsOf]
def wsX10_best : List Cond := .code yX10_best cX10_best 4 (some .int) :: ((wsX10_best_r1 ++ wsX10_best_r2) ++ wsX100 ++ wsX00)
def wsX10_piece : List Cond := .code yX10_piece cX10_piece 2 (some .int) :: ([.fieldLink RX10 61 "LongestMet" "rod" "LLongestMet$Rod;", .methodLink RX10 72 yX10_outside, .static yX10_outside, .initialized RX10, .code yX10_outside cX10_outside 3 (some .boolean), .methodLink RX10 265 yX4_lengthen, .instanceMethod yX4_lengthen, .selects RX4 yX4_lengthen yX4_lengthen, .initialized RX4, .code yX4_lengthen cX4_lengthen 2 (some .int), .fieldLink RX4 15 "LongestMet$Rod" "pieces" "I", .fieldLink RX4 11 "LongestMet$Rod" "lengths" "[I"] ++ wsX100 ++ wsX40)
def wsX10_snap : List Cond := .code yX10_snap cX10_snap 1 (some .int) :: ([.fieldLink RX10 61 "LongestMet" "rod" "LLongestMet$Rod;", .methodLink RX10 268 yX4_clear, .instanceMethod yX4_clear, .selects RX4 yX4_clear yX4_clear, .initialized RX4, .code yX4_clear cX4_clear 2 (some .int), .fieldLink RX4 15 "LongestMet$Rod" "pieces" "I"] ++ wsX100 ++ wsX40)
def wsX10_hit_r1 : List Cond := [Cond.fieldLink RX10 61 "LongestMet" "rod" "LLongestMet$Rod;", Cond.methodLink RX10 271 yX4_piecesTold, Cond.instanceMethod yX4_piecesTold, Cond.selects RX4 yX4_piecesTold yX4_piecesTold, Cond.initialized RX4, Cond.code yX4_piecesTold cX4_piecesTold 1 (some .int), Cond.fieldLink RX4 15 "LongestMet$Rod" "pieces" "I", Cond.methodLink RX10 72 yX10_outside, Cond.static yX10_outside, Cond.initialized RX10, Cond.code yX10_outside cX10_outside 3 (some .boolean), Cond.methodLink RX10 105 yX2_refused, Cond.static yX2_refused, Cond.initialized RX2, Cond.code yX2_refused cX2_refused 1 (some .long), Cond.constantLong RX2 11 (-9223372036854775808), Cond.methodLink RX10 274 yX4_waysToHit, Cond.instanceMethod yX4_waysToHit, Cond.selects RX4 yX4_waysToHit yX4_waysToHit, Cond.code yX4_waysToHit cX4_waysToHit 3 (some .long), Cond.fieldLink RX4 11 "LongestMet$Rod" "lengths" "[I", Cond.methodLink RX4 27 yX4_ways, Cond.instanceMethod yX4_ways, Cond.selects RX4 yX4_ways yX4_ways]
def wsX10_hit_r2 : List Cond := [Cond.code yX4_ways cX4_ways 2 (some .long), Cond.methodLink RX4 19 yX4_lengthInAll, Cond.instanceMethod yX4_lengthInAll, Cond.selects RX4 yX4_lengthInAll yX4_lengthInAll, Cond.code yX4_lengthInAll cX4_lengthInAll 3 (some .int), Cond.methodLink RX4 23 yX4_power, Cond.static yX4_power, Cond.code yX4_power cX4_power 6 (some .long), Cond.methodLink RX10 278 yX4_ways, Cond.methodLink RX10 114 yX2_told, Cond.static yX2_told, Cond.code yX2_told cX2_told 7 (some .long), Cond.methodLink RX2 13 yX2_commonOf, Cond.static yX2_commonOf, Cond.code yX2_commonOf cX2_commonOf 11 (some .long), Cond.methodLink RX2 19 yX2_refused]
def wsX10_hit : List Cond := .code yX10_hit cX10_hit 4 (some .long) :: ((wsX10_hit_r1 ++ wsX10_hit_r2) ++ wsX100 ++ wsX40)
def wsX10_stick_r1 : List Cond := [Cond.fieldLink RX10 61 "LongestMet" "rod" "LLongestMet$Rod;", Cond.methodLink RX10 72 yX10_outside, Cond.static yX10_outside, Cond.initialized RX10, Cond.code yX10_outside cX10_outside 3 (some .boolean), Cond.methodLink RX10 105 yX2_refused, Cond.static yX2_refused, Cond.initialized RX2, Cond.code yX2_refused cX2_refused 1 (some .long), Cond.constantLong RX2 11 (-9223372036854775808), Cond.methodLink RX10 281 yX4_squares, Cond.instanceMethod yX4_squares, Cond.selects RX4 yX4_squares yX4_squares, Cond.initialized RX4, Cond.code yX4_squares cX4_squares 3 (some .int), Cond.fieldLink RX4 15 "LongestMet$Rod" "pieces" "I", Cond.fieldLink RX4 11 "LongestMet$Rod" "lengths" "[I", Cond.methodLink RX10 284 yX4_lengthInAll, Cond.instanceMethod yX4_lengthInAll, Cond.selects RX4 yX4_lengthInAll yX4_lengthInAll, Cond.code yX4_lengthInAll cX4_lengthInAll 3 (some .int), Cond.methodLink RX10 114 yX2_told, Cond.static yX2_told, Cond.code yX2_told cX2_told 7 (some .long)]
def wsX10_stick_r2 : List Cond := [Cond.methodLink RX2 13 yX2_commonOf, Cond.static yX2_commonOf, Cond.code yX2_commonOf cX2_commonOf 11 (some .long), Cond.methodLink RX2 19 yX2_refused, Cond.methodLink RX10 287 yX4_allWaysToHit, Cond.instanceMethod yX4_allWaysToHit, Cond.selects RX4 yX4_allWaysToHit yX4_allWaysToHit, Cond.code yX4_allWaysToHit cX4_allWaysToHit 5 (some .long), Cond.methodLink RX4 31 yX4_waysToHit, Cond.instanceMethod yX4_waysToHit, Cond.selects RX4 yX4_waysToHit yX4_waysToHit, Cond.code yX4_waysToHit cX4_waysToHit 3 (some .long), Cond.methodLink RX4 27 yX4_ways, Cond.instanceMethod yX4_ways, Cond.selects RX4 yX4_ways yX4_ways, Cond.code yX4_ways cX4_ways 2 (some .long), Cond.methodLink RX4 19 yX4_lengthInAll, Cond.methodLink RX4 23 yX4_power, Cond.static yX4_power, Cond.code yX4_power cX4_power 6 (some .long), Cond.methodLink RX10 278 yX4_ways, Cond.methodLink RX10 290 yX4_waysToHitAll, Cond.instanceMethod yX4_waysToHitAll, Cond.selects RX4 yX4_waysToHitAll yX4_waysToHitAll]
def wsX10_stick_r3 : List Cond := [Cond.code yX4_waysToHitAll cX4_waysToHitAll 7 (some .long), Cond.methodLink RX4 35 yX4_lengthWithout, Cond.instanceMethod yX4_lengthWithout, Cond.selects RX4 yX4_lengthWithout yX4_lengthWithout, Cond.code yX4_lengthWithout cX4_lengthWithout 4 (some .int), Cond.methodLink RX4 39 yJ6_bitCount_0f7a4, Cond.static yJ6_bitCount_0f7a4, Cond.initialized RJ6, Cond.code yJ6_bitCount_0f7a4 cJ6_bitCount_0f7a4 1 (some .int), Cond.constant RJ6 265 (1431655765), Cond.constant RJ6 266 (858993459), Cond.constant RJ6 267 (252645135)]
def wsX10_stick : List Cond := .code yX10_stick cX10_stick 4 (some .long) :: ((wsX10_stick_r1 ++ (wsX10_stick_r2 ++ wsX10_stick_r3)) ++ wsX100 ++ wsX40)
def wsX10_sheet : List Cond := .code yX10_sheet cX10_sheet 4 (some .int) :: ([.fieldLink RX10 68 "LongestMet" "sheets" "LLongestMet$Sheets;", .methodLink RX10 72 yX10_outside, .static yX10_outside, .initialized RX10, .code yX10_outside cX10_outside 3 (some .boolean), .methodLink RX10 138 yX5_finding, .instanceMethod yX5_finding, .selects RX5 yX5_finding yX5_finding, .initialized RX5, .code yX5_finding cX5_finding 2 (some .int), .fieldLink RX5 23 "LongestMet$Sheets" "latest" "I", .methodLink RX10 293 yX5_renew, .instanceMethod yX5_renew, .selects RX5 yX5_renew yX5_renew, .code yX5_renew cX5_renew 5 none, .fieldLink RX5 16 "LongestMet$Sheets" "forms" "[I", .fieldLink RX5 20 "LongestMet$Sheets" "sizes" "[I", .fieldLink RX5 11 "LongestMet$Sheets" "rows" "[[I"] ++ wsX100 ++ wsX50)
def wsX10_lose : List Cond := .code yX10_lose cX10_lose 2 (some .int) :: ([.fieldLink RX10 68 "LongestMet" "sheets" "LLongestMet$Sheets;", .methodLink RX10 72 yX10_outside, .static yX10_outside, .initialized RX10, .code yX10_outside cX10_outside 3 (some .boolean), .methodLink RX10 135 yX5_isLost, .instanceMethod yX5_isLost, .selects RX5 yX5_isLost yX5_isLost, .initialized RX5, .code yX5_isLost cX5_isLost 2 (some .boolean), .fieldLink RX5 20 "LongestMet$Sheets" "sizes" "[I", .methodLink RX10 138 yX5_finding, .instanceMethod yX5_finding, .selects RX5 yX5_finding yX5_finding, .code yX5_finding cX5_finding 2 (some .int), .fieldLink RX5 23 "LongestMet$Sheets" "latest" "I", .methodLink RX10 297 yX5_drop, .instanceMethod yX5_drop, .selects RX5 yX5_drop yX5_drop, .code yX5_drop cX5_drop 3 (some .int)] ++ wsX100 ++ wsX50)
def wsX10_put_r1 : List Cond := [Cond.fieldLink RX10 68 "LongestMet" "sheets" "LLongestMet$Sheets;", Cond.methodLink RX10 72 yX10_outside, Cond.static yX10_outside, Cond.initialized RX10, Cond.code yX10_outside cX10_outside 3 (some .boolean), Cond.methodLink RX10 300 yX5_faultOf, Cond.instanceMethod yX5_faultOf, Cond.selects RX5 yX5_faultOf yX5_faultOf, Cond.initialized RX5, Cond.code yX5_faultOf cX5_faultOf 4 (some .int), Cond.fieldLink RX5 16 "LongestMet$Sheets" "forms" "[I", Cond.fieldLink RX5 20 "LongestMet$Sheets" "sizes" "[I", Cond.methodLink RX5 27 yX5_isLost, Cond.instanceMethod yX5_isLost, Cond.selects RX5 yX5_isLost yX5_isLost, Cond.code yX5_isLost cX5_isLost 2 (some .boolean), Cond.methodLink RX10 138 yX5_finding, Cond.instanceMethod yX5_finding, Cond.selects RX5 yX5_finding yX5_finding, Cond.code yX5_finding cX5_finding 2 (some .int), Cond.fieldLink RX5 23 "LongestMet$Sheets" "latest" "I", Cond.methodLink RX10 303 yX5_setItem, Cond.instanceMethod yX5_setItem, Cond.selects RX5 yX5_setItem yX5_setItem]
def wsX10_put_r2 : List Cond := [Cond.code yX5_setItem cX5_setItem 4 none, Cond.fieldLink RX5 11 "LongestMet$Sheets" "rows" "[[I"]
def wsX10_put : List Cond := .code yX10_put cX10_put 6 (some .int) :: ((wsX10_put_r1 ++ wsX10_put_r2) ++ wsX100 ++ wsX50)
def wsX10_get_r1 : List Cond := [Cond.constant RX10 308 (-2147483648), Cond.fieldLink RX10 68 "LongestMet" "sheets" "LLongestMet$Sheets;", Cond.methodLink RX10 72 yX10_outside, Cond.static yX10_outside, Cond.initialized RX10, Cond.code yX10_outside cX10_outside 3 (some .boolean), Cond.methodLink RX10 300 yX5_faultOf, Cond.instanceMethod yX5_faultOf, Cond.selects RX5 yX5_faultOf yX5_faultOf, Cond.initialized RX5, Cond.code yX5_faultOf cX5_faultOf 4 (some .int), Cond.fieldLink RX5 16 "LongestMet$Sheets" "forms" "[I", Cond.fieldLink RX5 20 "LongestMet$Sheets" "sizes" "[I", Cond.methodLink RX5 27 yX5_isLost, Cond.instanceMethod yX5_isLost, Cond.selects RX5 yX5_isLost yX5_isLost, Cond.code yX5_isLost cX5_isLost 2 (some .boolean), Cond.methodLink RX10 138 yX5_finding, Cond.instanceMethod yX5_finding, Cond.selects RX5 yX5_finding yX5_finding, Cond.code yX5_finding cX5_finding 2 (some .int), Cond.fieldLink RX5 23 "LongestMet$Sheets" "latest" "I", Cond.methodLink RX10 144 yX5_itemAt, Cond.instanceMethod yX5_itemAt]
def wsX10_get_r2 : List Cond := [Cond.selects RX5 yX5_itemAt yX5_itemAt, Cond.code yX5_itemAt cX5_itemAt 3 (some .int), Cond.fieldLink RX5 11 "LongestMet$Sheets" "rows" "[[I"]
def wsX10_get : List Cond := .code yX10_get cX10_get 5 (some .int) :: ((wsX10_get_r1 ++ wsX10_get_r2) ++ wsX100 ++ wsX50)
def wsX10_copy_r1 : List Cond := [Cond.fieldLink RX10 68 "LongestMet" "sheets" "LLongestMet$Sheets;", Cond.methodLink RX10 72 yX10_outside, Cond.static yX10_outside, Cond.initialized RX10, Cond.code yX10_outside cX10_outside 3 (some .boolean), Cond.methodLink RX10 135 yX5_isLost, Cond.instanceMethod yX5_isLost, Cond.selects RX5 yX5_isLost yX5_isLost, Cond.initialized RX5, Cond.code yX5_isLost cX5_isLost 2 (some .boolean), Cond.fieldLink RX5 20 "LongestMet$Sheets" "sizes" "[I", Cond.methodLink RX10 138 yX5_finding, Cond.instanceMethod yX5_finding, Cond.selects RX5 yX5_finding yX5_finding, Cond.code yX5_finding cX5_finding 2 (some .int), Cond.fieldLink RX5 23 "LongestMet$Sheets" "latest" "I", Cond.methodLink RX10 309 yX5_areUnlike, Cond.instanceMethod yX5_areUnlike, Cond.selects RX5 yX5_areUnlike yX5_areUnlike, Cond.code yX5_areUnlike cX5_areUnlike 3 (some .boolean), Cond.fieldLink RX5 16 "LongestMet$Sheets" "forms" "[I", Cond.methodLink RX10 312 yX5_hasNotSoMany, Cond.instanceMethod yX5_hasNotSoMany, Cond.selects RX5 yX5_hasNotSoMany yX5_hasNotSoMany]
def wsX10_copy_r2 : List Cond := [Cond.code yX5_hasNotSoMany cX5_hasNotSoMany 4 (some .boolean), Cond.methodLink RX10 315 yX5_move, Cond.instanceMethod yX5_move, Cond.selects RX5 yX5_move yX5_move, Cond.code yX5_move cX5_move 6 none, Cond.fieldLink RX5 11 "LongestMet$Sheets" "rows" "[[I", Cond.methodLink RX5 35 arraycopyName, Cond.native arraycopyName, Cond.static arraycopyName, Cond.initialized "java/lang/System"]
def wsX10_copy : List Cond := .code yX10_copy cX10_copy 6 (some .int) :: ((wsX10_copy_r1 ++ wsX10_copy_r2) ++ wsX100 ++ wsX50)
def wsX10_write_r1 : List Cond := [Cond.fieldLink RX10 68 "LongestMet" "sheets" "LLongestMet$Sheets;", Cond.fieldLink RX10 19 "LongestMet" "stop" "LLongestMet$Stop;", Cond.methodLink RX10 72 yX10_outside, Cond.static yX10_outside, Cond.initialized RX10, Cond.code yX10_outside cX10_outside 3 (some .boolean), Cond.methodLink RX10 135 yX5_isLost, Cond.instanceMethod yX5_isLost, Cond.selects RX5 yX5_isLost yX5_isLost, Cond.initialized RX5, Cond.code yX5_isLost cX5_isLost 2 (some .boolean), Cond.fieldLink RX5 20 "LongestMet$Sheets" "sizes" "[I", Cond.methodLink RX10 138 yX5_finding, Cond.instanceMethod yX5_finding, Cond.selects RX5 yX5_finding yX5_finding, Cond.code yX5_finding cX5_finding 2 (some .int), Cond.fieldLink RX5 23 "LongestMet$Sheets" "latest" "I", Cond.methodLink RX10 95 yX6_busesOf, Cond.instanceMethod yX6_busesOf, Cond.selects RX6 yX6_busesOf yX6_busesOf, Cond.initialized RX6, Cond.code yX6_busesOf cX6_busesOf 2 (some .int), Cond.methodLink RX6 15 yX6_minutesOf, Cond.instanceMethod yX6_minutesOf]
def wsX10_write_r2 : List Cond := [Cond.selects RX6 yX6_minutesOf yX6_minutesOf, Cond.code yX6_minutesOf cX6_minutesOf 2 (some .long), Cond.fieldLink RX6 9 "LongestMet$Stop" "lines" "[J", Cond.methodLink RX6 19 yJ13_bitCount_95d88, Cond.static yJ13_bitCount_95d88, Cond.initialized RJ13, Cond.code yJ13_bitCount_95d88 cJ13_bitCount_95d88 2 (some .int), Cond.constantLong RJ13 314 (6148914691236517205), Cond.constantLong RJ13 316 (3689348814741910323), Cond.constantLong RJ13 318 (1085102592571150095), Cond.methodLink RX10 141 yX5_itemsOf, Cond.instanceMethod yX5_itemsOf, Cond.selects RX5 yX5_itemsOf yX5_itemsOf, Cond.code yX5_itemsOf cX5_itemsOf 2 (some .int), Cond.methodLink RX10 98 yX6_waitAt, Cond.instanceMethod yX6_waitAt, Cond.selects RX6 yX6_waitAt yX6_waitAt, Cond.code yX6_waitAt cX6_waitAt 6 (some .int), Cond.methodLink RX6 25 yX6_isIn, Cond.static yX6_isIn, Cond.code yX6_isIn cX6_isIn 3 (some .boolean), Cond.methodLink RX10 303 yX5_setItem, Cond.instanceMethod yX5_setItem, Cond.selects RX5 yX5_setItem yX5_setItem]
def wsX10_write_r3 : List Cond := [Cond.code yX5_setItem cX5_setItem 4 none, Cond.fieldLink RX5 11 "LongestMet$Sheets" "rows" "[[I", Cond.fieldLink RX5 16 "LongestMet$Sheets" "forms" "[I"]
def wsX10_write : List Cond := .code yX10_write cX10_write 5 (some .int) :: ((wsX10_write_r1 ++ (wsX10_write_r2 ++ wsX10_write_r3)) ++ wsX100 ++ wsX50 ++ wsX60)
def wsX10_count_r1 : List Cond := [Cond.fieldLink RX10 19 "LongestMet" "stop" "LLongestMet$Stop;", Cond.fieldLink RX10 10 "LongestMet" "text" "LLongestMet$Text;", Cond.fieldLink RX10 33 "LongestMet" "survey" "LLongestMet$Survey;", Cond.fieldLink RX10 47 "LongestMet" "beds" "LLongestMet$Ward;", Cond.fieldLink RX10 54 "LongestMet" "circle" "LLongestMet$Circle;", Cond.fieldLink RX10 61 "LongestMet" "rod" "LLongestMet$Rod;", Cond.fieldLink RX10 68 "LongestMet" "sheets" "LLongestMet$Sheets;", Cond.methodLink RX10 95 yX6_busesOf, Cond.instanceMethod yX6_busesOf, Cond.selects RX6 yX6_busesOf yX6_busesOf, Cond.initialized RX6, Cond.code yX6_busesOf cX6_busesOf 2 (some .int), Cond.methodLink RX6 15 yX6_minutesOf, Cond.instanceMethod yX6_minutesOf, Cond.selects RX6 yX6_minutesOf yX6_minutesOf, Cond.code yX6_minutesOf cX6_minutesOf 2 (some .long), Cond.fieldLink RX6 9 "LongestMet$Stop" "lines" "[J", Cond.methodLink RX6 19 yJ13_bitCount_95d88, Cond.static yJ13_bitCount_95d88, Cond.initialized RJ13, Cond.code yJ13_bitCount_95d88 cJ13_bitCount_95d88 2 (some .int), Cond.constantLong RJ13 314 (6148914691236517205), Cond.constantLong RJ13 316 (3689348814741910323), Cond.constantLong RJ13 318 (1085102592571150095)]
def wsX10_count_r2 : List Cond := [Cond.methodLink RX10 319 yX8_bytesTyped, Cond.instanceMethod yX8_bytesTyped, Cond.selects RX8 yX8_bytesTyped yX8_bytesTyped, Cond.initialized RX8, Cond.code yX8_bytesTyped cX8_bytesTyped 1 (some .int), Cond.fieldLink RX8 15 "LongestMet$Text" "length" "I", Cond.methodLink RX10 150 yX7_answersTold, Cond.instanceMethod yX7_answersTold, Cond.selects RX7 yX7_answersTold yX7_answersTold, Cond.initialized RX7, Cond.code yX7_answersTold cX7_answersTold 1 (some .int), Cond.fieldLink RX7 21 "LongestMet$Survey" "told" "I", Cond.methodLink RX10 166 yX7_counting, Cond.instanceMethod yX7_counting, Cond.selects RX7 yX7_counting yX7_counting, Cond.code yX7_counting cX7_counting 3 (some .int), Cond.methodLink RX7 35 yX7_counts, Cond.instanceMethod yX7_counts, Cond.selects RX7 yX7_counts yX7_counts, Cond.code yX7_counts cX7_counts 2 (some .boolean), Cond.fieldLink RX7 15 "LongestMet$Survey" "toldAt" "[I", Cond.fieldLink RX7 28 "LongestMet$Survey" "seenFrom" "I", Cond.fieldLink RX7 18 "LongestMet$Survey" "backAt" "[I", Cond.methodLink RX10 206 yX9_staysTold]
def wsX10_count_r3 : List Cond := [Cond.instanceMethod yX9_staysTold, Cond.selects RX9 yX9_staysTold yX9_staysTold, Cond.initialized RX9, Cond.code yX9_staysTold cX9_staysTold 1 (some .int), Cond.fieldLink RX9 18 "LongestMet$Ward" "stays" "I", Cond.methodLink RX10 240 yX0_tellings, Cond.instanceMethod yX0_tellings, Cond.selects RX0 yX0_tellings yX0_tellings, Cond.initialized RX0, Cond.code yX0_tellings cX0_tellings 3 (some .int), Cond.methodLink RX0 15 yX0_friendsOf, Cond.instanceMethod yX0_friendsOf, Cond.selects RX0 yX0_friendsOf yX0_friendsOf, Cond.code yX0_friendsOf cX0_friendsOf 2 (some .int), Cond.fieldLink RX0 11 "LongestMet$Circle" "hers" "[I", Cond.methodLink RX0 29 yJ6_bitCount_0f7a4, Cond.static yJ6_bitCount_0f7a4, Cond.initialized RJ6, Cond.code yJ6_bitCount_0f7a4 cJ6_bitCount_0f7a4 1 (some .int), Cond.constant RJ6 265 (1431655765), Cond.constant RJ6 266 (858993459), Cond.constant RJ6 267 (252645135), Cond.methodLink RX10 284 yX4_lengthInAll, Cond.instanceMethod yX4_lengthInAll]
def wsX10_count_r4 : List Cond := [Cond.selects RX4 yX4_lengthInAll yX4_lengthInAll, Cond.initialized RX4, Cond.code yX4_lengthInAll cX4_lengthInAll 3 (some .int), Cond.fieldLink RX4 15 "LongestMet$Rod" "pieces" "I", Cond.fieldLink RX4 11 "LongestMet$Rod" "lengths" "[I", Cond.methodLink RX10 322 yX5_latestFinding, Cond.instanceMethod yX5_latestFinding, Cond.selects RX5 yX5_latestFinding yX5_latestFinding, Cond.initialized RX5, Cond.code yX5_latestFinding cX5_latestFinding 1 (some .int), Cond.fieldLink RX5 23 "LongestMet$Sheets" "latest" "I"]
def wsX10_count : List Cond := .code yX10_count cX10_count 2 (some .int) :: ((wsX10_count_r1 ++ (wsX10_count_r2 ++ (wsX10_count_r3 ++ wsX10_count_r4))) ++ wsX100 ++ wsX60 ++ wsX80 ++ wsX70 ++ wsX90 ++ wsX00 ++ wsX40 ++ wsX50)
def wsX10_behind : List Cond := .code yX10_behind cX10_behind 4 (some .long) :: ([.constantLong RX10 371 (31)])
def wsX10_digest_r1 : List Cond := [Cond.constantLong RX10 325 (17), Cond.methodLink RX10 327 yX10_count, Cond.instanceMethod yX10_count, Cond.selects RX10 yX10_count yX10_count, Cond.initialized RX10, Cond.code yX10_count cX10_count 2 (some .int), Cond.fieldLink RX10 19 "LongestMet" "stop" "LLongestMet$Stop;", Cond.fieldLink RX10 10 "LongestMet" "text" "LLongestMet$Text;", Cond.fieldLink RX10 33 "LongestMet" "survey" "LLongestMet$Survey;", Cond.fieldLink RX10 47 "LongestMet" "beds" "LLongestMet$Ward;", Cond.fieldLink RX10 54 "LongestMet" "circle" "LLongestMet$Circle;", Cond.fieldLink RX10 61 "LongestMet" "rod" "LLongestMet$Rod;", Cond.fieldLink RX10 68 "LongestMet" "sheets" "LLongestMet$Sheets;", Cond.methodLink RX10 95 yX6_busesOf, Cond.instanceMethod yX6_busesOf, Cond.selects RX6 yX6_busesOf yX6_busesOf, Cond.initialized RX6, Cond.code yX6_busesOf cX6_busesOf 2 (some .int), Cond.methodLink RX6 15 yX6_minutesOf, Cond.instanceMethod yX6_minutesOf, Cond.selects RX6 yX6_minutesOf yX6_minutesOf, Cond.code yX6_minutesOf cX6_minutesOf 2 (some .long), Cond.fieldLink RX6 9 "LongestMet$Stop" "lines" "[J", Cond.methodLink RX6 19 yJ13_bitCount_95d88]
def wsX10_digest_r2 : List Cond := [Cond.static yJ13_bitCount_95d88, Cond.initialized RJ13, Cond.code yJ13_bitCount_95d88 cJ13_bitCount_95d88 2 (some .int), Cond.constantLong RJ13 314 (6148914691236517205), Cond.constantLong RJ13 316 (3689348814741910323), Cond.constantLong RJ13 318 (1085102592571150095), Cond.methodLink RX10 319 yX8_bytesTyped, Cond.instanceMethod yX8_bytesTyped, Cond.selects RX8 yX8_bytesTyped yX8_bytesTyped, Cond.initialized RX8, Cond.code yX8_bytesTyped cX8_bytesTyped 1 (some .int), Cond.fieldLink RX8 15 "LongestMet$Text" "length" "I", Cond.methodLink RX10 150 yX7_answersTold, Cond.instanceMethod yX7_answersTold, Cond.selects RX7 yX7_answersTold yX7_answersTold, Cond.initialized RX7, Cond.code yX7_answersTold cX7_answersTold 1 (some .int), Cond.fieldLink RX7 21 "LongestMet$Survey" "told" "I", Cond.methodLink RX10 166 yX7_counting, Cond.instanceMethod yX7_counting, Cond.selects RX7 yX7_counting yX7_counting, Cond.code yX7_counting cX7_counting 3 (some .int), Cond.methodLink RX7 35 yX7_counts, Cond.instanceMethod yX7_counts]
def wsX10_digest_r3 : List Cond := [Cond.selects RX7 yX7_counts yX7_counts, Cond.code yX7_counts cX7_counts 2 (some .boolean), Cond.fieldLink RX7 15 "LongestMet$Survey" "toldAt" "[I", Cond.fieldLink RX7 28 "LongestMet$Survey" "seenFrom" "I", Cond.fieldLink RX7 18 "LongestMet$Survey" "backAt" "[I", Cond.methodLink RX10 206 yX9_staysTold, Cond.instanceMethod yX9_staysTold, Cond.selects RX9 yX9_staysTold yX9_staysTold, Cond.initialized RX9, Cond.code yX9_staysTold cX9_staysTold 1 (some .int), Cond.fieldLink RX9 18 "LongestMet$Ward" "stays" "I", Cond.methodLink RX10 240 yX0_tellings, Cond.instanceMethod yX0_tellings, Cond.selects RX0 yX0_tellings yX0_tellings, Cond.initialized RX0, Cond.code yX0_tellings cX0_tellings 3 (some .int), Cond.methodLink RX0 15 yX0_friendsOf, Cond.instanceMethod yX0_friendsOf, Cond.selects RX0 yX0_friendsOf yX0_friendsOf, Cond.code yX0_friendsOf cX0_friendsOf 2 (some .int), Cond.fieldLink RX0 11 "LongestMet$Circle" "hers" "[I", Cond.methodLink RX0 29 yJ6_bitCount_0f7a4, Cond.static yJ6_bitCount_0f7a4, Cond.initialized RJ6]
def wsX10_digest_r4 : List Cond := [Cond.code yJ6_bitCount_0f7a4 cJ6_bitCount_0f7a4 1 (some .int), Cond.constant RJ6 265 (1431655765), Cond.constant RJ6 266 (858993459), Cond.constant RJ6 267 (252645135), Cond.methodLink RX10 284 yX4_lengthInAll, Cond.instanceMethod yX4_lengthInAll, Cond.selects RX4 yX4_lengthInAll yX4_lengthInAll, Cond.initialized RX4, Cond.code yX4_lengthInAll cX4_lengthInAll 3 (some .int), Cond.fieldLink RX4 15 "LongestMet$Rod" "pieces" "I", Cond.fieldLink RX4 11 "LongestMet$Rod" "lengths" "[I", Cond.methodLink RX10 322 yX5_latestFinding, Cond.instanceMethod yX5_latestFinding, Cond.selects RX5 yX5_latestFinding yX5_latestFinding, Cond.initialized RX5, Cond.code yX5_latestFinding cX5_latestFinding 1 (some .int), Cond.fieldLink RX5 23 "LongestMet$Sheets" "latest" "I", Cond.methodLink RX10 330 yX10_behind, Cond.static yX10_behind, Cond.code yX10_behind cX10_behind 4 (some .long), Cond.constantLong RX10 371 (31), Cond.methodLink RX10 334 yX10_fault, Cond.instanceMethod yX10_fault, Cond.selects RX10 yX10_fault yX10_fault]
def wsX10_digest_r5 : List Cond := [Cond.code yX10_fault cX10_fault 1 (some .int), Cond.methodLink RX10 84 yX8_scan, Cond.instanceMethod yX8_scan, Cond.selects RX8 yX8_scan yX8_scan, Cond.code yX8_scan cX8_scan 3 (some .int), Cond.fieldLink RX8 19 "LongestMet$Text" "place" "I", Cond.fieldLink RX8 22 "LongestMet$Text" "minutes" "J", Cond.methodLink RX8 26 yX8_scanPart, Cond.instanceMethod yX8_scanPart, Cond.selects RX8 yX8_scanPart yX8_scanPart, Cond.code yX8_scanPart cX8_scanPart 5 (some .int), Cond.methodLink RX8 33 yX8_scanNumber, Cond.instanceMethod yX8_scanNumber, Cond.selects RX8 yX8_scanNumber yX8_scanNumber, Cond.code yX8_scanNumber cX8_scanNumber 3 (some .int), Cond.methodLink RX8 40 Lib.Math.max.name, Cond.static Lib.Math.max.name, Cond.initialized "java/lang/Math", Cond.code Lib.Math.max.name Lib.Math.max.code 2 (some .int), Cond.methodLink RX8 30 yX8_ahead, Cond.instanceMethod yX8_ahead, Cond.selects RX8 yX8_ahead yX8_ahead, Cond.code yX8_ahead cX8_ahead 1 (some .int), Cond.fieldLink RX8 11 "LongestMet$Text" "bytes" "[I"]
def wsX10_digest_r6 : List Cond := [Cond.static yX10_outside, Cond.code yX10_outside cX10_outside 3 (some .boolean), Cond.methodLink RX10 337 yX10_gaps, Cond.instanceMethod yX10_gaps, Cond.selects RX10 yX10_gaps yX10_gaps, Cond.code yX10_gaps cX10_gaps 5 (some .long), Cond.methodLink RX10 72 yX10_outside, Cond.methodLink RX10 105 yX2_refused, Cond.static yX2_refused, Cond.initialized RX2, Cond.code yX2_refused cX2_refused 1 (some .long), Cond.constantLong RX2 11 (-9223372036854775808), Cond.methodLink RX10 111 yX6_sumOfGaps, Cond.instanceMethod yX6_sumOfGaps, Cond.selects RX6 yX6_sumOfGaps yX6_sumOfGaps, Cond.code yX6_sumOfGaps cX6_sumOfGaps 7 (some .int), Cond.methodLink RX6 25 yX6_isIn, Cond.static yX6_isIn, Cond.code yX6_isIn cX6_isIn 3 (some .boolean), Cond.methodLink RX6 29 yX6_gapBehind, Cond.instanceMethod yX6_gapBehind, Cond.selects RX6 yX6_gapBehind yX6_gapBehind, Cond.code yX6_gapBehind cX6_gapBehind 3 (some .int), Cond.methodLink RX6 40 yX6_waitAt]
def wsX10_digest_r7 : List Cond := [Cond.instanceMethod yX6_waitAt, Cond.selects RX6 yX6_waitAt yX6_waitAt, Cond.code yX6_waitAt cX6_waitAt 6 (some .int), Cond.methodLink RX6 33 yX6_weightOf, Cond.static yX6_weightOf, Cond.code yX6_weightOf cX6_weightOf 2 (some .int), Cond.methodLink RX6 36 yX6_waitsIn, Cond.static yX6_waitsIn, Cond.code yX6_waitsIn cX6_waitsIn 1 (some .int), Cond.methodLink RX10 114 yX2_told, Cond.static yX2_told, Cond.code yX2_told cX2_told 7 (some .long), Cond.methodLink RX2 13 yX2_commonOf, Cond.static yX2_commonOf, Cond.code yX2_commonOf cX2_commonOf 11 (some .long), Cond.methodLink RX2 19 yX2_refused, Cond.methodLink RX10 340 yX10_held, Cond.instanceMethod yX10_held, Cond.selects RX10 yX10_held yX10_held, Cond.code yX10_held cX10_held 6 (some .int), Cond.fieldLink RX10 26 "LongestMet" "holding" "LLongestMet$Holding;", Cond.methodLink RX10 118 yX6_minutesOf, Cond.methodLink RX10 121 yX3_settle, Cond.instanceMethod yX3_settle]
def wsX10_digest_r8 : List Cond := [Cond.selects RX3 yX3_settle yX3_settle, Cond.initialized RX3, Cond.code yX3_settle cX3_settle 8 (some .int), Cond.fieldLink RX3 27 "LongestMet$Holding" "latest" "I", Cond.constant RX3 34 (1000000), Cond.methodLink RX3 30 yX3_takeBuses, Cond.instanceMethod yX3_takeBuses, Cond.selects RX3 yX3_takeBuses yX3_takeBuses, Cond.code yX3_takeBuses cX3_takeBuses 4 none, Cond.fieldLink RX3 23 "LongestMet$Holding" "buses" "I", Cond.fieldLink RX3 11 "LongestMet$Holding" "goes" "[I", Cond.methodLink RX3 43 yX6_isIn, Cond.methodLink RX3 35 yX3_leastWithFirst, Cond.instanceMethod yX3_leastWithFirst, Cond.selects RX3 yX3_leastWithFirst yX3_leastWithFirst, Cond.code yX3_leastWithFirst cX3_leastWithFirst 5 (some .int), Cond.fieldLink RX3 20 "LongestMet$Holding" "onward" "[[I", Cond.methodLink RX3 49 yX3_leastOnward, Cond.instanceMethod yX3_leastOnward, Cond.selects RX3 yX3_leastOnward yX3_leastOnward, Cond.code yX3_leastOnward cX3_leastOnward 7 (some .int), Cond.methodLink RX3 59 Lib.Math.min.name, Cond.static Lib.Math.min.name, Cond.code Lib.Math.min.name Lib.Math.min.code 2 (some .int)]
def wsX10_digest_r9 : List Cond := [Cond.methodLink RX3 53 yX6_waitsIn, Cond.methodLink RX3 56 yX3_through, Cond.instanceMethod yX3_through, Cond.selects RX3 yX3_through yX3_through, Cond.code yX3_through cX3_through 5 (some .int), Cond.methodLink RX3 39 yX3_chooseLater, Cond.instanceMethod yX3_chooseLater, Cond.selects RX3 yX3_chooseLater yX3_chooseLater, Cond.code yX3_chooseLater cX3_chooseLater 4 none, Cond.fieldLink RX3 15 "LongestMet$Holding" "later" "[I", Cond.methodLink RX3 65 yX3_leastLater, Cond.instanceMethod yX3_leastLater, Cond.selects RX3 yX3_leastLater yX3_leastLater, Cond.code yX3_leastLater cX3_leastLater 5 (some .int), Cond.methodLink RX10 125 yX3_laterOf, Cond.instanceMethod yX3_laterOf, Cond.selects RX3 yX3_laterOf yX3_laterOf, Cond.code yX3_laterOf cX3_laterOf 2 (some .int), Cond.methodLink RX10 343 yX10_size, Cond.instanceMethod yX10_size, Cond.selects RX10 yX10_size yX10_size, Cond.code yX10_size cX10_size 3 (some .long), Cond.constantLong RX10 178 (840), Cond.methodLink RX10 175 yX7_childrenSaid]
def wsX10_digest_r10 : List Cond := [Cond.instanceMethod yX7_childrenSaid, Cond.selects RX7 yX7_childrenSaid yX7_childrenSaid, Cond.code yX7_childrenSaid cX7_childrenSaid 3 (some .int), Cond.methodLink RX7 39 yX7_saying, Cond.instanceMethod yX7_saying, Cond.selects RX7 yX7_saying yX7_saying, Cond.code yX7_saying cX7_saying 4 (some .int), Cond.fieldLink RX7 11 "LongestMet$Survey" "answers" "[I", Cond.methodLink RX10 172 yX7_allFamilyParts, Cond.instanceMethod yX7_allFamilyParts, Cond.selects RX7 yX7_allFamilyParts yX7_allFamilyParts, Cond.code yX7_allFamilyParts cX7_allFamilyParts 3 (some .int), Cond.methodLink RX7 43 yX7_familyParts, Cond.instanceMethod yX7_familyParts, Cond.selects RX7 yX7_familyParts yX7_familyParts, Cond.code yX7_familyParts cX7_familyParts 2 (some .int), Cond.methodLink RX10 346 yX10_likeliest, Cond.instanceMethod yX10_likeliest, Cond.selects RX10 yX10_likeliest yX10_likeliest, Cond.code yX10_likeliest cX10_likeliest 1 (some .int), Cond.fieldLink RX10 40 "LongestMet" "country" "LLongestMet$Country;", Cond.methodLink RX10 195 yX1_likeliestTown, Cond.instanceMethod yX1_likeliestTown, Cond.selects RX1 yX1_likeliestTown yX1_likeliestTown]
def wsX10_digest_r11 : List Cond := [Cond.initialized RX1, Cond.code yX1_likeliestTown cX1_likeliestTown 12 (some .int), Cond.methodLink RX1 33 yX1_hasFewer, Cond.instanceMethod yX1_hasFewer, Cond.selects RX1 yX1_hasFewer yX1_hasFewer, Cond.code yX1_hasFewer cX1_hasFewer 3 (some .boolean), Cond.methodLink RX1 16 yX1_childrenOf, Cond.instanceMethod yX1_childrenOf, Cond.selects RX1 yX1_childrenOf yX1_childrenOf, Cond.code yX1_childrenOf cX1_childrenOf 4 (some .int), Cond.fieldLink RX1 11 "LongestMet$Country" "alike" "[[I", Cond.methodLink RX1 20 yX7_counting, Cond.methodLink RX1 37 yX1_choicesThatFit, Cond.instanceMethod yX1_choicesThatFit, Cond.selects RX1 yX1_choicesThatFit yX1_choicesThatFit, Cond.code yX1_choicesThatFit cX1_choicesThatFit 6 (some .long), Cond.methodLink RX1 30 yX7_saying, Cond.methodLink RX1 26 yX1_choose, Cond.static yX1_choose, Cond.code yX1_choose cX1_choose 5 (some .long), Cond.methodLink RX1 41 yX1_choices, Cond.instanceMethod yX1_choices, Cond.selects RX1 yX1_choices yX1_choices, Cond.code yX1_choices cX1_choices 3 (some .long)]
def wsX10_digest_r12 : List Cond := [Cond.methodLink RX1 44 yX2_isMore, Cond.static yX2_isMore, Cond.code yX2_isMore cX2_isMore 26 (some .boolean), Cond.methodLink RX10 349 yX10_ward, Cond.instanceMethod yX10_ward, Cond.selects RX10 yX10_ward yX10_ward, Cond.code yX10_ward cX10_ward 4 (some .int), Cond.methodLink RX10 215 yX10_isNoSpan, Cond.static yX10_isNoSpan, Cond.code yX10_isNoSpan cX10_isNoSpan 2 (some .boolean), Cond.methodLink RX10 218 yX9_sum, Cond.instanceMethod yX9_sum, Cond.selects RX9 yX9_sum yX9_sum, Cond.code yX9_sum cX9_sum 7 (some .long), Cond.methodLink RX9 22 yX9_weight, Cond.instanceMethod yX9_weight, Cond.selects RX9 yX9_weight yX9_weight, Cond.code yX9_weight cX9_weight 8 (some .long), Cond.fieldLink RX9 15 "LongestMet$Ward" "last" "[I", Cond.fieldLink RX9 11 "LongestMet$Ward" "first" "[I", Cond.methodLink RX9 26 Lib.Math.min.name, Cond.methodLink RX9 32 Lib.Math.max.name, Cond.constantLong RX9 35 (232792560), Cond.methodLink RX10 352 yX10_means]
def wsX10_digest_r13 : List Cond := [Cond.instanceMethod yX10_means, Cond.selects RX10 yX10_means yX10_means, Cond.code yX10_means cX10_means 5 (some .long), Cond.methodLink RX10 222 yX9_above, Cond.instanceMethod yX9_above, Cond.selects RX9 yX9_above yX9_above, Cond.code yX9_above cX9_above 4 (some .long), Cond.methodLink RX9 37 yX9_sum, Cond.methodLink RX10 225 yX9_below, Cond.instanceMethod yX9_below, Cond.selects RX9 yX9_below yX9_below, Cond.code yX9_below cX9_below 4 (some .long), Cond.methodLink RX10 356 yX10_fullest, Cond.instanceMethod yX10_fullest, Cond.selects RX10 yX10_fullest yX10_fullest, Cond.code yX10_fullest cX10_fullest 3 (some .int), Cond.methodLink RX10 228 yX9_mostApart, Cond.instanceMethod yX9_mostApart, Cond.selects RX9 yX9_mostApart yX9_mostApart, Cond.code yX9_mostApart cX9_mostApart 5 (some .int), Cond.methodLink RX9 45 yX9_firstEnd, Cond.instanceMethod yX9_firstEnd, Cond.selects RX9 yX9_firstEnd yX9_firstEnd, Cond.code yX9_firstEnd cX9_firstEnd 4 (some .int)]
def wsX10_digest_r14 : List Cond := [Cond.methodLink RX10 231 yX9_fullestDay, Cond.instanceMethod yX9_fullestDay, Cond.selects RX9 yX9_fullestDay yX9_fullestDay, Cond.code yX9_fullestDay cX9_fullestDay 5 (some .int), Cond.methodLink RX9 41 yX9_lyingOn, Cond.instanceMethod yX9_lyingOn, Cond.selects RX9 yX9_lyingOn yX9_lyingOn, Cond.code yX9_lyingOn cX9_lyingOn 2 (some .int), Cond.methodLink RX10 234 yX9_lyingOn, Cond.methodLink RX10 359 yX10_mean, Cond.instanceMethod yX10_mean, Cond.selects RX10 yX10_mean yX10_mean, Cond.code yX10_mean cX10_mean 3 (some .long), Cond.constantLong RX10 243 (8), Cond.constantLong RX10 251 (3360), Cond.methodLink RX10 245 yX0_friendsOfFriends, Cond.instanceMethod yX0_friendsOfFriends, Cond.selects RX0 yX0_friendsOfFriends yX0_friendsOfFriends, Cond.code yX0_friendsOfFriends cX0_friendsOfFriends 3 (some .int), Cond.methodLink RX0 19 yX0_friendsOfHers, Cond.instanceMethod yX0_friendsOfHers, Cond.selects RX0 yX0_friendsOfHers yX0_friendsOfHers, Cond.code yX0_friendsOfHers cX0_friendsOfHers 4 (some .int), Cond.methodLink RX0 25 yX0_isFriend]
def wsX10_digest_r15 : List Cond := [Cond.instanceMethod yX0_isFriend, Cond.selects RX0 yX0_isFriend yX0_isFriend, Cond.code yX0_isFriend cX0_isFriend 3 (some .boolean), Cond.methodLink RX10 248 yX0_friendsOfPicked, Cond.instanceMethod yX0_friendsOfPicked, Cond.selects RX0 yX0_friendsOfPicked yX0_friendsOfPicked, Cond.code yX0_friendsOfPicked cX0_friendsOfPicked 3 (some .int), Cond.methodLink RX0 22 yX0_pickedParts, Cond.instanceMethod yX0_pickedParts, Cond.selects RX0 yX0_pickedParts yX0_pickedParts, Cond.code yX0_pickedParts cX0_pickedParts 4 (some .int), Cond.methodLink RX10 362 yX10_fewer, Cond.instanceMethod yX10_fewer, Cond.selects RX10 yX10_fewer yX10_fewer, Cond.code yX10_fewer cX10_fewer 1 (some .int), Cond.methodLink RX10 253 yX0_withFewer, Cond.instanceMethod yX0_withFewer, Cond.selects RX0 yX0_withFewer yX0_withFewer, Cond.code yX0_withFewer cX0_withFewer 3 (some .int), Cond.methodLink RX10 365 yX10_best, Cond.instanceMethod yX10_best, Cond.selects RX10 yX10_best yX10_best, Cond.code yX10_best cX10_best 4 (some .int), Cond.methodLink RX10 259 yX0_bestGroup]
def wsX10_digest_r16 : List Cond := [Cond.instanceMethod yX0_bestGroup, Cond.selects RX0 yX0_bestGroup yX0_bestGroup, Cond.code yX0_bestGroup cX0_bestGroup 5 (some .int), Cond.methodLink RX0 34 yX0_friendshipsOf, Cond.instanceMethod yX0_friendshipsOf, Cond.selects RX0 yX0_friendshipsOf yX0_friendshipsOf, Cond.code yX0_friendshipsOf cX0_friendshipsOf 4 (some .int), Cond.methodLink RX10 262 yX0_friendshipsOf, Cond.methodLink RX10 368 yX10_stick, Cond.instanceMethod yX10_stick, Cond.selects RX10 yX10_stick yX10_stick, Cond.code yX10_stick cX10_stick 4 (some .long), Cond.methodLink RX10 281 yX4_squares, Cond.instanceMethod yX4_squares, Cond.selects RX4 yX4_squares yX4_squares, Cond.code yX4_squares cX4_squares 3 (some .int), Cond.methodLink RX10 287 yX4_allWaysToHit, Cond.instanceMethod yX4_allWaysToHit, Cond.selects RX4 yX4_allWaysToHit yX4_allWaysToHit, Cond.code yX4_allWaysToHit cX4_allWaysToHit 5 (some .long), Cond.methodLink RX4 31 yX4_waysToHit, Cond.instanceMethod yX4_waysToHit, Cond.selects RX4 yX4_waysToHit yX4_waysToHit, Cond.code yX4_waysToHit cX4_waysToHit 3 (some .long)]
def wsX10_digest_r17 : List Cond := [Cond.methodLink RX4 27 yX4_ways, Cond.instanceMethod yX4_ways, Cond.selects RX4 yX4_ways yX4_ways, Cond.code yX4_ways cX4_ways 2 (some .long), Cond.methodLink RX4 19 yX4_lengthInAll, Cond.methodLink RX4 23 yX4_power, Cond.static yX4_power, Cond.code yX4_power cX4_power 6 (some .long), Cond.methodLink RX10 278 yX4_ways, Cond.methodLink RX10 290 yX4_waysToHitAll, Cond.instanceMethod yX4_waysToHitAll, Cond.selects RX4 yX4_waysToHitAll yX4_waysToHitAll, Cond.code yX4_waysToHitAll cX4_waysToHitAll 7 (some .long), Cond.methodLink RX4 35 yX4_lengthWithout, Cond.instanceMethod yX4_lengthWithout, Cond.selects RX4 yX4_lengthWithout yX4_lengthWithout, Cond.code yX4_lengthWithout cX4_lengthWithout 4 (some .int), Cond.methodLink RX4 39 yJ6_bitCount_0f7a4]
def wsX10_digest : List Cond := .code yX10_digest cX10_digest 6 (some .long) :: ((wsX10_digest_r1 ++ (wsX10_digest_r2 ++ (wsX10_digest_r3 ++ (wsX10_digest_r4 ++ (wsX10_digest_r5 ++ (wsX10_digest_r6 ++ (wsX10_digest_r7 ++ (wsX10_digest_r8 ++ (wsX10_digest_r9 ++ (wsX10_digest_r10 ++ (wsX10_digest_r11 ++ (wsX10_digest_r12 ++ (wsX10_digest_r13 ++ (wsX10_digest_r14 ++ (wsX10_digest_r15 ++ (wsX10_digest_r16 ++ wsX10_digest_r17)))))))))))))))) ++ wsX100 ++ wsX60 ++ wsX80 ++ wsX70 ++ wsX90 ++ wsX00 ++ wsX40 ++ wsX50 ++ wsX30 ++ wsX10)
def wsX11_init_r1 : List Cond := [Cond.methodLink RX11 1 objectInit, Cond.instanceMethod objectInit, Cond.code objectInit ⟨#[0xb1]⟩ 1 none, Cond.arrayClass .int, Cond.fieldLink RX11 7 "LongestMetModel" "text" "[I", Cond.fieldLink RX11 13 "LongestMetModel" "said60" "[I", Cond.fieldLink RX11 16 "LongestMetModel" "goes" "[I", Cond.fieldLink RX11 19 "LongestMetModel" "minutes" "[I", Cond.fieldLink RX11 22 "LongestMetModel" "least" "[I", Cond.fieldLink RX11 25 "LongestMetModel" "later" "[I", Cond.fieldLink RX11 28 "LongestMetModel" "answerOf" "[I", Cond.fieldLink RX11 31 "LongestMetModel" "answerTime" "[I", Cond.fieldLink RX11 34 "LongestMetModel" "answerBack" "[I", Cond.fieldLink RX11 37 "LongestMetModel" "knownTo" "I", Cond.fieldLink RX11 41 "LongestMetModel" "families" "[I", Cond.fieldLink RX11 44 "LongestMetModel" "fromDay" "[I", Cond.fieldLink RX11 47 "LongestMetModel" "toDay" "[I", Cond.fieldLink RX11 50 "LongestMetModel" "friendsOf" "[I", Cond.fieldLink RX11 53 "LongestMetModel" "lengths" "[I", Cond.arrayClass .boolean, Cond.fieldLink RX11 56 "LongestMetModel" "isThere" "[Z", Cond.fieldLink RX11 60 "LongestMetModel" "forms" "[I", Cond.fieldLink RX11 63 "LongestMetModel" "sizes" "[I", Cond.fieldLink RX11 66 "LongestMetModel" "items" "[I"]
def wsX11_init_r2 : List Cond := [Cond.fieldLink RX11 69 "LongestMetModel" "moved" "[I"]
def wsX11_init : List Cond := .code yX11_init cX11_init 1 none :: ((wsX11_init_r1 ++ wsX11_init_r2) ++ wsX110)
def wsX11_in : List Cond := .code yX11_in cX11_in 3 (some .boolean) :: ([])
def wsX11_has : List Cond := .code yX11_has cX11_has 2 (some .boolean) :: ([])
def wsX11_ones : List Cond := .code yX11_ones cX11_ones 3 (some .int) :: ([])
def wsX11_no : List Cond := .code yX11_no cX11_no 1 (some .long) :: ([.constantLong RX11 72 (-9223372036854775808)])
def wsX11_lowest : List Cond := .code yX11_lowest cX11_lowest 11 (some .long) :: ([])
def wsX11_way : List Cond := .code yX11_way cX11_way 23 (some .int) :: ([])
def wsX11_type : List Cond := .code yX11_type cX11_type 2 (some .int) :: ([.fieldLink RX11 78 "LongestMetModel" "typed" "I", .fieldLink RX11 7 "LongestMetModel" "text" "[I", .methodLink RX11 74 yX11_in, .static yX11_in, .initialized RX11, .code yX11_in cX11_in 3 (some .boolean)] ++ wsX110)
def wsX11_wipe : List Cond := .code yX11_wipe cX11_wipe 2 (some .int) :: ([.fieldLink RX11 78 "LongestMetModel" "typed" "I"] ++ wsX110)
def wsX11_byteAt : List Cond := .code yX11_byteAt cX11_byteAt 2 (some .int) :: ([.fieldLink RX11 78 "LongestMetModel" "typed" "I", .fieldLink RX11 7 "LongestMetModel" "text" "[I"] ++ wsX110)
def wsX11_number : List Cond := .code yX11_number cX11_number 4 (some .int) :: ([.fieldLink RX11 81 "LongestMetModel" "at" "I", .methodLink RX11 84 yX11_byteAt, .instanceMethod yX11_byteAt, .selects RX11 yX11_byteAt yX11_byteAt, .initialized RX11, .code yX11_byteAt cX11_byteAt 2 (some .int), .fieldLink RX11 78 "LongestMetModel" "typed" "I", .fieldLink RX11 7 "LongestMetModel" "text" "[I", .methodLink RX11 74 yX11_in, .static yX11_in, .code yX11_in cX11_in 3 (some .boolean)] ++ wsX110)
def wsX11_faultNow : List Cond := .code yX11_faultNow cX11_faultNow 4 (some .int) :: ([.fieldLink RX11 13 "LongestMetModel" "said60" "[I", .fieldLink RX11 81 "LongestMetModel" "at" "I", .fieldLink RX11 78 "LongestMetModel" "typed" "I", .methodLink RX11 88 yX11_number, .instanceMethod yX11_number, .selects RX11 yX11_number yX11_number, .initialized RX11, .code yX11_number cX11_number 4 (some .int), .methodLink RX11 84 yX11_byteAt, .instanceMethod yX11_byteAt, .selects RX11 yX11_byteAt yX11_byteAt, .code yX11_byteAt cX11_byteAt 2 (some .int), .fieldLink RX11 7 "LongestMetModel" "text" "[I", .methodLink RX11 74 yX11_in, .static yX11_in, .code yX11_in cX11_in 3 (some .boolean)] ++ wsX110)
def wsX11_fault : List Cond := .code yX11_fault cX11_fault 1 (some .int) :: ([.methodLink RX11 91 yX11_faultNow, .instanceMethod yX11_faultNow, .selects RX11 yX11_faultNow yX11_faultNow, .initialized RX11, .code yX11_faultNow cX11_faultNow 4 (some .int), .fieldLink RX11 13 "LongestMetModel" "said60" "[I", .fieldLink RX11 81 "LongestMetModel" "at" "I", .fieldLink RX11 78 "LongestMetModel" "typed" "I", .methodLink RX11 88 yX11_number, .instanceMethod yX11_number, .selects RX11 yX11_number yX11_number, .code yX11_number cX11_number 4 (some .int), .methodLink RX11 84 yX11_byteAt, .instanceMethod yX11_byteAt, .selects RX11 yX11_byteAt yX11_byteAt, .code yX11_byteAt cX11_byteAt 2 (some .int), .fieldLink RX11 7 "LongestMetModel" "text" "[I", .methodLink RX11 74 yX11_in, .static yX11_in, .code yX11_in cX11_in 3 (some .boolean)] ++ wsX110)
def wsX11_isBus : List Cond := .code yX11_isBus cX11_isBus 3 (some .boolean) :: ([.fieldLink RX11 16 "LongestMetModel" "goes" "[I"] ++ wsX110)
def wsX11_many : List Cond := .code yX11_many cX11_many 4 (some .int) :: ([.methodLink RX11 98 yX11_isBus, .instanceMethod yX11_isBus, .selects RX11 yX11_isBus yX11_isBus, .initialized RX11, .code yX11_isBus cX11_isBus 3 (some .boolean), .fieldLink RX11 16 "LongestMetModel" "goes" "[I"] ++ wsX110)
def wsX11_line_r1 : List Cond := [Cond.fieldLink RX11 16 "LongestMetModel" "goes" "[I", Cond.fieldLink RX11 13 "LongestMetModel" "said60" "[I", Cond.fieldLink RX11 78 "LongestMetModel" "typed" "I", Cond.methodLink RX11 74 yX11_in, Cond.static yX11_in, Cond.initialized RX11, Cond.code yX11_in cX11_in 3 (some .boolean), Cond.methodLink RX11 91 yX11_faultNow, Cond.instanceMethod yX11_faultNow, Cond.selects RX11 yX11_faultNow yX11_faultNow, Cond.code yX11_faultNow cX11_faultNow 4 (some .int), Cond.fieldLink RX11 81 "LongestMetModel" "at" "I", Cond.methodLink RX11 88 yX11_number, Cond.instanceMethod yX11_number, Cond.selects RX11 yX11_number yX11_number, Cond.code yX11_number cX11_number 4 (some .int), Cond.methodLink RX11 84 yX11_byteAt, Cond.instanceMethod yX11_byteAt, Cond.selects RX11 yX11_byteAt yX11_byteAt, Cond.code yX11_byteAt cX11_byteAt 2 (some .int), Cond.fieldLink RX11 7 "LongestMetModel" "text" "[I", Cond.methodLink RX11 95 yX11_many, Cond.instanceMethod yX11_many, Cond.selects RX11 yX11_many yX11_many]
def wsX11_line_r2 : List Cond := [Cond.code yX11_many cX11_many 4 (some .int), Cond.methodLink RX11 98 yX11_isBus, Cond.instanceMethod yX11_isBus, Cond.selects RX11 yX11_isBus yX11_isBus, Cond.code yX11_isBus cX11_isBus 3 (some .boolean)]
def wsX11_line : List Cond := .code yX11_line cX11_line 3 (some .int) :: ((wsX11_line_r1 ++ wsX11_line_r2) ++ wsX110)
def wsX11_waitOf : List Cond := .code yX11_waitOf cX11_waitOf 4 (some .int) :: ([.methodLink RX11 98 yX11_isBus, .instanceMethod yX11_isBus, .selects RX11 yX11_isBus yX11_isBus, .initialized RX11, .code yX11_isBus cX11_isBus 3 (some .boolean), .fieldLink RX11 16 "LongestMetModel" "goes" "[I"] ++ wsX110)
def wsX11_waits : List Cond := .code yX11_waits cX11_waits 3 (some .int) :: ([.methodLink RX11 74 yX11_in, .static yX11_in, .initialized RX11, .code yX11_in cX11_in 3 (some .boolean), .methodLink RX11 95 yX11_many, .instanceMethod yX11_many, .selects RX11 yX11_many yX11_many, .code yX11_many cX11_many 4 (some .int), .methodLink RX11 98 yX11_isBus, .instanceMethod yX11_isBus, .selects RX11 yX11_isBus yX11_isBus, .code yX11_isBus cX11_isBus 3 (some .boolean), .fieldLink RX11 16 "LongestMetModel" "goes" "[I", .methodLink RX11 102 yX11_waitOf, .instanceMethod yX11_waitOf, .selects RX11 yX11_waitOf yX11_waitOf, .code yX11_waitOf cX11_waitOf 4 (some .int)] ++ wsX110)
def wsX11_gapBehind : List Cond := .code yX11_gapBehind cX11_gapBehind 3 (some .int) :: ([.methodLink RX11 102 yX11_waitOf, .instanceMethod yX11_waitOf, .selects RX11 yX11_waitOf yX11_waitOf, .initialized RX11, .code yX11_waitOf cX11_waitOf 4 (some .int), .methodLink RX11 98 yX11_isBus, .instanceMethod yX11_isBus, .selects RX11 yX11_isBus yX11_isBus, .code yX11_isBus cX11_isBus 3 (some .boolean), .fieldLink RX11 16 "LongestMetModel" "goes" "[I"] ++ wsX110)
def wsX11_met : List Cond := .code yX11_met cX11_met 5 (some .int) :: ([.methodLink RX11 74 yX11_in, .static yX11_in, .initialized RX11, .code yX11_in cX11_in 3 (some .boolean), .methodLink RX11 98 yX11_isBus, .instanceMethod yX11_isBus, .selects RX11 yX11_isBus yX11_isBus, .code yX11_isBus cX11_isBus 3 (some .boolean), .fieldLink RX11 16 "LongestMetModel" "goes" "[I", .methodLink RX11 106 yX11_gapBehind, .instanceMethod yX11_gapBehind, .selects RX11 yX11_gapBehind yX11_gapBehind, .code yX11_gapBehind cX11_gapBehind 3 (some .int), .methodLink RX11 102 yX11_waitOf, .instanceMethod yX11_waitOf, .selects RX11 yX11_waitOf yX11_waitOf, .code yX11_waitOf cX11_waitOf 4 (some .int)] ++ wsX110)
def wsX11_gapsNow_r1 : List Cond := [Cond.constantLong RX11 113 (60), Cond.methodLink RX11 95 yX11_many, Cond.instanceMethod yX11_many, Cond.selects RX11 yX11_many yX11_many, Cond.initialized RX11, Cond.code yX11_many cX11_many 4 (some .int), Cond.methodLink RX11 98 yX11_isBus, Cond.instanceMethod yX11_isBus, Cond.selects RX11 yX11_isBus yX11_isBus, Cond.code yX11_isBus cX11_isBus 3 (some .boolean), Cond.fieldLink RX11 16 "LongestMetModel" "goes" "[I", Cond.methodLink RX11 109 yX11_no, Cond.static yX11_no, Cond.code yX11_no cX11_no 1 (some .long), Cond.constantLong RX11 72 (-9223372036854775808), Cond.methodLink RX11 106 yX11_gapBehind, Cond.instanceMethod yX11_gapBehind, Cond.selects RX11 yX11_gapBehind yX11_gapBehind, Cond.code yX11_gapBehind cX11_gapBehind 3 (some .int), Cond.methodLink RX11 102 yX11_waitOf, Cond.instanceMethod yX11_waitOf, Cond.selects RX11 yX11_waitOf yX11_waitOf, Cond.code yX11_waitOf cX11_waitOf 4 (some .int), Cond.methodLink RX11 115 yX11_lowest]
def wsX11_gapsNow_r2 : List Cond := [Cond.static yX11_lowest, Cond.code yX11_lowest cX11_lowest 11 (some .long)]
def wsX11_gapsNow : List Cond := .code yX11_gapsNow cX11_gapsNow 11 (some .long) :: ((wsX11_gapsNow_r1 ++ wsX11_gapsNow_r2) ++ wsX110)
def wsX11_gaps_r1 : List Cond := [Cond.methodLink RX11 74 yX11_in, Cond.static yX11_in, Cond.initialized RX11, Cond.code yX11_in cX11_in 3 (some .boolean), Cond.methodLink RX11 119 yX11_gapsNow, Cond.instanceMethod yX11_gapsNow, Cond.selects RX11 yX11_gapsNow yX11_gapsNow, Cond.code yX11_gapsNow cX11_gapsNow 11 (some .long), Cond.constantLong RX11 113 (60), Cond.methodLink RX11 95 yX11_many, Cond.instanceMethod yX11_many, Cond.selects RX11 yX11_many yX11_many, Cond.code yX11_many cX11_many 4 (some .int), Cond.methodLink RX11 98 yX11_isBus, Cond.instanceMethod yX11_isBus, Cond.selects RX11 yX11_isBus yX11_isBus, Cond.code yX11_isBus cX11_isBus 3 (some .boolean), Cond.fieldLink RX11 16 "LongestMetModel" "goes" "[I", Cond.methodLink RX11 109 yX11_no, Cond.static yX11_no, Cond.code yX11_no cX11_no 1 (some .long), Cond.constantLong RX11 72 (-9223372036854775808), Cond.methodLink RX11 106 yX11_gapBehind, Cond.instanceMethod yX11_gapBehind]
def wsX11_gaps_r2 : List Cond := [Cond.selects RX11 yX11_gapBehind yX11_gapBehind, Cond.code yX11_gapBehind cX11_gapBehind 3 (some .int), Cond.methodLink RX11 102 yX11_waitOf, Cond.instanceMethod yX11_waitOf, Cond.selects RX11 yX11_waitOf yX11_waitOf, Cond.code yX11_waitOf cX11_waitOf 4 (some .int), Cond.methodLink RX11 115 yX11_lowest, Cond.static yX11_lowest, Cond.code yX11_lowest cX11_lowest 11 (some .long)]
def wsX11_gaps : List Cond := .code yX11_gaps cX11_gaps 4 (some .long) :: ((wsX11_gaps_r1 ++ wsX11_gaps_r2) ++ wsX110)
def wsX11_waitsIn : List Cond := .code yX11_waitsIn cX11_waitsIn 1 (some .int) :: ([])
def wsX11_backFrom : List Cond := .code yX11_backFrom cX11_backFrom 11 (some .int) :: ([.fieldLink RX11 19 "LongestMetModel" "minutes" "[I", .constant RX11 123 (100000), .fieldLink RX11 22 "LongestMetModel" "least" "[I", .methodLink RX11 124 yX11_waitsIn, .static yX11_waitsIn, .initialized RX11, .code yX11_waitsIn cX11_waitsIn 1 (some .int)] ++ wsX110)
def wsX11_heldNow : List Cond := .code yX11_heldNow cX11_heldNow 12 (some .int) :: ([.fieldLink RX11 19 "LongestMetModel" "minutes" "[I", .constant RX11 123 (100000), .fieldLink RX11 25 "LongestMetModel" "later" "[I", .fieldLink RX11 22 "LongestMetModel" "least" "[I", .methodLink RX11 98 yX11_isBus, .instanceMethod yX11_isBus, .selects RX11 yX11_isBus yX11_isBus, .initialized RX11, .code yX11_isBus cX11_isBus 3 (some .boolean), .fieldLink RX11 16 "LongestMetModel" "goes" "[I", .methodLink RX11 127 yX11_backFrom, .instanceMethod yX11_backFrom, .selects RX11 yX11_backFrom yX11_backFrom, .code yX11_backFrom cX11_backFrom 11 (some .int), .methodLink RX11 124 yX11_waitsIn, .static yX11_waitsIn, .code yX11_waitsIn cX11_waitsIn 1 (some .int)] ++ wsX110)
def wsX11_held : List Cond := .code yX11_held cX11_held 4 (some .int) :: ([.methodLink RX11 74 yX11_in, .static yX11_in, .initialized RX11, .code yX11_in cX11_in 3 (some .boolean), .methodLink RX11 131 yX11_heldNow, .instanceMethod yX11_heldNow, .selects RX11 yX11_heldNow yX11_heldNow, .code yX11_heldNow cX11_heldNow 12 (some .int), .fieldLink RX11 19 "LongestMetModel" "minutes" "[I", .constant RX11 123 (100000), .fieldLink RX11 25 "LongestMetModel" "later" "[I", .fieldLink RX11 22 "LongestMetModel" "least" "[I", .methodLink RX11 98 yX11_isBus, .instanceMethod yX11_isBus, .selects RX11 yX11_isBus yX11_isBus, .code yX11_isBus cX11_isBus 3 (some .boolean), .fieldLink RX11 16 "LongestMetModel" "goes" "[I", .methodLink RX11 127 yX11_backFrom, .instanceMethod yX11_backFrom, .selects RX11 yX11_backFrom yX11_backFrom, .code yX11_backFrom cX11_backFrom 11 (some .int), .methodLink RX11 124 yX11_waitsIn, .static yX11_waitsIn, .code yX11_waitsIn cX11_waitsIn 1 (some .int)] ++ wsX110)
def wsX11_answerMore : List Cond := .code yX11_answerMore cX11_answerMore 3 (some .int) :: ([.fieldLink RX11 134 "LongestMetModel" "lastTime" "I", .fieldLink RX11 137 "LongestMetModel" "answers" "I", .fieldLink RX11 28 "LongestMetModel" "answerOf" "[I", .fieldLink RX11 31 "LongestMetModel" "answerTime" "[I", .fieldLink RX11 34 "LongestMetModel" "answerBack" "[I", .methodLink RX11 74 yX11_in, .static yX11_in, .initialized RX11, .code yX11_in cX11_in 3 (some .boolean)] ++ wsX110)
def wsX11_asked : List Cond := .code yX11_asked cX11_asked 3 (some .int) :: ([.methodLink RX11 140 yX11_answerMore, .instanceMethod yX11_answerMore, .selects RX11 yX11_answerMore yX11_answerMore, .initialized RX11, .code yX11_answerMore cX11_answerMore 3 (some .int), .fieldLink RX11 134 "LongestMetModel" "lastTime" "I", .fieldLink RX11 137 "LongestMetModel" "answers" "I", .fieldLink RX11 28 "LongestMetModel" "answerOf" "[I", .fieldLink RX11 31 "LongestMetModel" "answerTime" "[I", .fieldLink RX11 34 "LongestMetModel" "answerBack" "[I", .methodLink RX11 74 yX11_in, .static yX11_in, .code yX11_in cX11_in 3 (some .boolean)] ++ wsX110)
def wsX11_isSheet : List Cond := .code yX11_isSheet cX11_isSheet 1 (some .boolean) :: ([.methodLink RX11 74 yX11_in, .static yX11_in, .initialized RX11, .code yX11_in cX11_in 3 (some .boolean)])
def wsX11_meets : List Cond := .code yX11_meets cX11_meets 2 (some .int) :: ([.fieldLink RX11 240 "LongestMetModel" "finding" "I"] ++ wsX110)
def wsX11_read : List Cond := .code yX11_read cX11_read 4 (some .int) :: ([.fieldLink RX11 134 "LongestMetModel" "lastTime" "I", .fieldLink RX11 56 "LongestMetModel" "isThere" "[Z", .fieldLink RX11 63 "LongestMetModel" "sizes" "[I", .fieldLink RX11 66 "LongestMetModel" "items" "[I", .methodLink RX11 143 yX11_isSheet, .static yX11_isSheet, .initialized RX11, .code yX11_isSheet cX11_isSheet 1 (some .boolean), .methodLink RX11 74 yX11_in, .static yX11_in, .code yX11_in cX11_in 3 (some .boolean), .methodLink RX11 147 yX11_meets, .instanceMethod yX11_meets, .selects RX11 yX11_meets yX11_meets, .code yX11_meets cX11_meets 2 (some .int), .fieldLink RX11 240 "LongestMetModel" "finding" "I", .methodLink RX11 140 yX11_answerMore, .instanceMethod yX11_answerMore, .selects RX11 yX11_answerMore yX11_answerMore, .code yX11_answerMore cX11_answerMore 3 (some .int), .fieldLink RX11 137 "LongestMetModel" "answers" "I", .fieldLink RX11 28 "LongestMetModel" "answerOf" "[I", .fieldLink RX11 31 "LongestMetModel" "answerTime" "[I", .fieldLink RX11 34 "LongestMetModel" "answerBack" "[I"] ++ wsX110)
def wsX11_takeBack : List Cond := .code yX11_takeBack cX11_takeBack 3 (some .int) :: ([.fieldLink RX11 137 "LongestMetModel" "answers" "I", .fieldLink RX11 134 "LongestMetModel" "lastTime" "I", .fieldLink RX11 34 "LongestMetModel" "answerBack" "[I", .methodLink RX11 74 yX11_in, .static yX11_in, .initialized RX11, .code yX11_in cX11_in 3 (some .boolean)] ++ wsX110)
def wsX11_asOf : List Cond := .code yX11_asOf cX11_asOf 3 (some .int) :: ([.fieldLink RX11 37 "LongestMetModel" "knownTo" "I", .methodLink RX11 74 yX11_in, .static yX11_in, .initialized RX11, .code yX11_in cX11_in 3 (some .boolean)] ++ wsX110)
def wsX11_saidOf : List Cond := .code yX11_saidOf cX11_saidOf 5 (some .int) :: ([.fieldLink RX11 137 "LongestMetModel" "answers" "I", .fieldLink RX11 31 "LongestMetModel" "answerTime" "[I", .fieldLink RX11 37 "LongestMetModel" "knownTo" "I", .fieldLink RX11 34 "LongestMetModel" "answerBack" "[I", .fieldLink RX11 28 "LongestMetModel" "answerOf" "[I"] ++ wsX110)
def wsX11_said : List Cond := .code yX11_said cX11_said 2 (some .int) :: ([.methodLink RX11 74 yX11_in, .static yX11_in, .initialized RX11, .code yX11_in cX11_in 3 (some .boolean), .methodLink RX11 150 yX11_saidOf, .instanceMethod yX11_saidOf, .selects RX11 yX11_saidOf yX11_saidOf, .code yX11_saidOf cX11_saidOf 5 (some .int), .fieldLink RX11 137 "LongestMetModel" "answers" "I", .fieldLink RX11 31 "LongestMetModel" "answerTime" "[I", .fieldLink RX11 37 "LongestMetModel" "knownTo" "I", .fieldLink RX11 34 "LongestMetModel" "answerBack" "[I", .fieldLink RX11 28 "LongestMetModel" "answerOf" "[I"] ++ wsX110)
def wsX11_familyParts : List Cond := .code yX11_familyParts cX11_familyParts 3 (some .int) :: ([.methodLink RX11 150 yX11_saidOf, .instanceMethod yX11_saidOf, .selects RX11 yX11_saidOf yX11_saidOf, .initialized RX11, .code yX11_saidOf cX11_saidOf 5 (some .int), .fieldLink RX11 137 "LongestMetModel" "answers" "I", .fieldLink RX11 31 "LongestMetModel" "answerTime" "[I", .fieldLink RX11 37 "LongestMetModel" "knownTo" "I", .fieldLink RX11 34 "LongestMetModel" "answerBack" "[I", .fieldLink RX11 28 "LongestMetModel" "answerOf" "[I"] ++ wsX110)
def wsX11_share : List Cond := .code yX11_share cX11_share 5 (some .long) :: ([.methodLink RX11 74 yX11_in, .static yX11_in, .initialized RX11, .code yX11_in cX11_in 3 (some .boolean), .methodLink RX11 109 yX11_no, .static yX11_no, .code yX11_no cX11_no 1 (some .long), .constantLong RX11 72 (-9223372036854775808), .methodLink RX11 150 yX11_saidOf, .instanceMethod yX11_saidOf, .selects RX11 yX11_saidOf yX11_saidOf, .code yX11_saidOf cX11_saidOf 5 (some .int), .fieldLink RX11 137 "LongestMetModel" "answers" "I", .fieldLink RX11 31 "LongestMetModel" "answerTime" "[I", .fieldLink RX11 37 "LongestMetModel" "knownTo" "I", .fieldLink RX11 34 "LongestMetModel" "answerBack" "[I", .fieldLink RX11 28 "LongestMetModel" "answerOf" "[I", .methodLink RX11 115 yX11_lowest, .static yX11_lowest, .code yX11_lowest cX11_lowest 11 (some .long), .methodLink RX11 153 yX11_familyParts, .instanceMethod yX11_familyParts, .selects RX11 yX11_familyParts yX11_familyParts, .code yX11_familyParts cX11_familyParts 3 (some .int)] ++ wsX110)
def wsX11_sizeNow : List Cond := .code yX11_sizeNow cX11_sizeNow 6 (some .long) :: ([.methodLink RX11 150 yX11_saidOf, .instanceMethod yX11_saidOf, .selects RX11 yX11_saidOf yX11_saidOf, .initialized RX11, .code yX11_saidOf cX11_saidOf 5 (some .int), .fieldLink RX11 137 "LongestMetModel" "answers" "I", .fieldLink RX11 31 "LongestMetModel" "answerTime" "[I", .fieldLink RX11 37 "LongestMetModel" "knownTo" "I", .fieldLink RX11 34 "LongestMetModel" "answerBack" "[I", .fieldLink RX11 28 "LongestMetModel" "answerOf" "[I", .methodLink RX11 109 yX11_no, .static yX11_no, .code yX11_no cX11_no 1 (some .long), .constantLong RX11 72 (-9223372036854775808), .methodLink RX11 115 yX11_lowest, .static yX11_lowest, .code yX11_lowest cX11_lowest 11 (some .long), .methodLink RX11 153 yX11_familyParts, .instanceMethod yX11_familyParts, .selects RX11 yX11_familyParts yX11_familyParts, .code yX11_familyParts cX11_familyParts 3 (some .int)] ++ wsX110)
def wsX11_size_r1 : List Cond := [Cond.methodLink RX11 74 yX11_in, Cond.static yX11_in, Cond.initialized RX11, Cond.code yX11_in cX11_in 3 (some .boolean), Cond.methodLink RX11 156 yX11_sizeNow, Cond.instanceMethod yX11_sizeNow, Cond.selects RX11 yX11_sizeNow yX11_sizeNow, Cond.code yX11_sizeNow cX11_sizeNow 6 (some .long), Cond.methodLink RX11 150 yX11_saidOf, Cond.instanceMethod yX11_saidOf, Cond.selects RX11 yX11_saidOf yX11_saidOf, Cond.code yX11_saidOf cX11_saidOf 5 (some .int), Cond.fieldLink RX11 137 "LongestMetModel" "answers" "I", Cond.fieldLink RX11 31 "LongestMetModel" "answerTime" "[I", Cond.fieldLink RX11 37 "LongestMetModel" "knownTo" "I", Cond.fieldLink RX11 34 "LongestMetModel" "answerBack" "[I", Cond.fieldLink RX11 28 "LongestMetModel" "answerOf" "[I", Cond.methodLink RX11 109 yX11_no, Cond.static yX11_no, Cond.code yX11_no cX11_no 1 (some .long), Cond.constantLong RX11 72 (-9223372036854775808), Cond.methodLink RX11 115 yX11_lowest, Cond.static yX11_lowest, Cond.code yX11_lowest cX11_lowest 11 (some .long)]
def wsX11_size_r2 : List Cond := [Cond.methodLink RX11 153 yX11_familyParts, Cond.instanceMethod yX11_familyParts, Cond.selects RX11 yX11_familyParts yX11_familyParts, Cond.code yX11_familyParts cX11_familyParts 3 (some .int)]
def wsX11_size : List Cond := .code yX11_size cX11_size 3 (some .long) :: ((wsX11_size_r1 ++ wsX11_size_r2) ++ wsX110)
def wsX11_families : List Cond := .code yX11_families cX11_families 5 (some .int) :: ([.fieldLink RX11 41 "LongestMetModel" "families" "[I", .methodLink RX11 74 yX11_in, .static yX11_in, .initialized RX11, .code yX11_in cX11_in 3 (some .boolean)] ++ wsX110)
def wsX11_choose : List Cond := .code yX11_choose cX11_choose 5 (some .long) :: ([.methodLink RX11 74 yX11_in, .static yX11_in, .initialized RX11, .code yX11_in cX11_in 3 (some .boolean)])
def wsX11_childrenOf : List Cond := .code yX11_childrenOf cX11_childrenOf 4 (some .int) :: ([.fieldLink RX11 41 "LongestMetModel" "families" "[I"] ++ wsX110)
def wsX11_choices : List Cond := .code yX11_choices cX11_choices 5 (some .long) :: ([.fieldLink RX11 41 "LongestMetModel" "families" "[I", .methodLink RX11 150 yX11_saidOf, .instanceMethod yX11_saidOf, .selects RX11 yX11_saidOf yX11_saidOf, .initialized RX11, .code yX11_saidOf cX11_saidOf 5 (some .int), .fieldLink RX11 137 "LongestMetModel" "answers" "I", .fieldLink RX11 31 "LongestMetModel" "answerTime" "[I", .fieldLink RX11 37 "LongestMetModel" "knownTo" "I", .fieldLink RX11 34 "LongestMetModel" "answerBack" "[I", .fieldLink RX11 28 "LongestMetModel" "answerOf" "[I", .methodLink RX11 160 yX11_choose, .static yX11_choose, .code yX11_choose cX11_choose 5 (some .long), .methodLink RX11 74 yX11_in, .static yX11_in, .code yX11_in cX11_in 3 (some .boolean)] ++ wsX110)
def wsX11_chance_r1 : List Cond := [Cond.methodLink RX11 74 yX11_in, Cond.static yX11_in, Cond.initialized RX11, Cond.code yX11_in cX11_in 3 (some .boolean), Cond.methodLink RX11 109 yX11_no, Cond.static yX11_no, Cond.code yX11_no cX11_no 1 (some .long), Cond.constantLong RX11 72 (-9223372036854775808), Cond.methodLink RX11 150 yX11_saidOf, Cond.instanceMethod yX11_saidOf, Cond.selects RX11 yX11_saidOf yX11_saidOf, Cond.code yX11_saidOf cX11_saidOf 5 (some .int), Cond.fieldLink RX11 137 "LongestMetModel" "answers" "I", Cond.fieldLink RX11 31 "LongestMetModel" "answerTime" "[I", Cond.fieldLink RX11 37 "LongestMetModel" "knownTo" "I", Cond.fieldLink RX11 34 "LongestMetModel" "answerBack" "[I", Cond.fieldLink RX11 28 "LongestMetModel" "answerOf" "[I", Cond.methodLink RX11 163 yX11_childrenOf, Cond.instanceMethod yX11_childrenOf, Cond.selects RX11 yX11_childrenOf yX11_childrenOf, Cond.code yX11_childrenOf cX11_childrenOf 4 (some .int), Cond.fieldLink RX11 41 "LongestMetModel" "families" "[I", Cond.methodLink RX11 166 yX11_choices, Cond.instanceMethod yX11_choices]
def wsX11_chance_r2 : List Cond := [Cond.selects RX11 yX11_choices yX11_choices, Cond.code yX11_choices cX11_choices 5 (some .long), Cond.methodLink RX11 160 yX11_choose, Cond.static yX11_choose, Cond.code yX11_choose cX11_choose 5 (some .long), Cond.methodLink RX11 115 yX11_lowest, Cond.static yX11_lowest, Cond.code yX11_lowest cX11_lowest 11 (some .long)]
def wsX11_chance : List Cond := .code yX11_chance cX11_chance 4 (some .long) :: ((wsX11_chance_r1 ++ wsX11_chance_r2) ++ wsX110)
def wsX11_likeliestNow_r1 : List Cond := [Cond.methodLink RX11 150 yX11_saidOf, Cond.instanceMethod yX11_saidOf, Cond.selects RX11 yX11_saidOf yX11_saidOf, Cond.initialized RX11, Cond.code yX11_saidOf cX11_saidOf 5 (some .int), Cond.fieldLink RX11 137 "LongestMetModel" "answers" "I", Cond.fieldLink RX11 31 "LongestMetModel" "answerTime" "[I", Cond.fieldLink RX11 37 "LongestMetModel" "knownTo" "I", Cond.fieldLink RX11 34 "LongestMetModel" "answerBack" "[I", Cond.fieldLink RX11 28 "LongestMetModel" "answerOf" "[I", Cond.methodLink RX11 163 yX11_childrenOf, Cond.instanceMethod yX11_childrenOf, Cond.selects RX11 yX11_childrenOf yX11_childrenOf, Cond.code yX11_childrenOf cX11_childrenOf 4 (some .int), Cond.fieldLink RX11 41 "LongestMetModel" "families" "[I", Cond.methodLink RX11 160 yX11_choose, Cond.static yX11_choose, Cond.code yX11_choose cX11_choose 5 (some .long), Cond.methodLink RX11 74 yX11_in, Cond.static yX11_in, Cond.code yX11_in cX11_in 3 (some .boolean), Cond.methodLink RX11 166 yX11_choices, Cond.instanceMethod yX11_choices, Cond.selects RX11 yX11_choices yX11_choices]
def wsX11_likeliestNow_r2 : List Cond := [Cond.code yX11_choices cX11_choices 5 (some .long), Cond.methodLink RX11 169 yX11_way, Cond.static yX11_way, Cond.code yX11_way cX11_way 23 (some .int)]
def wsX11_likeliestNow : List Cond := .code yX11_likeliestNow cX11_likeliestNow 10 (some .int) :: ((wsX11_likeliestNow_r1 ++ wsX11_likeliestNow_r2) ++ wsX110)
def wsX11_likeliest_r1 : List Cond := [Cond.methodLink RX11 173 yX11_likeliestNow, Cond.instanceMethod yX11_likeliestNow, Cond.selects RX11 yX11_likeliestNow yX11_likeliestNow, Cond.initialized RX11, Cond.code yX11_likeliestNow cX11_likeliestNow 10 (some .int), Cond.methodLink RX11 150 yX11_saidOf, Cond.instanceMethod yX11_saidOf, Cond.selects RX11 yX11_saidOf yX11_saidOf, Cond.code yX11_saidOf cX11_saidOf 5 (some .int), Cond.fieldLink RX11 137 "LongestMetModel" "answers" "I", Cond.fieldLink RX11 31 "LongestMetModel" "answerTime" "[I", Cond.fieldLink RX11 37 "LongestMetModel" "knownTo" "I", Cond.fieldLink RX11 34 "LongestMetModel" "answerBack" "[I", Cond.fieldLink RX11 28 "LongestMetModel" "answerOf" "[I", Cond.methodLink RX11 163 yX11_childrenOf, Cond.instanceMethod yX11_childrenOf, Cond.selects RX11 yX11_childrenOf yX11_childrenOf, Cond.code yX11_childrenOf cX11_childrenOf 4 (some .int), Cond.fieldLink RX11 41 "LongestMetModel" "families" "[I", Cond.methodLink RX11 160 yX11_choose, Cond.static yX11_choose, Cond.code yX11_choose cX11_choose 5 (some .long), Cond.methodLink RX11 74 yX11_in, Cond.static yX11_in]
def wsX11_likeliest_r2 : List Cond := [Cond.code yX11_in cX11_in 3 (some .boolean), Cond.methodLink RX11 166 yX11_choices, Cond.instanceMethod yX11_choices, Cond.selects RX11 yX11_choices yX11_choices, Cond.code yX11_choices cX11_choices 5 (some .long), Cond.methodLink RX11 169 yX11_way, Cond.static yX11_way, Cond.code yX11_way cX11_way 23 (some .int)]
def wsX11_likeliest : List Cond := .code yX11_likeliest cX11_likeliest 1 (some .int) :: ((wsX11_likeliest_r1 ++ wsX11_likeliest_r2) ++ wsX110)
def wsX11_stay : List Cond := .code yX11_stay cX11_stay 3 (some .int) :: ([.fieldLink RX11 176 "LongestMetModel" "stays" "I", .fieldLink RX11 44 "LongestMetModel" "fromDay" "[I", .fieldLink RX11 47 "LongestMetModel" "toDay" "[I", .methodLink RX11 74 yX11_in, .static yX11_in, .initialized RX11, .code yX11_in cX11_in 3 (some .boolean)] ++ wsX110)
def wsX11_leaves : List Cond := .code yX11_leaves cX11_leaves 4 (some .int) :: ([.fieldLink RX11 176 "LongestMetModel" "stays" "I", .fieldLink RX11 44 "LongestMetModel" "fromDay" "[I", .fieldLink RX11 47 "LongestMetModel" "toDay" "[I", .methodLink RX11 74 yX11_in, .static yX11_in, .initialized RX11, .code yX11_in cX11_in 3 (some .boolean)] ++ wsX110)
def wsX11_lengthOf : List Cond := .code yX11_lengthOf cX11_lengthOf 2 (some .int) :: ([.fieldLink RX11 47 "LongestMetModel" "toDay" "[I", .fieldLink RX11 44 "LongestMetModel" "fromDay" "[I"] ++ wsX110)
def wsX11_daysIn : List Cond := .code yX11_daysIn cX11_daysIn 6 (some .int) :: ([.fieldLink RX11 44 "LongestMetModel" "fromDay" "[I", .fieldLink RX11 47 "LongestMetModel" "toDay" "[I"] ++ wsX110)
def wsX11_wardOf : List Cond := .code yX11_wardOf cX11_wardOf 10 (some .long) :: ([.fieldLink RX11 176 "LongestMetModel" "stays" "I", .fieldLink RX11 44 "LongestMetModel" "fromDay" "[I", .constantLong RX11 185 (232792560), .methodLink RX11 179 yX11_daysIn, .instanceMethod yX11_daysIn, .selects RX11 yX11_daysIn yX11_daysIn, .initialized RX11, .code yX11_daysIn cX11_daysIn 6 (some .int), .fieldLink RX11 47 "LongestMetModel" "toDay" "[I", .methodLink RX11 182 yX11_lengthOf, .instanceMethod yX11_lengthOf, .selects RX11 yX11_lengthOf yX11_lengthOf, .code yX11_lengthOf cX11_lengthOf 2 (some .int), .methodLink RX11 74 yX11_in, .static yX11_in, .code yX11_in cX11_in 3 (some .boolean)] ++ wsX110)
def wsX11_wardNow : List Cond := .code yX11_wardNow cX11_wardNow 4 (some .int) :: ([.methodLink RX11 187 yX11_wardOf, .instanceMethod yX11_wardOf, .selects RX11 yX11_wardOf yX11_wardOf, .initialized RX11, .code yX11_wardOf cX11_wardOf 10 (some .long), .fieldLink RX11 176 "LongestMetModel" "stays" "I", .fieldLink RX11 44 "LongestMetModel" "fromDay" "[I", .constantLong RX11 185 (232792560), .methodLink RX11 179 yX11_daysIn, .instanceMethod yX11_daysIn, .selects RX11 yX11_daysIn yX11_daysIn, .code yX11_daysIn cX11_daysIn 6 (some .int), .fieldLink RX11 47 "LongestMetModel" "toDay" "[I", .methodLink RX11 182 yX11_lengthOf, .instanceMethod yX11_lengthOf, .selects RX11 yX11_lengthOf yX11_lengthOf, .code yX11_lengthOf cX11_lengthOf 2 (some .int), .methodLink RX11 74 yX11_in, .static yX11_in, .code yX11_in cX11_in 3 (some .boolean)] ++ wsX110)
def wsX11_isSpan : List Cond := .code yX11_isSpan cX11_isSpan 2 (some .boolean) :: ([.methodLink RX11 74 yX11_in, .static yX11_in, .initialized RX11, .code yX11_in cX11_in 3 (some .boolean)])
def wsX11_ward_r1 : List Cond := [Cond.methodLink RX11 190 yX11_isSpan, Cond.static yX11_isSpan, Cond.initialized RX11, Cond.code yX11_isSpan cX11_isSpan 2 (some .boolean), Cond.methodLink RX11 74 yX11_in, Cond.static yX11_in, Cond.code yX11_in cX11_in 3 (some .boolean), Cond.methodLink RX11 193 yX11_wardNow, Cond.instanceMethod yX11_wardNow, Cond.selects RX11 yX11_wardNow yX11_wardNow, Cond.code yX11_wardNow cX11_wardNow 4 (some .int), Cond.methodLink RX11 187 yX11_wardOf, Cond.instanceMethod yX11_wardOf, Cond.selects RX11 yX11_wardOf yX11_wardOf, Cond.code yX11_wardOf cX11_wardOf 10 (some .long), Cond.fieldLink RX11 176 "LongestMetModel" "stays" "I", Cond.fieldLink RX11 44 "LongestMetModel" "fromDay" "[I", Cond.constantLong RX11 185 (232792560), Cond.methodLink RX11 179 yX11_daysIn, Cond.instanceMethod yX11_daysIn, Cond.selects RX11 yX11_daysIn yX11_daysIn, Cond.code yX11_daysIn cX11_daysIn 6 (some .int), Cond.fieldLink RX11 47 "LongestMetModel" "toDay" "[I", Cond.methodLink RX11 182 yX11_lengthOf]
def wsX11_ward_r2 : List Cond := [Cond.instanceMethod yX11_lengthOf, Cond.selects RX11 yX11_lengthOf yX11_lengthOf, Cond.code yX11_lengthOf cX11_lengthOf 2 (some .int)]
def wsX11_ward : List Cond := .code yX11_ward cX11_ward 4 (some .int) :: ((wsX11_ward_r1 ++ wsX11_ward_r2) ++ wsX110)
def wsX11_meansNow_r1 : List Cond := [Cond.constantLong RX11 185 (232792560), Cond.methodLink RX11 187 yX11_wardOf, Cond.instanceMethod yX11_wardOf, Cond.selects RX11 yX11_wardOf yX11_wardOf, Cond.initialized RX11, Cond.code yX11_wardOf cX11_wardOf 10 (some .long), Cond.fieldLink RX11 176 "LongestMetModel" "stays" "I", Cond.fieldLink RX11 44 "LongestMetModel" "fromDay" "[I", Cond.methodLink RX11 179 yX11_daysIn, Cond.instanceMethod yX11_daysIn, Cond.selects RX11 yX11_daysIn yX11_daysIn, Cond.code yX11_daysIn cX11_daysIn 6 (some .int), Cond.fieldLink RX11 47 "LongestMetModel" "toDay" "[I", Cond.methodLink RX11 182 yX11_lengthOf, Cond.instanceMethod yX11_lengthOf, Cond.selects RX11 yX11_lengthOf yX11_lengthOf, Cond.code yX11_lengthOf cX11_lengthOf 2 (some .int), Cond.methodLink RX11 74 yX11_in, Cond.static yX11_in, Cond.code yX11_in cX11_in 3 (some .boolean), Cond.methodLink RX11 109 yX11_no, Cond.static yX11_no, Cond.code yX11_no cX11_no 1 (some .long), Cond.constantLong RX11 72 (-9223372036854775808)]
def wsX11_meansNow_r2 : List Cond := [Cond.methodLink RX11 115 yX11_lowest, Cond.static yX11_lowest, Cond.code yX11_lowest cX11_lowest 11 (some .long)]
def wsX11_meansNow : List Cond := .code yX11_meansNow cX11_meansNow 11 (some .long) :: ((wsX11_meansNow_r1 ++ wsX11_meansNow_r2) ++ wsX110)
def wsX11_means_r1 : List Cond := [Cond.methodLink RX11 190 yX11_isSpan, Cond.static yX11_isSpan, Cond.initialized RX11, Cond.code yX11_isSpan cX11_isSpan 2 (some .boolean), Cond.methodLink RX11 74 yX11_in, Cond.static yX11_in, Cond.code yX11_in cX11_in 3 (some .boolean), Cond.methodLink RX11 196 yX11_meansNow, Cond.instanceMethod yX11_meansNow, Cond.selects RX11 yX11_meansNow yX11_meansNow, Cond.code yX11_meansNow cX11_meansNow 11 (some .long), Cond.constantLong RX11 185 (232792560), Cond.methodLink RX11 187 yX11_wardOf, Cond.instanceMethod yX11_wardOf, Cond.selects RX11 yX11_wardOf yX11_wardOf, Cond.code yX11_wardOf cX11_wardOf 10 (some .long), Cond.fieldLink RX11 176 "LongestMetModel" "stays" "I", Cond.fieldLink RX11 44 "LongestMetModel" "fromDay" "[I", Cond.methodLink RX11 179 yX11_daysIn, Cond.instanceMethod yX11_daysIn, Cond.selects RX11 yX11_daysIn yX11_daysIn, Cond.code yX11_daysIn cX11_daysIn 6 (some .int), Cond.fieldLink RX11 47 "LongestMetModel" "toDay" "[I", Cond.methodLink RX11 182 yX11_lengthOf]
def wsX11_means_r2 : List Cond := [Cond.instanceMethod yX11_lengthOf, Cond.selects RX11 yX11_lengthOf yX11_lengthOf, Cond.code yX11_lengthOf cX11_lengthOf 2 (some .int), Cond.methodLink RX11 109 yX11_no, Cond.static yX11_no, Cond.code yX11_no cX11_no 1 (some .long), Cond.constantLong RX11 72 (-9223372036854775808), Cond.methodLink RX11 115 yX11_lowest, Cond.static yX11_lowest, Cond.code yX11_lowest cX11_lowest 11 (some .long)]
def wsX11_means : List Cond := .code yX11_means cX11_means 5 (some .long) :: ((wsX11_means_r1 ++ wsX11_means_r2) ++ wsX110)
def wsX11_apartNow : List Cond := .code yX11_apartNow cX11_apartNow 6 (some .int) :: ([.constant RX11 123 (100000), .fieldLink RX11 176 "LongestMetModel" "stays" "I", .fieldLink RX11 44 "LongestMetModel" "fromDay" "[I", .fieldLink RX11 47 "LongestMetModel" "toDay" "[I"] ++ wsX110)
def wsX11_fullestNow_r1 : List Cond := [Cond.methodLink RX11 200 yX11_apartNow, Cond.instanceMethod yX11_apartNow, Cond.selects RX11 yX11_apartNow yX11_apartNow, Cond.initialized RX11, Cond.code yX11_apartNow cX11_apartNow 6 (some .int), Cond.constant RX11 123 (100000), Cond.fieldLink RX11 176 "LongestMetModel" "stays" "I", Cond.fieldLink RX11 44 "LongestMetModel" "fromDay" "[I", Cond.fieldLink RX11 47 "LongestMetModel" "toDay" "[I", Cond.methodLink RX11 187 yX11_wardOf, Cond.instanceMethod yX11_wardOf, Cond.selects RX11 yX11_wardOf yX11_wardOf, Cond.code yX11_wardOf cX11_wardOf 10 (some .long), Cond.constantLong RX11 185 (232792560), Cond.methodLink RX11 179 yX11_daysIn, Cond.instanceMethod yX11_daysIn, Cond.selects RX11 yX11_daysIn yX11_daysIn, Cond.code yX11_daysIn cX11_daysIn 6 (some .int), Cond.methodLink RX11 182 yX11_lengthOf, Cond.instanceMethod yX11_lengthOf, Cond.selects RX11 yX11_lengthOf yX11_lengthOf, Cond.code yX11_lengthOf cX11_lengthOf 2 (some .int), Cond.methodLink RX11 74 yX11_in, Cond.static yX11_in]
def wsX11_fullestNow_r2 : List Cond := [Cond.code yX11_in cX11_in 3 (some .boolean)]
def wsX11_fullestNow : List Cond := .code yX11_fullestNow cX11_fullestNow 6 (some .int) :: ((wsX11_fullestNow_r1 ++ wsX11_fullestNow_r2) ++ wsX110)
def wsX11_fullest_r1 : List Cond := [Cond.methodLink RX11 74 yX11_in, Cond.static yX11_in, Cond.initialized RX11, Cond.code yX11_in cX11_in 3 (some .boolean), Cond.methodLink RX11 203 yX11_fullestNow, Cond.instanceMethod yX11_fullestNow, Cond.selects RX11 yX11_fullestNow yX11_fullestNow, Cond.code yX11_fullestNow cX11_fullestNow 6 (some .int), Cond.methodLink RX11 200 yX11_apartNow, Cond.instanceMethod yX11_apartNow, Cond.selects RX11 yX11_apartNow yX11_apartNow, Cond.code yX11_apartNow cX11_apartNow 6 (some .int), Cond.constant RX11 123 (100000), Cond.fieldLink RX11 176 "LongestMetModel" "stays" "I", Cond.fieldLink RX11 44 "LongestMetModel" "fromDay" "[I", Cond.fieldLink RX11 47 "LongestMetModel" "toDay" "[I", Cond.methodLink RX11 187 yX11_wardOf, Cond.instanceMethod yX11_wardOf, Cond.selects RX11 yX11_wardOf yX11_wardOf, Cond.code yX11_wardOf cX11_wardOf 10 (some .long), Cond.constantLong RX11 185 (232792560), Cond.methodLink RX11 179 yX11_daysIn, Cond.instanceMethod yX11_daysIn, Cond.selects RX11 yX11_daysIn yX11_daysIn]
def wsX11_fullest_r2 : List Cond := [Cond.code yX11_daysIn cX11_daysIn 6 (some .int), Cond.methodLink RX11 182 yX11_lengthOf, Cond.instanceMethod yX11_lengthOf, Cond.selects RX11 yX11_lengthOf yX11_lengthOf, Cond.code yX11_lengthOf cX11_lengthOf 2 (some .int)]
def wsX11_fullest : List Cond := .code yX11_fullest cX11_fullest 2 (some .int) :: ((wsX11_fullest_r1 ++ wsX11_fullest_r2) ++ wsX110)
def wsX11_friends : List Cond := .code yX11_friends cX11_friends 5 (some .int) :: ([.fieldLink RX11 50 "LongestMetModel" "friendsOf" "[I", .methodLink RX11 74 yX11_in, .static yX11_in, .initialized RX11, .code yX11_in cX11_in 3 (some .boolean)] ++ wsX110)
def wsX11_pickedParts : List Cond := .code yX11_pickedParts cX11_pickedParts 4 (some .int) :: ([.fieldLink RX11 50 "LongestMetModel" "friendsOf" "[I", .methodLink RX11 206 yX11_has, .static yX11_has, .initialized RX11, .code yX11_has cX11_has 2 (some .boolean), .methodLink RX11 209 yX11_ones, .static yX11_ones, .code yX11_ones cX11_ones 3 (some .int)] ++ wsX110)
def wsX11_meanNow : List Cond := .code yX11_meanNow cX11_meanNow 8 (some .long) :: ([.fieldLink RX11 50 "LongestMetModel" "friendsOf" "[I", .constantLong RX11 215 (8), .constantLong RX11 217 (3360), .methodLink RX11 209 yX11_ones, .static yX11_ones, .initialized RX11, .code yX11_ones cX11_ones 3 (some .int), .methodLink RX11 212 yX11_pickedParts, .instanceMethod yX11_pickedParts, .selects RX11 yX11_pickedParts yX11_pickedParts, .code yX11_pickedParts cX11_pickedParts 4 (some .int), .methodLink RX11 206 yX11_has, .static yX11_has, .code yX11_has cX11_has 2 (some .boolean), .methodLink RX11 109 yX11_no, .static yX11_no, .code yX11_no cX11_no 1 (some .long), .constantLong RX11 72 (-9223372036854775808), .methodLink RX11 115 yX11_lowest, .static yX11_lowest, .code yX11_lowest cX11_lowest 11 (some .long)] ++ wsX110)
def wsX11_mean_r1 : List Cond := [Cond.methodLink RX11 74 yX11_in, Cond.static yX11_in, Cond.initialized RX11, Cond.code yX11_in cX11_in 3 (some .boolean), Cond.methodLink RX11 219 yX11_meanNow, Cond.instanceMethod yX11_meanNow, Cond.selects RX11 yX11_meanNow yX11_meanNow, Cond.code yX11_meanNow cX11_meanNow 8 (some .long), Cond.fieldLink RX11 50 "LongestMetModel" "friendsOf" "[I", Cond.constantLong RX11 215 (8), Cond.constantLong RX11 217 (3360), Cond.methodLink RX11 209 yX11_ones, Cond.static yX11_ones, Cond.code yX11_ones cX11_ones 3 (some .int), Cond.methodLink RX11 212 yX11_pickedParts, Cond.instanceMethod yX11_pickedParts, Cond.selects RX11 yX11_pickedParts yX11_pickedParts, Cond.code yX11_pickedParts cX11_pickedParts 4 (some .int), Cond.methodLink RX11 206 yX11_has, Cond.static yX11_has, Cond.code yX11_has cX11_has 2 (some .boolean), Cond.methodLink RX11 109 yX11_no, Cond.static yX11_no, Cond.code yX11_no cX11_no 1 (some .long)]
def wsX11_mean_r2 : List Cond := [Cond.constantLong RX11 72 (-9223372036854775808), Cond.methodLink RX11 115 yX11_lowest, Cond.static yX11_lowest, Cond.code yX11_lowest cX11_lowest 11 (some .long)]
def wsX11_mean : List Cond := .code yX11_mean cX11_mean 3 (some .long) :: ((wsX11_mean_r1 ++ wsX11_mean_r2) ++ wsX110)
def wsX11_fewerNow : List Cond := .code yX11_fewerNow cX11_fewerNow 6 (some .int) :: ([.fieldLink RX11 50 "LongestMetModel" "friendsOf" "[I", .methodLink RX11 209 yX11_ones, .static yX11_ones, .initialized RX11, .code yX11_ones cX11_ones 3 (some .int), .methodLink RX11 206 yX11_has, .static yX11_has, .code yX11_has cX11_has 2 (some .boolean)] ++ wsX110)
def wsX11_fewer : List Cond := .code yX11_fewer cX11_fewer 1 (some .int) :: ([.methodLink RX11 222 yX11_fewerNow, .instanceMethod yX11_fewerNow, .selects RX11 yX11_fewerNow yX11_fewerNow, .initialized RX11, .code yX11_fewerNow cX11_fewerNow 6 (some .int), .fieldLink RX11 50 "LongestMetModel" "friendsOf" "[I", .methodLink RX11 209 yX11_ones, .static yX11_ones, .code yX11_ones cX11_ones 3 (some .int), .methodLink RX11 206 yX11_has, .static yX11_has, .code yX11_has cX11_has 2 (some .boolean)] ++ wsX110)
def wsX11_picked : List Cond := .code yX11_picked cX11_picked 3 (some .long) :: ([.constantLong RX11 217 (3360), .methodLink RX11 74 yX11_in, .static yX11_in, .initialized RX11, .code yX11_in cX11_in 3 (some .boolean), .methodLink RX11 212 yX11_pickedParts, .instanceMethod yX11_pickedParts, .selects RX11 yX11_pickedParts yX11_pickedParts, .code yX11_pickedParts cX11_pickedParts 4 (some .int), .fieldLink RX11 50 "LongestMetModel" "friendsOf" "[I", .methodLink RX11 206 yX11_has, .static yX11_has, .code yX11_has cX11_has 2 (some .boolean), .methodLink RX11 209 yX11_ones, .static yX11_ones, .code yX11_ones cX11_ones 3 (some .int), .methodLink RX11 115 yX11_lowest, .static yX11_lowest, .code yX11_lowest cX11_lowest 11 (some .long), .methodLink RX11 109 yX11_no, .static yX11_no, .code yX11_no cX11_no 1 (some .long), .constantLong RX11 72 (-9223372036854775808)] ++ wsX110)
def wsX11_bestNow : List Cond := .code yX11_bestNow cX11_bestNow 9 (some .int) :: ([.fieldLink RX11 50 "LongestMetModel" "friendsOf" "[I", .methodLink RX11 206 yX11_has, .static yX11_has, .initialized RX11, .code yX11_has cX11_has 2 (some .boolean), .methodLink RX11 209 yX11_ones, .static yX11_ones, .code yX11_ones cX11_ones 3 (some .int)] ++ wsX110)
def wsX11_best : List Cond := .code yX11_best cX11_best 3 (some .int) :: ([.methodLink RX11 74 yX11_in, .static yX11_in, .initialized RX11, .code yX11_in cX11_in 3 (some .boolean), .methodLink RX11 225 yX11_bestNow, .instanceMethod yX11_bestNow, .selects RX11 yX11_bestNow yX11_bestNow, .code yX11_bestNow cX11_bestNow 9 (some .int), .fieldLink RX11 50 "LongestMetModel" "friendsOf" "[I", .methodLink RX11 206 yX11_has, .static yX11_has, .code yX11_has cX11_has 2 (some .boolean), .methodLink RX11 209 yX11_ones, .static yX11_ones, .code yX11_ones cX11_ones 3 (some .int)] ++ wsX110)
def wsX11_piece : List Cond := .code yX11_piece cX11_piece 2 (some .int) :: ([.fieldLink RX11 228 "LongestMetModel" "pieces" "I", .fieldLink RX11 53 "LongestMetModel" "lengths" "[I", .methodLink RX11 74 yX11_in, .static yX11_in, .initialized RX11, .code yX11_in cX11_in 3 (some .boolean)] ++ wsX110)
def wsX11_snap : List Cond := .code yX11_snap cX11_snap 2 (some .int) :: ([.fieldLink RX11 228 "LongestMetModel" "pieces" "I"] ++ wsX110)
def wsX11_whole : List Cond := .code yX11_whole cX11_whole 3 (some .int) :: ([.fieldLink RX11 228 "LongestMetModel" "pieces" "I", .fieldLink RX11 53 "LongestMetModel" "lengths" "[I"] ++ wsX110)
def wsX11_power : List Cond := .code yX11_power cX11_power 5 (some .long) :: ([])
def wsX11_hit : List Cond := .code yX11_hit cX11_hit 6 (some .long) :: ([.fieldLink RX11 228 "LongestMetModel" "pieces" "I", .fieldLink RX11 53 "LongestMetModel" "lengths" "[I", .methodLink RX11 74 yX11_in, .static yX11_in, .initialized RX11, .code yX11_in cX11_in 3 (some .boolean), .methodLink RX11 109 yX11_no, .static yX11_no, .code yX11_no cX11_no 1 (some .long), .constantLong RX11 72 (-9223372036854775808), .methodLink RX11 231 yX11_whole, .instanceMethod yX11_whole, .selects RX11 yX11_whole yX11_whole, .code yX11_whole cX11_whole 3 (some .int), .methodLink RX11 234 yX11_power, .static yX11_power, .code yX11_power cX11_power 5 (some .long), .methodLink RX11 115 yX11_lowest, .static yX11_lowest, .code yX11_lowest cX11_lowest 11 (some .long)] ++ wsX110)
def wsX11_stickNow : List Cond := .code yX11_stickNow cX11_stickNow 10 (some .long) :: ([.fieldLink RX11 228 "LongestMetModel" "pieces" "I", .fieldLink RX11 53 "LongestMetModel" "lengths" "[I", .methodLink RX11 109 yX11_no, .static yX11_no, .initialized RX11, .code yX11_no cX11_no 1 (some .long), .constantLong RX11 72 (-9223372036854775808), .methodLink RX11 231 yX11_whole, .instanceMethod yX11_whole, .selects RX11 yX11_whole yX11_whole, .code yX11_whole cX11_whole 3 (some .int), .methodLink RX11 115 yX11_lowest, .static yX11_lowest, .code yX11_lowest cX11_lowest 11 (some .long), .methodLink RX11 234 yX11_power, .static yX11_power, .code yX11_power cX11_power 5 (some .long), .methodLink RX11 206 yX11_has, .static yX11_has, .code yX11_has cX11_has 2 (some .boolean), .methodLink RX11 209 yX11_ones, .static yX11_ones, .code yX11_ones cX11_ones 3 (some .int)] ++ wsX110)
def wsX11_stick_r1 : List Cond := [Cond.methodLink RX11 74 yX11_in, Cond.static yX11_in, Cond.initialized RX11, Cond.code yX11_in cX11_in 3 (some .boolean), Cond.methodLink RX11 237 yX11_stickNow, Cond.instanceMethod yX11_stickNow, Cond.selects RX11 yX11_stickNow yX11_stickNow, Cond.code yX11_stickNow cX11_stickNow 10 (some .long), Cond.fieldLink RX11 228 "LongestMetModel" "pieces" "I", Cond.fieldLink RX11 53 "LongestMetModel" "lengths" "[I", Cond.methodLink RX11 109 yX11_no, Cond.static yX11_no, Cond.code yX11_no cX11_no 1 (some .long), Cond.constantLong RX11 72 (-9223372036854775808), Cond.methodLink RX11 231 yX11_whole, Cond.instanceMethod yX11_whole, Cond.selects RX11 yX11_whole yX11_whole, Cond.code yX11_whole cX11_whole 3 (some .int), Cond.methodLink RX11 115 yX11_lowest, Cond.static yX11_lowest, Cond.code yX11_lowest cX11_lowest 11 (some .long), Cond.methodLink RX11 234 yX11_power, Cond.static yX11_power, Cond.code yX11_power cX11_power 5 (some .long)]
def wsX11_stick_r2 : List Cond := [Cond.methodLink RX11 206 yX11_has, Cond.static yX11_has, Cond.code yX11_has cX11_has 2 (some .boolean), Cond.methodLink RX11 209 yX11_ones, Cond.static yX11_ones, Cond.code yX11_ones cX11_ones 3 (some .int)]
def wsX11_stick : List Cond := .code yX11_stick cX11_stick 4 (some .long) :: ((wsX11_stick_r1 ++ wsX11_stick_r2) ++ wsX110)
def wsX11_sheet : List Cond := .code yX11_sheet cX11_sheet 5 (some .int) :: ([.fieldLink RX11 56 "LongestMetModel" "isThere" "[Z", .fieldLink RX11 60 "LongestMetModel" "forms" "[I", .fieldLink RX11 63 "LongestMetModel" "sizes" "[I", .fieldLink RX11 66 "LongestMetModel" "items" "[I", .methodLink RX11 143 yX11_isSheet, .static yX11_isSheet, .initialized RX11, .code yX11_isSheet cX11_isSheet 1 (some .boolean), .methodLink RX11 74 yX11_in, .static yX11_in, .code yX11_in cX11_in 3 (some .boolean), .methodLink RX11 147 yX11_meets, .instanceMethod yX11_meets, .selects RX11 yX11_meets yX11_meets, .code yX11_meets cX11_meets 2 (some .int), .fieldLink RX11 240 "LongestMetModel" "finding" "I"] ++ wsX110)
def wsX11_lose : List Cond := .code yX11_lose cX11_lose 2 (some .int) :: ([.fieldLink RX11 56 "LongestMetModel" "isThere" "[Z", .fieldLink RX11 63 "LongestMetModel" "sizes" "[I", .methodLink RX11 143 yX11_isSheet, .static yX11_isSheet, .initialized RX11, .code yX11_isSheet cX11_isSheet 1 (some .boolean), .methodLink RX11 74 yX11_in, .static yX11_in, .code yX11_in cX11_in 3 (some .boolean), .methodLink RX11 147 yX11_meets, .instanceMethod yX11_meets, .selects RX11 yX11_meets yX11_meets, .code yX11_meets cX11_meets 2 (some .int), .fieldLink RX11 240 "LongestMetModel" "finding" "I"] ++ wsX110)
def wsX11_lacks : List Cond := .code yX11_lacks cX11_lacks 4 (some .int) :: ([.fieldLink RX11 56 "LongestMetModel" "isThere" "[Z", .fieldLink RX11 60 "LongestMetModel" "forms" "[I", .fieldLink RX11 63 "LongestMetModel" "sizes" "[I", .methodLink RX11 74 yX11_in, .static yX11_in, .initialized RX11, .code yX11_in cX11_in 3 (some .boolean)] ++ wsX110)
def wsX11_keep : List Cond := .code yX11_keep cX11_keep 4 none :: ([.fieldLink RX11 66 "LongestMetModel" "items" "[I", .fieldLink RX11 60 "LongestMetModel" "forms" "[I"] ++ wsX110)
def wsX11_put : List Cond := .code yX11_put cX11_put 6 (some .int) :: ([.methodLink RX11 143 yX11_isSheet, .static yX11_isSheet, .initialized RX11, .code yX11_isSheet cX11_isSheet 1 (some .boolean), .methodLink RX11 74 yX11_in, .static yX11_in, .code yX11_in cX11_in 3 (some .boolean), .methodLink RX11 243 yX11_lacks, .instanceMethod yX11_lacks, .selects RX11 yX11_lacks yX11_lacks, .code yX11_lacks cX11_lacks 4 (some .int), .fieldLink RX11 56 "LongestMetModel" "isThere" "[Z", .fieldLink RX11 60 "LongestMetModel" "forms" "[I", .fieldLink RX11 63 "LongestMetModel" "sizes" "[I", .methodLink RX11 147 yX11_meets, .instanceMethod yX11_meets, .selects RX11 yX11_meets yX11_meets, .code yX11_meets cX11_meets 2 (some .int), .fieldLink RX11 240 "LongestMetModel" "finding" "I", .methodLink RX11 246 yX11_keep, .instanceMethod yX11_keep, .selects RX11 yX11_keep yX11_keep, .code yX11_keep cX11_keep 4 none, .fieldLink RX11 66 "LongestMetModel" "items" "[I"] ++ wsX110)
def wsX11_get : List Cond := .code yX11_get cX11_get 5 (some .int) :: ([.constant RX11 250 (-2147483648), .fieldLink RX11 240 "LongestMetModel" "finding" "I", .fieldLink RX11 66 "LongestMetModel" "items" "[I", .methodLink RX11 143 yX11_isSheet, .static yX11_isSheet, .initialized RX11, .code yX11_isSheet cX11_isSheet 1 (some .boolean), .methodLink RX11 74 yX11_in, .static yX11_in, .code yX11_in cX11_in 3 (some .boolean), .methodLink RX11 243 yX11_lacks, .instanceMethod yX11_lacks, .selects RX11 yX11_lacks yX11_lacks, .code yX11_lacks cX11_lacks 4 (some .int), .fieldLink RX11 56 "LongestMetModel" "isThere" "[Z", .fieldLink RX11 60 "LongestMetModel" "forms" "[I", .fieldLink RX11 63 "LongestMetModel" "sizes" "[I"] ++ wsX110)
def wsX11_copy : List Cond := .code yX11_copy cX11_copy 7 (some .int) :: ([.fieldLink RX11 56 "LongestMetModel" "isThere" "[Z", .fieldLink RX11 60 "LongestMetModel" "forms" "[I", .fieldLink RX11 63 "LongestMetModel" "sizes" "[I", .fieldLink RX11 69 "LongestMetModel" "moved" "[I", .fieldLink RX11 66 "LongestMetModel" "items" "[I", .methodLink RX11 143 yX11_isSheet, .static yX11_isSheet, .initialized RX11, .code yX11_isSheet cX11_isSheet 1 (some .boolean), .methodLink RX11 74 yX11_in, .static yX11_in, .code yX11_in cX11_in 3 (some .boolean), .methodLink RX11 147 yX11_meets, .instanceMethod yX11_meets, .selects RX11 yX11_meets yX11_meets, .code yX11_meets cX11_meets 2 (some .int), .fieldLink RX11 240 "LongestMetModel" "finding" "I"] ++ wsX110)
def wsX11_write_r1 : List Cond := [Cond.fieldLink RX11 56 "LongestMetModel" "isThere" "[Z", Cond.fieldLink RX11 63 "LongestMetModel" "sizes" "[I", Cond.methodLink RX11 74 yX11_in, Cond.static yX11_in, Cond.initialized RX11, Cond.code yX11_in cX11_in 3 (some .boolean), Cond.methodLink RX11 143 yX11_isSheet, Cond.static yX11_isSheet, Cond.code yX11_isSheet cX11_isSheet 1 (some .boolean), Cond.methodLink RX11 147 yX11_meets, Cond.instanceMethod yX11_meets, Cond.selects RX11 yX11_meets yX11_meets, Cond.code yX11_meets cX11_meets 2 (some .int), Cond.fieldLink RX11 240 "LongestMetModel" "finding" "I", Cond.methodLink RX11 95 yX11_many, Cond.instanceMethod yX11_many, Cond.selects RX11 yX11_many yX11_many, Cond.code yX11_many cX11_many 4 (some .int), Cond.methodLink RX11 98 yX11_isBus, Cond.instanceMethod yX11_isBus, Cond.selects RX11 yX11_isBus yX11_isBus, Cond.code yX11_isBus cX11_isBus 3 (some .boolean), Cond.fieldLink RX11 16 "LongestMetModel" "goes" "[I", Cond.methodLink RX11 102 yX11_waitOf]
def wsX11_write_r2 : List Cond := [Cond.instanceMethod yX11_waitOf, Cond.selects RX11 yX11_waitOf yX11_waitOf, Cond.code yX11_waitOf cX11_waitOf 4 (some .int), Cond.methodLink RX11 246 yX11_keep, Cond.instanceMethod yX11_keep, Cond.selects RX11 yX11_keep yX11_keep, Cond.code yX11_keep cX11_keep 4 none, Cond.fieldLink RX11 66 "LongestMetModel" "items" "[I", Cond.fieldLink RX11 60 "LongestMetModel" "forms" "[I"]
def wsX11_write : List Cond := .code yX11_write cX11_write 4 (some .int) :: ((wsX11_write_r1 ++ wsX11_write_r2) ++ wsX110)
def wsX11_friendships : List Cond := .code yX11_friendships cX11_friendships 3 (some .int) :: ([.fieldLink RX11 50 "LongestMetModel" "friendsOf" "[I", .methodLink RX11 209 yX11_ones, .static yX11_ones, .initialized RX11, .code yX11_ones cX11_ones 3 (some .int)] ++ wsX110)
def wsX11_count_r1 : List Cond := [Cond.fieldLink RX11 78 "LongestMetModel" "typed" "I", Cond.fieldLink RX11 137 "LongestMetModel" "answers" "I", Cond.fieldLink RX11 176 "LongestMetModel" "stays" "I", Cond.fieldLink RX11 240 "LongestMetModel" "finding" "I", Cond.methodLink RX11 95 yX11_many, Cond.instanceMethod yX11_many, Cond.selects RX11 yX11_many yX11_many, Cond.initialized RX11, Cond.code yX11_many cX11_many 4 (some .int), Cond.methodLink RX11 98 yX11_isBus, Cond.instanceMethod yX11_isBus, Cond.selects RX11 yX11_isBus yX11_isBus, Cond.code yX11_isBus cX11_isBus 3 (some .boolean), Cond.fieldLink RX11 16 "LongestMetModel" "goes" "[I", Cond.methodLink RX11 150 yX11_saidOf, Cond.instanceMethod yX11_saidOf, Cond.selects RX11 yX11_saidOf yX11_saidOf, Cond.code yX11_saidOf cX11_saidOf 5 (some .int), Cond.fieldLink RX11 31 "LongestMetModel" "answerTime" "[I", Cond.fieldLink RX11 37 "LongestMetModel" "knownTo" "I", Cond.fieldLink RX11 34 "LongestMetModel" "answerBack" "[I", Cond.fieldLink RX11 28 "LongestMetModel" "answerOf" "[I", Cond.methodLink RX11 251 yX11_friendships, Cond.instanceMethod yX11_friendships]
def wsX11_count_r2 : List Cond := [Cond.selects RX11 yX11_friendships yX11_friendships, Cond.code yX11_friendships cX11_friendships 3 (some .int), Cond.fieldLink RX11 50 "LongestMetModel" "friendsOf" "[I", Cond.methodLink RX11 209 yX11_ones, Cond.static yX11_ones, Cond.code yX11_ones cX11_ones 3 (some .int), Cond.methodLink RX11 231 yX11_whole, Cond.instanceMethod yX11_whole, Cond.selects RX11 yX11_whole yX11_whole, Cond.code yX11_whole cX11_whole 3 (some .int), Cond.fieldLink RX11 228 "LongestMetModel" "pieces" "I", Cond.fieldLink RX11 53 "LongestMetModel" "lengths" "[I"]
def wsX11_count : List Cond := .code yX11_count cX11_count 2 (some .int) :: ((wsX11_count_r1 ++ wsX11_count_r2) ++ wsX110)
def wsX11_digest_r1 : List Cond := [Cond.constantLong RX11 254 (17), Cond.constantLong RX11 256 (31), Cond.methodLink RX11 258 yX11_count, Cond.instanceMethod yX11_count, Cond.selects RX11 yX11_count yX11_count, Cond.initialized RX11, Cond.code yX11_count cX11_count 2 (some .int), Cond.fieldLink RX11 78 "LongestMetModel" "typed" "I", Cond.fieldLink RX11 137 "LongestMetModel" "answers" "I", Cond.fieldLink RX11 176 "LongestMetModel" "stays" "I", Cond.fieldLink RX11 240 "LongestMetModel" "finding" "I", Cond.methodLink RX11 95 yX11_many, Cond.instanceMethod yX11_many, Cond.selects RX11 yX11_many yX11_many, Cond.code yX11_many cX11_many 4 (some .int), Cond.methodLink RX11 98 yX11_isBus, Cond.instanceMethod yX11_isBus, Cond.selects RX11 yX11_isBus yX11_isBus, Cond.code yX11_isBus cX11_isBus 3 (some .boolean), Cond.fieldLink RX11 16 "LongestMetModel" "goes" "[I", Cond.methodLink RX11 150 yX11_saidOf, Cond.instanceMethod yX11_saidOf, Cond.selects RX11 yX11_saidOf yX11_saidOf, Cond.code yX11_saidOf cX11_saidOf 5 (some .int)]
def wsX11_digest_r2 : List Cond := [Cond.fieldLink RX11 31 "LongestMetModel" "answerTime" "[I", Cond.fieldLink RX11 37 "LongestMetModel" "knownTo" "I", Cond.fieldLink RX11 34 "LongestMetModel" "answerBack" "[I", Cond.fieldLink RX11 28 "LongestMetModel" "answerOf" "[I", Cond.methodLink RX11 251 yX11_friendships, Cond.instanceMethod yX11_friendships, Cond.selects RX11 yX11_friendships yX11_friendships, Cond.code yX11_friendships cX11_friendships 3 (some .int), Cond.fieldLink RX11 50 "LongestMetModel" "friendsOf" "[I", Cond.methodLink RX11 209 yX11_ones, Cond.static yX11_ones, Cond.code yX11_ones cX11_ones 3 (some .int), Cond.methodLink RX11 231 yX11_whole, Cond.instanceMethod yX11_whole, Cond.selects RX11 yX11_whole yX11_whole, Cond.code yX11_whole cX11_whole 3 (some .int), Cond.fieldLink RX11 228 "LongestMetModel" "pieces" "I", Cond.fieldLink RX11 53 "LongestMetModel" "lengths" "[I", Cond.methodLink RX11 91 yX11_faultNow, Cond.instanceMethod yX11_faultNow, Cond.selects RX11 yX11_faultNow yX11_faultNow, Cond.code yX11_faultNow cX11_faultNow 4 (some .int), Cond.fieldLink RX11 13 "LongestMetModel" "said60" "[I", Cond.fieldLink RX11 81 "LongestMetModel" "at" "I"]
def wsX11_digest_r3 : List Cond := [Cond.methodLink RX11 88 yX11_number, Cond.instanceMethod yX11_number, Cond.selects RX11 yX11_number yX11_number, Cond.code yX11_number cX11_number 4 (some .int), Cond.methodLink RX11 84 yX11_byteAt, Cond.instanceMethod yX11_byteAt, Cond.selects RX11 yX11_byteAt yX11_byteAt, Cond.code yX11_byteAt cX11_byteAt 2 (some .int), Cond.fieldLink RX11 7 "LongestMetModel" "text" "[I", Cond.methodLink RX11 74 yX11_in, Cond.static yX11_in, Cond.code yX11_in cX11_in 3 (some .boolean), Cond.methodLink RX11 119 yX11_gapsNow, Cond.instanceMethod yX11_gapsNow, Cond.selects RX11 yX11_gapsNow yX11_gapsNow, Cond.code yX11_gapsNow cX11_gapsNow 11 (some .long), Cond.constantLong RX11 113 (60), Cond.methodLink RX11 109 yX11_no, Cond.static yX11_no, Cond.code yX11_no cX11_no 1 (some .long), Cond.constantLong RX11 72 (-9223372036854775808), Cond.methodLink RX11 106 yX11_gapBehind, Cond.instanceMethod yX11_gapBehind, Cond.selects RX11 yX11_gapBehind yX11_gapBehind]
def wsX11_digest_r4 : List Cond := [Cond.code yX11_gapBehind cX11_gapBehind 3 (some .int), Cond.methodLink RX11 102 yX11_waitOf, Cond.instanceMethod yX11_waitOf, Cond.selects RX11 yX11_waitOf yX11_waitOf, Cond.code yX11_waitOf cX11_waitOf 4 (some .int), Cond.methodLink RX11 115 yX11_lowest, Cond.static yX11_lowest, Cond.code yX11_lowest cX11_lowest 11 (some .long), Cond.methodLink RX11 131 yX11_heldNow, Cond.instanceMethod yX11_heldNow, Cond.selects RX11 yX11_heldNow yX11_heldNow, Cond.code yX11_heldNow cX11_heldNow 12 (some .int), Cond.fieldLink RX11 19 "LongestMetModel" "minutes" "[I", Cond.constant RX11 123 (100000), Cond.fieldLink RX11 25 "LongestMetModel" "later" "[I", Cond.fieldLink RX11 22 "LongestMetModel" "least" "[I", Cond.methodLink RX11 127 yX11_backFrom, Cond.instanceMethod yX11_backFrom, Cond.selects RX11 yX11_backFrom yX11_backFrom, Cond.code yX11_backFrom cX11_backFrom 11 (some .int), Cond.methodLink RX11 124 yX11_waitsIn, Cond.static yX11_waitsIn, Cond.code yX11_waitsIn cX11_waitsIn 1 (some .int), Cond.methodLink RX11 156 yX11_sizeNow]
def wsX11_digest_r5 : List Cond := [Cond.instanceMethod yX11_sizeNow, Cond.selects RX11 yX11_sizeNow yX11_sizeNow, Cond.code yX11_sizeNow cX11_sizeNow 6 (some .long), Cond.methodLink RX11 153 yX11_familyParts, Cond.instanceMethod yX11_familyParts, Cond.selects RX11 yX11_familyParts yX11_familyParts, Cond.code yX11_familyParts cX11_familyParts 3 (some .int), Cond.methodLink RX11 173 yX11_likeliestNow, Cond.instanceMethod yX11_likeliestNow, Cond.selects RX11 yX11_likeliestNow yX11_likeliestNow, Cond.code yX11_likeliestNow cX11_likeliestNow 10 (some .int), Cond.methodLink RX11 163 yX11_childrenOf, Cond.instanceMethod yX11_childrenOf, Cond.selects RX11 yX11_childrenOf yX11_childrenOf, Cond.code yX11_childrenOf cX11_childrenOf 4 (some .int), Cond.fieldLink RX11 41 "LongestMetModel" "families" "[I", Cond.methodLink RX11 160 yX11_choose, Cond.static yX11_choose, Cond.code yX11_choose cX11_choose 5 (some .long), Cond.methodLink RX11 166 yX11_choices, Cond.instanceMethod yX11_choices, Cond.selects RX11 yX11_choices yX11_choices, Cond.code yX11_choices cX11_choices 5 (some .long), Cond.methodLink RX11 169 yX11_way]
def wsX11_digest_r6 : List Cond := [Cond.static yX11_way, Cond.code yX11_way cX11_way 23 (some .int), Cond.methodLink RX11 193 yX11_wardNow, Cond.instanceMethod yX11_wardNow, Cond.selects RX11 yX11_wardNow yX11_wardNow, Cond.code yX11_wardNow cX11_wardNow 4 (some .int), Cond.methodLink RX11 187 yX11_wardOf, Cond.instanceMethod yX11_wardOf, Cond.selects RX11 yX11_wardOf yX11_wardOf, Cond.code yX11_wardOf cX11_wardOf 10 (some .long), Cond.fieldLink RX11 44 "LongestMetModel" "fromDay" "[I", Cond.constantLong RX11 185 (232792560), Cond.methodLink RX11 179 yX11_daysIn, Cond.instanceMethod yX11_daysIn, Cond.selects RX11 yX11_daysIn yX11_daysIn, Cond.code yX11_daysIn cX11_daysIn 6 (some .int), Cond.fieldLink RX11 47 "LongestMetModel" "toDay" "[I", Cond.methodLink RX11 182 yX11_lengthOf, Cond.instanceMethod yX11_lengthOf, Cond.selects RX11 yX11_lengthOf yX11_lengthOf, Cond.code yX11_lengthOf cX11_lengthOf 2 (some .int), Cond.methodLink RX11 196 yX11_meansNow, Cond.instanceMethod yX11_meansNow, Cond.selects RX11 yX11_meansNow yX11_meansNow]
def wsX11_digest_r7 : List Cond := [Cond.code yX11_meansNow cX11_meansNow 11 (some .long), Cond.methodLink RX11 203 yX11_fullestNow, Cond.instanceMethod yX11_fullestNow, Cond.selects RX11 yX11_fullestNow yX11_fullestNow, Cond.code yX11_fullestNow cX11_fullestNow 6 (some .int), Cond.methodLink RX11 200 yX11_apartNow, Cond.instanceMethod yX11_apartNow, Cond.selects RX11 yX11_apartNow yX11_apartNow, Cond.code yX11_apartNow cX11_apartNow 6 (some .int), Cond.methodLink RX11 219 yX11_meanNow, Cond.instanceMethod yX11_meanNow, Cond.selects RX11 yX11_meanNow yX11_meanNow, Cond.code yX11_meanNow cX11_meanNow 8 (some .long), Cond.constantLong RX11 215 (8), Cond.constantLong RX11 217 (3360), Cond.methodLink RX11 212 yX11_pickedParts, Cond.instanceMethod yX11_pickedParts, Cond.selects RX11 yX11_pickedParts yX11_pickedParts, Cond.code yX11_pickedParts cX11_pickedParts 4 (some .int), Cond.methodLink RX11 206 yX11_has, Cond.static yX11_has, Cond.code yX11_has cX11_has 2 (some .boolean), Cond.methodLink RX11 222 yX11_fewerNow, Cond.instanceMethod yX11_fewerNow]
def wsX11_digest_r8 : List Cond := [Cond.selects RX11 yX11_fewerNow yX11_fewerNow, Cond.code yX11_fewerNow cX11_fewerNow 6 (some .int), Cond.methodLink RX11 225 yX11_bestNow, Cond.instanceMethod yX11_bestNow, Cond.selects RX11 yX11_bestNow yX11_bestNow, Cond.code yX11_bestNow cX11_bestNow 9 (some .int), Cond.methodLink RX11 237 yX11_stickNow, Cond.instanceMethod yX11_stickNow, Cond.selects RX11 yX11_stickNow yX11_stickNow, Cond.code yX11_stickNow cX11_stickNow 10 (some .long), Cond.methodLink RX11 234 yX11_power, Cond.static yX11_power, Cond.code yX11_power cX11_power 5 (some .long)]
def wsX11_digest : List Cond := .code yX11_digest cX11_digest 5 (some .long) :: ((wsX11_digest_r1 ++ (wsX11_digest_r2 ++ (wsX11_digest_r3 ++ (wsX11_digest_r4 ++ (wsX11_digest_r5 ++ (wsX11_digest_r6 ++ (wsX11_digest_r7 ++ wsX11_digest_r8))))))) ++ wsX110)
def wsJ9_max_7cf53 : List Cond := .code yJ9_max_7cf53 cJ9_max_7cf53 2 (some .int) :: ([])
def wsJ9_min_7cf53 : List Cond := .code yJ9_min_7cf53 cJ9_min_7cf53 2 (some .int) :: ([])
end
section
abbrev zSt : Type := (Nat → Int32) × (Nat → Int64) × (Nat → Nat → Int32) × (Nat → Nat → Int64)
def zI (S : zSt) (k : Nat) : Int32 := S.1 k
def zJ (S : zSt) (k : Nat) : Int64 := S.2.1 k
def zA (S : zSt) (k : Nat) : Nat → Int32 := S.2.2.1 k
def zL (S : zSt) (k : Nat) : Nat → Int64 := S.2.2.2 k
def sI (S : zSt) (k : Nat) (v : Int32) : zSt := (fun j => if j = k then v else S.1 j, S.2)
def sJ (S : zSt) (k : Nat) (v : Int64) : zSt := (S.1, fun j => if j = k then v else S.2.1 j, S.2.2)
def sA (S : zSt) (k : Nat) (f : Nat → Int32) : zSt := (S.1, S.2.1, fun j => if j = k then f else S.2.2.1 j, S.2.2.2)
def sL (S : zSt) (k : Nat) (f : Nat → Int64) : zSt := (S.1, S.2.1, S.2.2.1, fun j => if j = k then f else S.2.2.2 j)
abbrev zWl : Type := Nat × (Nat → Nat) × (zSt → Nat → va_E)
def zws (w : zWl) (S : zSt) : va_W := (List.range w.1).map (fun k => (w.2.1 k, w.2.2 S k))
theorem zws_get {w : zWl} {S : zSt} {k : Nat} (h : k < w.1) : (zws w S)[k]? = some (w.2.1 k, w.2.2 S k) := by
  unfold zws
  rw [List.getElem?_map, List.getElem?_range h]
  rfl
theorem zws_len {w : zWl} {S : zSt} : (zws w S).length = w.1 := by simp [zws]
theorem zws_set {w : zWl} {S S' : zSt} {k : Nat} (h : k < w.1) (ho : ∀ j, j ≠ k → w.2.2 S' j = w.2.2 S j) : (zws w S).set k (w.2.1 k, w.2.2 S' k) = zws w S' := by
  apply List.ext_getElem?
  intro j
  by_cases hj : j < w.1
  · rw [zws_get hj]
    by_cases e : j = k
    · subst e
      rw [List.getElem?_set_self (by rw [zws_len]; exact hj)]
    · rw [List.getElem?_set_ne (Ne.symm e), zws_get hj, ho j e]
  · rw [List.getElem?_eq_none (by rw [List.length_set, zws_len]; omega), List.getElem?_eq_none (by rw [zws_len]; omega)]
def zAA (w : zWl) (sz : Nat) : Nat → Prop := fun q => (∃ k, k < w.1 ∧ q = w.2.1 k) ∨ sz ≤ q
def zin (w : zWl) : Prop := ∀ i j, i < w.1 → j < w.1 → w.2.1 i = w.2.1 j → i = j
theorem zws_at {w : zWl} {S : zSt} {k : Nat} {q : Nat × va_E} (h : (zws w S)[k]? = some q) : k < w.1 ∧ q = (w.2.1 k, w.2.2 S k) := by
  have hk : k < w.1 := by
    have := (List.getElem?_eq_some_iff.mp h).1
    rwa [zws_len] at this
  refine ⟨hk, ?_⟩
  rw [zws_get hk] at h
  exact (Option.some.inj h).symm
theorem zD {w : zWl} (h : zin w) (S : zSt) (sz : Nat) : va_D (zAA w sz) (zws w S) := by
  refine ⟨fun i j p q hi hj e => ?_, fun k q hk => ?_⟩
  · obtain ⟨h1, rfl⟩ := zws_at hi
    obtain ⟨h2, rfl⟩ := zws_at hj
    exact h i j h1 h2 e
  · obtain ⟨h1, rfl⟩ := zws_at hk
    exact Or.inl ⟨k, h1, rfl⟩
def zNs (U : State) : Prop := va_Nw (.methodLinkNest RX8 36 yX10_outside RX10) U ∧ va_Nw (.methodLinkNest RX7 31 yX10_outside RX10) U ∧ va_Nw (.methodLinkNest RX5 31 yX10_outside RX10) U
theorem zNs.warm {s U : State} (hW : s.WarmedH U.vm) (h : zNs s) : zNs U := ⟨va_Nw.warmM hW h.1, va_Nw.warmM hW h.2.1, va_Nw.warmM hW h.2.2⟩
theorem zNs.same {s U : State} (e : s.vm = U.vm) (h : zNs s) : zNs U := ⟨va_Nw.same rfl e h.1, va_Nw.same rfl e h.2.1, va_Nw.same rfl e h.2.2⟩
abbrev zKx : Type := Program × Launch × Env × Room × State × MethodId × Array Value × List Frame × Method × Code
abbrev zCx : Type := zKx × va_G × Nat
abbrev zTy : Type := List (ClassId × FieldType)
abbrev zOut : Type := Option Value × zSt
def zGood (E : zCx) (w : zWl) (tys : zTy) (cc : ByteArray) (own : String) (Ts : List Cond) (rt : Option FieldType) (rm : Room) : Prop :=
  CallFix E.1.1 E.1.2.2.2.2.2.1 E.1.2.2.2.2.2.2.2.2.2 cc E.2.2 E.1.2.2.2.2.1 E.1.2.2.2.2.2.2.1 Ts own ∧ va_K E.2.1 vwCl tys E.1.2.2.2.2.1 ∧ zin w ∧ E.1.2.2.2.2.2.2.2.2.1.locks = false ∧ E.1.2.2.2.2.2.2.2.2.1.sig.returnType = rt ∧ E.1.2.2.2.1 = rm ∧ zNs E.1.2.2.2.2.1
def zQ (D : va_G) (w : zWl) (out : zOut) : Array Value → State → Outcome → State → Prop := fun _ st o t => o = .returned out.1 ∧ va_P D vwCl (zws w out.2) t.heap ∧ va_F (zAA w st.heap.size) st t
def zP (D : va_G) (w : zWl) (tys : zTy) (S : zSt) (sz : Nat) (as : List Value) : Array Value → State → Prop := va_Pc as (fun U => U.heap.size = sz ∧ va_P D vwCl (zws w S) U.heap ∧ va_K D vwCl tys U ∧ zNs U)
def zMet (l : Launch) (D : va_G) (w : zWl) (tys : zTy) (y : MethodName) (ws : List Cond) (rm : Room) (S : zSt) (as : List Value) (out : zOut) : Prop := ∀ sz, Met l y ws rm (zP D w tys S sz as) (zQ D w out) 0 0 (zAA w sz)
def zX (E : zCx) (w : zWl) (out : zOut) (S : zSt) (pc : Nat) (lv : List (Nat × Value)) (st : List Value) : Prop :=
  ∀ (H : Heap) (locs : List Loc) (ls : Array Slot), va_P E.2.1 vwCl (zws w S) H → va_S (zAA w E.1.2.2.2.2.1.heap.size) E.1.2.2.2.2.1.heap H locs → lv_has ls E.2.2 lv →
    W E.1.1 E.1.2.1 E.1.2.2.1 E.1.2.2.2.1 E.1.2.2.2.2.1 E.1.2.2.2.2.2.1 E.1.2.2.2.2.2.2.1 E.1.2.2.2.2.2.2.2.1 E.1.2.2.2.2.2.2.2.2.1 E.1.2.2.2.2.2.2.2.2.2 H locs 0 0
      (MQ E.1.2.2.2.2.2.2.2.1 (zQ E.2.1 w out) E.1.2.2.2.2.2.2.1 E.1.2.2.2.2.1 0 0 (zAA w E.1.2.2.2.2.1.heap.size)) (F0 E.1.2.2.2.2.2.1 pc ls st)
def Xo {α : Type} (E : zCx) (w : zWl) (em : α → zOut) (S : zSt) (pc : Nat) (lv : List (Nat × Value)) (st : List Value) (o : Option α) : Prop := ∀ a, o = some a → zX E w (em a) S pc lv st
def eI (S : zSt) (r : Int32) : zOut := (some (.int r), S)
def eL (S : zSt) (r : Int64) : zOut := (some (.long r), S)
def eIw (q : Int32 × zSt) : zOut := (some (.int q.1), q.2)
def eLw (q : Int64 × zSt) : zOut := (some (.long q.1), q.2)
def eVw (S : zSt) : zOut := (none, S)
/-- a named value -/
def lt {α β : Type} (e : α) (f : α → β) : β := f e
/-- a place where roads meet -/
def jn {α β : Type} (f : α) (g : α → β) : β := g f
/-- an index that is in its row, or nothing -/
def ibd {α : Type} (i : Int32) (n : Nat) (o : Option α) : Option α := if i < 0 ∨ n ≤ i.toNatClampNeg then none else o
/-- a divisor that isn't 0, or nothing -/
def nz {α : Type} (y : Int32) (o : Option α) : Option α := if y = 0 then none else o
def nzl {α : Type} (y : Int64) (o : Option α) : Option α := if y = 0 then none else o
/-- an answer that is 0 or 1, or nothing -/
def zb {α : Type} (y : Int32) (o : Option α) : Option α := if y = 0 ∨ y = 1 then o else none
def b2 {α β γ : Type} (o : Option (α × β)) (f : α → β → Option γ) : Option γ := o.bind (fun q => f q.1 q.2)

section ZR
variable {α β : Type} {E : zCx} {w : zWl} {tys : zTy} {cc : ByteArray} {own : String} {Ts : List Cond} {rt : Option FieldType} {rm : Room} {em : α → zOut} {S : zSt} {pc : Nat} {lv : List (Nat × Value)} {st : List Value} {o : Option α}
theorem r_none : Xo E w em S pc lv st (none : Option α) := fun a h => by cases h
theorem r_sub {lv' : List (Nat × Value)} (ks : List Nat) (hl : lv_pick lv ks = lv') (k : Xo E w em S pc lv' st o) : Xo E w em S pc lv st o := fun a ha H locs ls hP hS h => k a ha H locs ls hP hS (lv_sub h ks hl)
theorem r_lt {τ : Type} {e : τ} {f : τ → Option α} (k : Xo E w em S pc lv st (f e)) : Xo E w em S pc lv st (lt e f) := k
theorem r_jn {τ : Type} {f : τ} {g : τ → Option α} (k : Xo E w em S pc lv st (g f)) : Xo E w em S pc lv st (jn f g) := k

theorem r_iconst (B : zGood E w tys cc own Ts rt rm) {n : Int} (v : Int32) (hd : decode cc pc = .ok (.iconst n, 1)) (hv : Int32.ofInt n = v) (k : Xo E w em S (pc + 1) lv (.int v :: st) o) : Xo E w em S pc lv st o := fun a ha H locs ls hP hS hl => lv_iconst B.1.1 B.1.2.1 hd hv (k a ha H locs ls hP hS hl)
theorem r_bipush (B : zGood E w tys cc own Ts rt rm) {n : Int} (v : Int32) (hd : decode cc pc = .ok (.bipush n, 2)) (hv : (Int8.ofInt n).toInt32 = v) (k : Xo E w em S (pc + 2) lv (.int v :: st) o) : Xo E w em S pc lv st o := fun a ha H locs ls hP hS hl => lv_bipush B.1.1 B.1.2.1 hd hv (k a ha H locs ls hP hS hl)
theorem r_sipush (B : zGood E w tys cc own Ts rt rm) {n : Int} (v : Int32) (hd : decode cc pc = .ok (.sipush n, 3)) (hv : (Int16.ofInt n).toInt32 = v) (k : Xo E w em S (pc + 3) lv (.int v :: st) o) : Xo E w em S pc lv st o := fun a ha H locs ls hP hS hl => lv_sipush B.1.1 B.1.2.1 hd hv (k a ha H locs ls hP hS hl)
theorem r_lconst (B : zGood E w tys cc own Ts rt rm) {n : Fin 2} (v : Int64) (hd : decode cc pc = .ok (.lconst n, 1)) (hv : Int64.ofNat (n : Nat) = v) (k : Xo E w em S (pc + 1) lv (.long v :: st) o) : Xo E w em S pc lv st o := fun a ha H locs ls hP hS hl => lv_lconst B.1.1 B.1.2.1 hd hv (k a ha H locs ls hP hS hl)
theorem r_ldc (B : zGood E w tys cc own Ts rt rm) {idx : Nat} (v : Int32) (hm : Cond.constant own idx v ∈ Ts) (hd : decode cc pc = .ok (.ldc idx, 2)) (k : Xo E w em S (pc + 2) lv (.int v :: st) o) : Xo E w em S pc lv st o := fun a ha H locs ls hP hS hl => lv_ldc B.1.1 B.1.2.1 B.1.2.2.2.1 (B.1.2.2.2.2 _ hm) hd (k a ha H locs ls hP hS hl)
theorem r_ldcw (B : zGood E w tys cc own Ts rt rm) {idx : Nat} (v : Int32) (hm : Cond.constant own idx v ∈ Ts) (hd : decode cc pc = .ok (.ldc_w idx, 3)) (k : Xo E w em S (pc + 3) lv (.int v :: st) o) : Xo E w em S pc lv st o := fun a ha H locs ls hP hS hl => lv_ldcw B.1.1 B.1.2.1 B.1.2.2.2.1 (B.1.2.2.2.2 _ hm) hd (k a ha H locs ls hP hS hl)
theorem r_ldc2 (B : zGood E w tys cc own Ts rt rm) {idx : Nat} (v : Int64) (hm : Cond.constantLong own idx v ∈ Ts) (hd : decode cc pc = .ok (.ldc2_w idx, 3)) (k : Xo E w em S (pc + 3) lv (.long v :: st) o) : Xo E w em S pc lv st o := fun a ha H locs ls hP hS hl => lv_ldc2 B.1.1 B.1.2.1 B.1.2.2.2.1 (B.1.2.2.2.2 _ hm) hd (k a ha H locs ls hP hS hl)
theorem r_iload_n (B : zGood E w tys cc own Ts rt rm) {j : Fin 4} {i : Nat} {x : Int32} (q : Nat) (hd : decode cc pc = .ok (.iload_n j, 1)) (hi : (j : Nat) = i) (hq : lv[q]? = some (i, .int x)) (k : Xo E w em S (pc + 1) lv (.int x :: st) o) : Xo E w em S pc lv st o := fun a ha H locs ls hP hS hl => lv_iload_n B.1.1 B.1.2.1 hd hi (lv_at hl q hq) (k a ha H locs ls hP hS hl)
theorem r_iload (B : zGood E w tys cc own Ts rt rm) {i : Nat} {x : Int32} (q : Nat) (hd : decode cc pc = .ok (.iload i, 2)) (hq : lv[q]? = some (i, .int x)) (k : Xo E w em S (pc + 2) lv (.int x :: st) o) : Xo E w em S pc lv st o := fun a ha H locs ls hP hS hl => lv_iload B.1.1 B.1.2.1 hd (lv_at hl q hq) (k a ha H locs ls hP hS hl)
theorem r_lload_n (B : zGood E w tys cc own Ts rt rm) {j : Fin 4} {i : Nat} {x : Int64} (q : Nat) (hd : decode cc pc = .ok (.lload_n j, 1)) (hi : (j : Nat) = i) (hq : lv[q]? = some (i, .long x)) (k : Xo E w em S (pc + 1) lv (.long x :: st) o) : Xo E w em S pc lv st o := fun a ha H locs ls hP hS hl => lv_lload_n B.1.1 B.1.2.1 hd hi (lv_at hl q hq) (k a ha H locs ls hP hS hl)
theorem r_lload (B : zGood E w tys cc own Ts rt rm) {i : Nat} {x : Int64} (q : Nat) (hd : decode cc pc = .ok (.lload i, 2)) (hq : lv[q]? = some (i, .long x)) (k : Xo E w em S (pc + 2) lv (.long x :: st) o) : Xo E w em S pc lv st o := fun a ha H locs ls hP hS hl => lv_lload B.1.1 B.1.2.1 hd (lv_at hl q hq) (k a ha H locs ls hP hS hl)
theorem r_aload_n (B : zGood E w tys cc own Ts rt rm) {j : Fin 4} {i : Nat} {x : Nat} (q : Nat) (hd : decode cc pc = .ok (.aload_n j, 1)) (hi : (j : Nat) = i) (hq : lv[q]? = some (i, .ref x)) (k : Xo E w em S (pc + 1) lv (.ref x :: st) o) : Xo E w em S pc lv st o := fun a ha H locs ls hP hS hl => lv_aload_n B.1.1 B.1.2.1 hd hi (lv_at hl q hq) (k a ha H locs ls hP hS hl)
theorem r_aload (B : zGood E w tys cc own Ts rt rm) {i : Nat} {x : Nat} (q : Nat) (hd : decode cc pc = .ok (.aload i, 2)) (hq : lv[q]? = some (i, .ref x)) (k : Xo E w em S (pc + 2) lv (.ref x :: st) o) : Xo E w em S pc lv st o := fun a ha H locs ls hP hS hl => lv_aload B.1.1 B.1.2.1 hd (lv_at hl q hq) (k a ha H locs ls hP hS hl)
theorem r_istore_n (B : zGood E w tys cc own Ts rt rm) {j : Fin 4} {i : Nat} {e : Int32} {lv' : Int32 → List (Nat × Value)} {f : Int32 → Option α} (hd : decode cc pc = .ok (.istore_n j, 1)) (hi : (j : Nat) = i) (hn : i < E.2.2) (hl' : ∀ x : Int32, (i, Value.int x) :: lv.filter (fun q => !(q.1 == i) && !(q.1 + 1 == i && q.2.category == 2)) = lv' x) (k : ∀ x : Int32, Xo E w em S (pc + 1) (lv' x) st (f x)) : Xo E w em S pc lv (.int e :: st) (lt e f) := fun a ha H locs ls hP hS hl => lv_istore_n B.1.1 B.1.2.1 hd hi hl hn (hl' e) (fun ls' hl2 => k e a ha H locs ls' hP hS hl2)
theorem r_istore (B : zGood E w tys cc own Ts rt rm) {i : Nat} {e : Int32} {lv' : Int32 → List (Nat × Value)} {f : Int32 → Option α} (hd : decode cc pc = .ok (.istore i, 2)) (hn : i < E.2.2) (hl' : ∀ x : Int32, (i, Value.int x) :: lv.filter (fun q => !(q.1 == i) && !(q.1 + 1 == i && q.2.category == 2)) = lv' x) (k : ∀ x : Int32, Xo E w em S (pc + 2) (lv' x) st (f x)) : Xo E w em S pc lv (.int e :: st) (lt e f) := fun a ha H locs ls hP hS hl => lv_istore B.1.1 B.1.2.1 hd hl hn (hl' e) (fun ls' hl2 => k e a ha H locs ls' hP hS hl2)
theorem r_lstore_n (B : zGood E w tys cc own Ts rt rm) {j : Fin 4} {i : Nat} {e : Int64} {lv' : Int64 → List (Nat × Value)} {f : Int64 → Option α} (hd : decode cc pc = .ok (.lstore_n j, 1)) (hi : (j : Nat) = i) (hn : i + 1 < E.2.2) (hl' : ∀ x : Int64, (i, Value.long x) :: lv.filter (fun q => !(q.1 == i) && (!(q.1 == i + 1) && !(q.1 + 1 == i && q.2.category == 2))) = lv' x) (k : ∀ x : Int64, Xo E w em S (pc + 1) (lv' x) st (f x)) : Xo E w em S pc lv (.long e :: st) (lt e f) := fun a ha H locs ls hP hS hl => lv_lstore_n B.1.1 B.1.2.1 hd hi hl hn (hl' e) (fun ls' hl2 => k e a ha H locs ls' hP hS hl2)
theorem r_lstore (B : zGood E w tys cc own Ts rt rm) {i : Nat} {e : Int64} {lv' : Int64 → List (Nat × Value)} {f : Int64 → Option α} (hd : decode cc pc = .ok (.lstore i, 2)) (hn : i + 1 < E.2.2) (hl' : ∀ x : Int64, (i, Value.long x) :: lv.filter (fun q => !(q.1 == i) && (!(q.1 == i + 1) && !(q.1 + 1 == i && q.2.category == 2))) = lv' x) (k : ∀ x : Int64, Xo E w em S (pc + 2) (lv' x) st (f x)) : Xo E w em S pc lv (.long e :: st) (lt e f) := fun a ha H locs ls hP hS hl => lv_lstore B.1.1 B.1.2.1 hd hl hn (hl' e) (fun ls' hl2 => k e a ha H locs ls' hP hS hl2)
theorem r_iinc (B : zGood E w tys cc own Ts rt rm) {i : Nat} {n : Int} {x : Int32} (q : Nat) (d : Int32) {lv' : Int32 → List (Nat × Value)} {f : Int32 → Option α} (hd : decode cc pc = .ok (.iinc i n, 3)) (hq : lv[q]? = some (i, .int x)) (hv : Int32.ofInt n = d) (hn : i < E.2.2) (hl' : ∀ x : Int32, (i, Value.int x) :: lv.filter (fun q => !(q.1 == i) && !(q.1 + 1 == i && q.2.category == 2)) = lv' x) (k : ∀ x : Int32, Xo E w em S (pc + 3) (lv' x) st (f x)) : Xo E w em S pc lv st (lt (x + d) f) := fun a ha H locs ls hP hS hl => lv_iinc B.1.1 B.1.2.1 hd hl hq (by rw [hv]) hn (hl' (x + d)) (fun ls' hl2 => k (x + d) a ha H locs ls' hP hS hl2)
theorem r_iadd (B : zGood E w tys cc own Ts rt rm) {x y : Int32} (hd : decode cc pc = .ok (.iadd, 1)) (k : Xo E w em S (pc + 1) lv (.int (x + y) :: st) o) : Xo E w em S pc lv (.int y :: .int x :: st) o := fun a ha H locs ls hP hS hl => lv_iadd B.1.1 B.1.2.1 hd (k a ha H locs ls hP hS hl)
theorem r_isub (B : zGood E w tys cc own Ts rt rm) {x y : Int32} (hd : decode cc pc = .ok (.isub, 1)) (k : Xo E w em S (pc + 1) lv (.int (x - y) :: st) o) : Xo E w em S pc lv (.int y :: .int x :: st) o := fun a ha H locs ls hP hS hl => lv_isub B.1.1 B.1.2.1 hd (k a ha H locs ls hP hS hl)
theorem r_imul (B : zGood E w tys cc own Ts rt rm) {x y : Int32} (hd : decode cc pc = .ok (.imul, 1)) (k : Xo E w em S (pc + 1) lv (.int (x * y) :: st) o) : Xo E w em S pc lv (.int y :: .int x :: st) o := fun a ha H locs ls hP hS hl => lv_imul B.1.1 B.1.2.1 hd (k a ha H locs ls hP hS hl)
theorem r_iand (B : zGood E w tys cc own Ts rt rm) {x y : Int32} (hd : decode cc pc = .ok (.iand, 1)) (k : Xo E w em S (pc + 1) lv (.int (x &&& y) :: st) o) : Xo E w em S pc lv (.int y :: .int x :: st) o := fun a ha H locs ls hP hS hl => lv_iand B.1.1 B.1.2.1 hd (k a ha H locs ls hP hS hl)
theorem r_ior (B : zGood E w tys cc own Ts rt rm) {x y : Int32} (hd : decode cc pc = .ok (.ior, 1)) (k : Xo E w em S (pc + 1) lv (.int (x ||| y) :: st) o) : Xo E w em S pc lv (.int y :: .int x :: st) o := fun a ha H locs ls hP hS hl => lv_ior B.1.1 B.1.2.1 hd (k a ha H locs ls hP hS hl)
theorem r_ixor (B : zGood E w tys cc own Ts rt rm) {x y : Int32} (hd : decode cc pc = .ok (.ixor, 1)) (k : Xo E w em S (pc + 1) lv (.int (x ^^^ y) :: st) o) : Xo E w em S pc lv (.int y :: .int x :: st) o := fun a ha H locs ls hP hS hl => lv_ixor B.1.1 B.1.2.1 hd (k a ha H locs ls hP hS hl)
theorem r_ishl (B : zGood E w tys cc own Ts rt rm) {x y : Int32} (hd : decode cc pc = .ok (.ishl, 1)) (k : Xo E w em S (pc + 1) lv (.int (x <<< (y &&& 31)) :: st) o) : Xo E w em S pc lv (.int y :: .int x :: st) o := fun a ha H locs ls hP hS hl => lv_ishl B.1.1 B.1.2.1 hd (k a ha H locs ls hP hS hl)
theorem r_ishr (B : zGood E w tys cc own Ts rt rm) {x y : Int32} (hd : decode cc pc = .ok (.ishr, 1)) (k : Xo E w em S (pc + 1) lv (.int (x >>> (y &&& 31)) :: st) o) : Xo E w em S pc lv (.int y :: .int x :: st) o := fun a ha H locs ls hP hS hl => lv_ishr B.1.1 B.1.2.1 hd (k a ha H locs ls hP hS hl)
theorem r_ladd (B : zGood E w tys cc own Ts rt rm) {x y : Int64} (hd : decode cc pc = .ok (.ladd, 1)) (k : Xo E w em S (pc + 1) lv (.long (x + y) :: st) o) : Xo E w em S pc lv (.long y :: .long x :: st) o := fun a ha H locs ls hP hS hl => lv_ladd B.1.1 B.1.2.1 hd (k a ha H locs ls hP hS hl)
theorem r_lsub (B : zGood E w tys cc own Ts rt rm) {x y : Int64} (hd : decode cc pc = .ok (.lsub, 1)) (k : Xo E w em S (pc + 1) lv (.long (x - y) :: st) o) : Xo E w em S pc lv (.long y :: .long x :: st) o := fun a ha H locs ls hP hS hl => lv_lsub B.1.1 B.1.2.1 hd (k a ha H locs ls hP hS hl)
theorem r_lmul (B : zGood E w tys cc own Ts rt rm) {x y : Int64} (hd : decode cc pc = .ok (.lmul, 1)) (k : Xo E w em S (pc + 1) lv (.long (x * y) :: st) o) : Xo E w em S pc lv (.long y :: .long x :: st) o := fun a ha H locs ls hP hS hl => lv_lmul B.1.1 B.1.2.1 hd (k a ha H locs ls hP hS hl)
theorem r_land (B : zGood E w tys cc own Ts rt rm) {x y : Int64} (hd : decode cc pc = .ok (.land, 1)) (k : Xo E w em S (pc + 1) lv (.long (x &&& y) :: st) o) : Xo E w em S pc lv (.long y :: .long x :: st) o := fun a ha H locs ls hP hS hl => lv_land B.1.1 B.1.2.1 hd (k a ha H locs ls hP hS hl)
theorem r_lor (B : zGood E w tys cc own Ts rt rm) {x y : Int64} (hd : decode cc pc = .ok (.lor, 1)) (k : Xo E w em S (pc + 1) lv (.long (x ||| y) :: st) o) : Xo E w em S pc lv (.long y :: .long x :: st) o := fun a ha H locs ls hP hS hl => lv_lor B.1.1 B.1.2.1 hd (k a ha H locs ls hP hS hl)
theorem r_ineg (B : zGood E w tys cc own Ts rt rm) {x : Int32} (hd : decode cc pc = .ok (.ineg, 1)) (k : Xo E w em S (pc + 1) lv (.int (-x) :: st) o) : Xo E w em S pc lv (.int x :: st) o := fun a ha H locs ls hP hS hl => lv_ineg B.1.1 B.1.2.1 hd (k a ha H locs ls hP hS hl)
theorem r_lneg (B : zGood E w tys cc own Ts rt rm) {x : Int64} (hd : decode cc pc = .ok (.lneg, 1)) (k : Xo E w em S (pc + 1) lv (.long (-x) :: st) o) : Xo E w em S pc lv (.long x :: st) o := fun a ha H locs ls hP hS hl => lv_lneg B.1.1 B.1.2.1 hd (k a ha H locs ls hP hS hl)
theorem r_iushr (B : zGood E w tys cc own Ts rt rm) {x y : Int32} (hd : decode cc pc = .ok (.iushr, 1)) (k : Xo E w em S (pc + 1) lv (.int ((x.toUInt32 >>> (y.toUInt32 &&& Int32.toUInt32 31)).toInt32) :: st) o) : Xo E w em S pc lv (.int y :: .int x :: st) o := fun a ha H locs ls hP hS hl => lv_iushr B.1.1 B.1.2.1 hd rfl (k a ha H locs ls hP hS hl)
theorem r_lushr (B : zGood E w tys cc own Ts rt rm) {x : Int64} {y : Int32} (hd : decode cc pc = .ok (.lushr, 1)) (k : Xo E w em S (pc + 1) lv (.long ((x.toUInt64 >>> (y.toInt64.toUInt64 &&& Int64.toUInt64 63)).toInt64) :: st) o) : Xo E w em S pc lv (.int y :: .long x :: st) o := fun a ha H locs ls hP hS hl => lv_lushr B.1.1 B.1.2.1 hd rfl (k a ha H locs ls hP hS hl)
theorem r_lshl (B : zGood E w tys cc own Ts rt rm) {x : Int64} {y : Int32} (hd : decode cc pc = .ok (.lshl, 1)) (k : Xo E w em S (pc + 1) lv (.long (x <<< (y.toInt64 &&& 63)) :: st) o) : Xo E w em S pc lv (.int y :: .long x :: st) o := fun a ha H locs ls hP hS hl => lv_lshl B.1.1 B.1.2.1 hd rfl (k a ha H locs ls hP hS hl)
theorem r_i2l (B : zGood E w tys cc own Ts rt rm) {x : Int32} (hd : decode cc pc = .ok (.i2l, 1)) (k : Xo E w em S (pc + 1) lv (.long x.toInt64 :: st) o) : Xo E w em S pc lv (.int x :: st) o := fun a ha H locs ls hP hS hl => lv_i2l B.1.1 B.1.2.1 hd rfl (k a ha H locs ls hP hS hl)
theorem r_l2i (B : zGood E w tys cc own Ts rt rm) {x : Int64} (hd : decode cc pc = .ok (.l2i, 1)) (k : Xo E w em S (pc + 1) lv (.int x.toInt32 :: st) o) : Xo E w em S pc lv (.long x :: st) o := fun a ha H locs ls hP hS hl => lv_l2i B.1.1 B.1.2.1 hd rfl (k a ha H locs ls hP hS hl)
theorem r_i2b (B : zGood E w tys cc own Ts rt rm) {x : Int32} (hd : decode cc pc = .ok (.i2b, 1)) (k : Xo E w em S (pc + 1) lv (.int x.toInt8.toInt32 :: st) o) : Xo E w em S pc lv (.int x :: st) o := fun a ha H locs ls hP hS hl => lv_i2b B.1.1 B.1.2.1 hd rfl (k a ha H locs ls hP hS hl)
theorem r_i2s (B : zGood E w tys cc own Ts rt rm) {x : Int32} (hd : decode cc pc = .ok (.i2s, 1)) (k : Xo E w em S (pc + 1) lv (.int x.toInt16.toInt32 :: st) o) : Xo E w em S pc lv (.int x :: st) o := fun a ha H locs ls hP hS hl => lv_i2s B.1.1 B.1.2.1 hd rfl (k a ha H locs ls hP hS hl)
theorem r_lcmp (B : zGood E w tys cc own Ts rt rm) {x y : Int64} (hd : decode cc pc = .ok (.lcmp, 1)) (k : Xo E w em S (pc + 1) lv (.int (lg_cmp x y) :: st) o) : Xo E w em S pc lv (.long y :: .long x :: st) o := fun a ha H locs ls hP hS hl => W.lcmp B.1.1 B.1.2.1 hd (k a ha H locs ls hP hS hl)
theorem r_dup (B : zGood E w tys cc own Ts rt rm) {v : Value} (hc : v.category = 1) (hd : decode cc pc = .ok (.dup, 1)) (k : Xo E w em S (pc + 1) lv (v :: v :: st) o) : Xo E w em S pc lv (v :: st) o := fun a ha H locs ls hP hS hl => lv_dup B.1.1 B.1.2.1 hd hc (k a ha H locs ls hP hS hl)
theorem r_dup2 (B : zGood E w tys cc own Ts rt rm) {v u : Value} (hc : v.category = 1) (hu : u.category = 1) (hd : decode cc pc = .ok (.dup2, 1)) (k : Xo E w em S (pc + 1) lv (v :: u :: v :: u :: st) o) : Xo E w em S pc lv (v :: u :: st) o := fun a ha H locs ls hP hS hl => lv_dup2_11 B.1.1 B.1.2.1 hd hc hu (k a ha H locs ls hP hS hl)
theorem r_pop (B : zGood E w tys cc own Ts rt rm) {v : Value} (hc : v.category = 1) (hd : decode cc pc = .ok (.pop, 1)) (k : Xo E w em S (pc + 1) lv (st) o) : Xo E w em S pc lv (v :: st) o := fun a ha H locs ls hP hS hl => lv_pop B.1.1 B.1.2.1 hd hc (k a ha H locs ls hP hS hl)
theorem r_idiv (B : zGood E w tys cc own Ts rt rm) {x y : Int32} (hd : decode cc pc = .ok (.idiv, 1)) (k : ¬ y = 0 → Xo E w em S (pc + 1) lv (.int (x / y) :: st) o) : Xo E w em S pc lv (.int y :: .int x :: st) (nz y o) := by
  intro a ha H locs ls hP hS hl
  unfold nz at ha
  by_cases h : y = 0
  · rw [if_pos h] at ha; cases ha
  · rw [if_neg h] at ha
    exact lv_idiv B.1.1 B.1.2.1 hd h (k h a ha H locs ls hP hS hl)
theorem r_irem (B : zGood E w tys cc own Ts rt rm) {x y : Int32} (hd : decode cc pc = .ok (.irem, 1)) (k : ¬ y = 0 → Xo E w em S (pc + 1) lv (.int (x - x / y * y) :: st) o) : Xo E w em S pc lv (.int y :: .int x :: st) (nz y o) := by
  intro a ha H locs ls hP hS hl
  unfold nz at ha
  by_cases h : y = 0
  · rw [if_pos h] at ha; cases ha
  · rw [if_neg h] at ha
    exact lv_irem B.1.1 B.1.2.1 hd h (k h a ha H locs ls hP hS hl)
theorem r_ldiv (B : zGood E w tys cc own Ts rt rm) {x y : Int64} (hd : decode cc pc = .ok (.ldiv, 1)) (k : ¬ y = 0 → Xo E w em S (pc + 1) lv (.long (x / y) :: st) o) : Xo E w em S pc lv (.long y :: .long x :: st) (nzl y o) := by
  intro a ha H locs ls hP hS hl
  unfold nzl at ha
  by_cases h : y = 0
  · rw [if_pos h] at ha; cases ha
  · rw [if_neg h] at ha
    exact lv_ldiv B.1.1 B.1.2.1 hd h (k h a ha H locs ls hP hS hl)
theorem r_lrem (B : zGood E w tys cc own Ts rt rm) {x y : Int64} (hd : decode cc pc = .ok (.lrem, 1)) (k : ¬ y = 0 → Xo E w em S (pc + 1) lv (.long (x - x / y * y) :: st) o) : Xo E w em S pc lv (.long y :: .long x :: st) (nzl y o) := by
  intro a ha H locs ls hP hS hl
  unfold nzl at ha
  by_cases h : y = 0
  · rw [if_pos h] at ha; cases ha
  · rw [if_neg h] at ha
    exact lv_lrem B.1.1 B.1.2.1 hd h (k h a ha H locs ls hP hS hl)
theorem r_if_eq (B : zGood E w tys cc own Ts rt rm) {x : Int32} {off : Int} (tgt : Nat) {o1 o2 : Option α} (hd : decode cc pc = .ok (.ifCond .eq off, 3)) (ht : (pc : Int) + off = (tgt : Int)) (kt : x = 0 → Xo E w em S tgt lv st o1) (kf : ¬ (x = 0) → Xo E w em S (pc + 3) lv st o2) : Xo E w em S pc lv (.int x :: st) (if x = 0 then o1 else o2) := by
  intro a ha H locs ls hP hS hl
  refine lv_if_eq B.1.1 B.1.2.1 hd ht (fun h => ?_) (fun h => ?_)
  · exact kt h a (by rw [if_pos h] at ha; exact ha) H locs ls hP hS hl
  · exact kf h a (by rw [if_neg h] at ha; exact ha) H locs ls hP hS hl
theorem r_icmp_eq (B : zGood E w tys cc own Ts rt rm) {x y : Int32} {off : Int} (tgt : Nat) {o1 o2 : Option α} (hd : decode cc pc = .ok (.if_icmp .eq off, 3)) (ht : (pc : Int) + off = (tgt : Int)) (kt : x = y → Xo E w em S tgt lv st o1) (kf : ¬ (x = y) → Xo E w em S (pc + 3) lv st o2) : Xo E w em S pc lv (.int y :: .int x :: st) (if x = y then o1 else o2) := by
  intro a ha H locs ls hP hS hl
  refine lv_icmp_eq B.1.1 B.1.2.1 hd ht (fun h => ?_) (fun h => ?_)
  · exact kt h a (by rw [if_pos h] at ha; exact ha) H locs ls hP hS hl
  · exact kf h a (by rw [if_neg h] at ha; exact ha) H locs ls hP hS hl
theorem r_if_lt (B : zGood E w tys cc own Ts rt rm) {x : Int32} {off : Int} (tgt : Nat) {o1 o2 : Option α} (hd : decode cc pc = .ok (.ifCond .lt off, 3)) (ht : (pc : Int) + off = (tgt : Int)) (kt : x < 0 → Xo E w em S tgt lv st o1) (kf : ¬ (x < 0) → Xo E w em S (pc + 3) lv st o2) : Xo E w em S pc lv (.int x :: st) (if x < 0 then o1 else o2) := by
  intro a ha H locs ls hP hS hl
  refine lv_if_lt B.1.1 B.1.2.1 hd ht (fun h => ?_) (fun h => ?_)
  · exact kt h a (by rw [if_pos h] at ha; exact ha) H locs ls hP hS hl
  · exact kf h a (by rw [if_neg h] at ha; exact ha) H locs ls hP hS hl
theorem r_icmp_lt (B : zGood E w tys cc own Ts rt rm) {x y : Int32} {off : Int} (tgt : Nat) {o1 o2 : Option α} (hd : decode cc pc = .ok (.if_icmp .lt off, 3)) (ht : (pc : Int) + off = (tgt : Int)) (kt : x < y → Xo E w em S tgt lv st o1) (kf : ¬ (x < y) → Xo E w em S (pc + 3) lv st o2) : Xo E w em S pc lv (.int y :: .int x :: st) (if x < y then o1 else o2) := by
  intro a ha H locs ls hP hS hl
  refine lv_icmp_lt B.1.1 B.1.2.1 hd ht (fun h => ?_) (fun h => ?_)
  · exact kt h a (by rw [if_pos h] at ha; exact ha) H locs ls hP hS hl
  · exact kf h a (by rw [if_neg h] at ha; exact ha) H locs ls hP hS hl
theorem r_if_ge (B : zGood E w tys cc own Ts rt rm) {x : Int32} {off : Int} (tgt : Nat) {o1 o2 : Option α} (hd : decode cc pc = .ok (.ifCond .ge off, 3)) (ht : (pc : Int) + off = (tgt : Int)) (kt : 0 ≤ x → Xo E w em S tgt lv st o1) (kf : ¬ (0 ≤ x) → Xo E w em S (pc + 3) lv st o2) : Xo E w em S pc lv (.int x :: st) (if 0 ≤ x then o1 else o2) := by
  intro a ha H locs ls hP hS hl
  refine lv_if_ge B.1.1 B.1.2.1 hd ht (fun h => ?_) (fun h => ?_)
  · exact kt h a (by rw [if_pos h] at ha; exact ha) H locs ls hP hS hl
  · exact kf h a (by rw [if_neg h] at ha; exact ha) H locs ls hP hS hl
theorem r_icmp_ge (B : zGood E w tys cc own Ts rt rm) {x y : Int32} {off : Int} (tgt : Nat) {o1 o2 : Option α} (hd : decode cc pc = .ok (.if_icmp .ge off, 3)) (ht : (pc : Int) + off = (tgt : Int)) (kt : y ≤ x → Xo E w em S tgt lv st o1) (kf : ¬ (y ≤ x) → Xo E w em S (pc + 3) lv st o2) : Xo E w em S pc lv (.int y :: .int x :: st) (if y ≤ x then o1 else o2) := by
  intro a ha H locs ls hP hS hl
  refine lv_icmp_ge B.1.1 B.1.2.1 hd ht (fun h => ?_) (fun h => ?_)
  · exact kt h a (by rw [if_pos h] at ha; exact ha) H locs ls hP hS hl
  · exact kf h a (by rw [if_neg h] at ha; exact ha) H locs ls hP hS hl
theorem r_if_gt (B : zGood E w tys cc own Ts rt rm) {x : Int32} {off : Int} (tgt : Nat) {o1 o2 : Option α} (hd : decode cc pc = .ok (.ifCond .gt off, 3)) (ht : (pc : Int) + off = (tgt : Int)) (kt : 0 < x → Xo E w em S tgt lv st o1) (kf : ¬ (0 < x) → Xo E w em S (pc + 3) lv st o2) : Xo E w em S pc lv (.int x :: st) (if 0 < x then o1 else o2) := by
  intro a ha H locs ls hP hS hl
  refine lv_if_gt B.1.1 B.1.2.1 hd ht (fun h => ?_) (fun h => ?_)
  · exact kt h a (by rw [if_pos h] at ha; exact ha) H locs ls hP hS hl
  · exact kf h a (by rw [if_neg h] at ha; exact ha) H locs ls hP hS hl
theorem r_icmp_gt (B : zGood E w tys cc own Ts rt rm) {x y : Int32} {off : Int} (tgt : Nat) {o1 o2 : Option α} (hd : decode cc pc = .ok (.if_icmp .gt off, 3)) (ht : (pc : Int) + off = (tgt : Int)) (kt : y < x → Xo E w em S tgt lv st o1) (kf : ¬ (y < x) → Xo E w em S (pc + 3) lv st o2) : Xo E w em S pc lv (.int y :: .int x :: st) (if y < x then o1 else o2) := by
  intro a ha H locs ls hP hS hl
  refine lv_icmp_gt B.1.1 B.1.2.1 hd ht (fun h => ?_) (fun h => ?_)
  · exact kt h a (by rw [if_pos h] at ha; exact ha) H locs ls hP hS hl
  · exact kf h a (by rw [if_neg h] at ha; exact ha) H locs ls hP hS hl
theorem r_if_le (B : zGood E w tys cc own Ts rt rm) {x : Int32} {off : Int} (tgt : Nat) {o1 o2 : Option α} (hd : decode cc pc = .ok (.ifCond .le off, 3)) (ht : (pc : Int) + off = (tgt : Int)) (kt : x ≤ 0 → Xo E w em S tgt lv st o1) (kf : ¬ (x ≤ 0) → Xo E w em S (pc + 3) lv st o2) : Xo E w em S pc lv (.int x :: st) (if x ≤ 0 then o1 else o2) := by
  intro a ha H locs ls hP hS hl
  refine lv_if_le B.1.1 B.1.2.1 hd ht (fun h => ?_) (fun h => ?_)
  · exact kt h a (by rw [if_pos h] at ha; exact ha) H locs ls hP hS hl
  · exact kf h a (by rw [if_neg h] at ha; exact ha) H locs ls hP hS hl
theorem r_icmp_le (B : zGood E w tys cc own Ts rt rm) {x y : Int32} {off : Int} (tgt : Nat) {o1 o2 : Option α} (hd : decode cc pc = .ok (.if_icmp .le off, 3)) (ht : (pc : Int) + off = (tgt : Int)) (kt : x ≤ y → Xo E w em S tgt lv st o1) (kf : ¬ (x ≤ y) → Xo E w em S (pc + 3) lv st o2) : Xo E w em S pc lv (.int y :: .int x :: st) (if x ≤ y then o1 else o2) := by
  intro a ha H locs ls hP hS hl
  refine lv_icmp_le B.1.1 B.1.2.1 hd ht (fun h => ?_) (fun h => ?_)
  · exact kt h a (by rw [if_pos h] at ha; exact ha) H locs ls hP hS hl
  · exact kf h a (by rw [if_neg h] at ha; exact ha) H locs ls hP hS hl
theorem r_if_ne (B : zGood E w tys cc own Ts rt rm) {x : Int32} {off : Int} (tgt : Nat) {o1 o2 : Option α} (hd : decode cc pc = .ok (.ifCond .ne off, 3)) (ht : (pc : Int) + off = (tgt : Int)) (kt : ¬ x = 0 → Xo E w em S tgt lv st o1) (kf : x = 0 → Xo E w em S (pc + 3) lv st o2) : Xo E w em S pc lv (.int x :: st) (if x = 0 then o2 else o1) := by
  intro a ha H locs ls hP hS hl
  refine lv_if_ne B.1.1 B.1.2.1 hd ht (fun h => ?_) (fun h => ?_)
  · exact kt h a (by rw [if_neg h] at ha; exact ha) H locs ls hP hS hl
  · exact kf h a (by rw [if_pos h] at ha; exact ha) H locs ls hP hS hl
theorem r_icmp_ne (B : zGood E w tys cc own Ts rt rm) {x y : Int32} {off : Int} (tgt : Nat) {o1 o2 : Option α} (hd : decode cc pc = .ok (.if_icmp .ne off, 3)) (ht : (pc : Int) + off = (tgt : Int)) (kt : ¬ x = y → Xo E w em S tgt lv st o1) (kf : x = y → Xo E w em S (pc + 3) lv st o2) : Xo E w em S pc lv (.int y :: .int x :: st) (if x = y then o2 else o1) := by
  intro a ha H locs ls hP hS hl
  refine lv_icmp_ne B.1.1 B.1.2.1 hd ht (fun h => ?_) (fun h => ?_)
  · exact kt h a (by rw [if_neg h] at ha; exact ha) H locs ls hP hS hl
  · exact kf h a (by rw [if_pos h] at ha; exact ha) H locs ls hP hS hl
theorem r_goto (B : zGood E w tys cc own Ts rt rm) {off : Int} (tgt : Nat) (hd : decode cc pc = .ok (.goto off, 3)) (ht : (pc : Int) + off = (tgt : Int)) (k : Xo E w em S tgt lv st o) : Xo E w em S pc lv st o := fun a ha H locs ls hP hS hl => lv_goto B.1.1 B.1.2.1 hd ht (k a ha H locs ls hP hS hl)
theorem r_tabOut (B : zGood E w tys cc own Ts rt rm) {dflt lo hi : Int} {offs : Array Int} {len : Nat} {x : Int32} (tgt : Nat) (hd : decode cc pc = .ok (.tableswitch dflt lo hi offs, len)) (h : x.toInt < lo ∨ hi < x.toInt) (ht : (pc : Int) + dflt = (tgt : Int)) (k : Xo E w em S tgt lv st o) : Xo E w em S pc lv (.int x :: st) o := fun a ha H locs ls hP hS hl => lv_tableOut B.1.1 B.1.2.1 hd h ht (k a ha H locs ls hP hS hl)
theorem r_tabIn (B : zGood E w tys cc own Ts rt rm) {dflt lo hi : Int} {offs : Array Int} {len : Nat} {x : Int32} {off : Int} (tgt : Nat) (hd : decode cc pc = .ok (.tableswitch dflt lo hi offs, len)) (h1 : ¬ x.toInt < lo) (h2 : ¬ hi < x.toInt) (ho : offs[(x.toInt - lo).toNat]? = some off) (ht : (pc : Int) + off = (tgt : Int)) (k : Xo E w em S tgt lv st o) : Xo E w em S pc lv (.int x :: st) o := fun a ha H locs ls hP hS hl => lv_tableIn B.1.1 B.1.2.1 hd h1 h2 ho ht (k a ha H locs ls hP hS hl)
theorem r_swc (c : Int32) {x : Int32} {o1 o2 : Option α} (k1 : Xo E w em S pc lv (.int c :: st) o1) (k2 : ¬ x = c → Xo E w em S pc lv (.int x :: st) o2) : Xo E w em S pc lv (.int x :: st) (if x = c then o1 else o2) := by
  by_cases h : x = c
  · rw [if_pos h, h]; exact k1
  · rw [if_neg h]; exact k2 h
theorem zQ_mk {D : va_G} {w : zWl} {v : Option Value} {S : zSt} {args : Array Value} {s t : State} {H : Heap} {locs : List Loc} (hP : va_P D vwCl (zws w S) H) (hS : va_S (zAA w s.heap.size) s.heap H locs) (ht : t.heap = H) : zQ D w (v, S) args s (.returned v) t := ⟨rfl, by rw [ht]; exact hP, hS.F ht⟩
theorem r_iret {em : α → zOut} (B : zGood E w tys cc own Ts (some .int) rm) {v : Int32} {b : α} (hd : decode cc pc = .ok (.ireturn, 1)) (he : em b = (some (.int v), S)) : Xo E w em S pc lv [.int v] (some b) := by
  intro a ha H locs ls hP hS hl
  cases ha
  rw [he]
  exact W.iret B.1.1 B.1.2.1 B.2.2.2.2.1 (fun t ht hW => zQ_mk hP hS ht) hS.2.2 hd B.2.2.2.1
theorem r_lret {em : α → zOut} (B : zGood E w tys cc own Ts (some .long) rm) {v : Int64} {b : α} (hd : decode cc pc = .ok (.lreturn, 1)) (he : em b = (some (.long v), S)) : Xo E w em S pc lv [.long v] (some b) := by
  intro a ha H locs ls hP hS hl
  cases ha
  rw [he]
  exact W.lret B.1.1 B.1.2.1 B.2.2.2.2.1 (fun t ht hW => zQ_mk hP hS ht) hS.2.2 hd B.2.2.2.1
theorem r_zret {em : α → zOut} (B : zGood E w tys cc own Ts (some .boolean) rm) {v : Int32} {b : α} (hd : decode cc pc = .ok (.ireturn, 1)) (he : em b = (some (.int v), S)) : Xo E w em S pc lv [.int v] (zb v (some b)) := by
  intro a ha H locs ls hP hS hl
  unfold zb at ha
  by_cases h : v = 0 ∨ v = 1
  · rw [if_pos h] at ha
    cases ha
    rw [he]
    exact W.zret B.1.1 B.1.2.1 B.2.2.2.2.1 (by rcases h with rfl | rfl <;> decide +kernel) (fun t ht hW => zQ_mk hP hS ht) hS.2.2 hd B.2.2.2.1
  · rw [if_neg h] at ha; cases ha
theorem r_zret0 {em : α → zOut} (B : zGood E w tys cc own Ts (some .boolean) rm) {b : α} (hd : decode cc pc = .ok (.ireturn, 1)) (he : em b = (some (.int 0), S)) : Xo E w em S pc lv [.int 0] (some b) := by
  intro a ha H locs ls hP hS hl
  cases ha
  rw [he]
  exact W.zret B.1.1 B.1.2.1 B.2.2.2.2.1 (by decide +kernel) (fun t ht hW => zQ_mk hP hS ht) hS.2.2 hd B.2.2.2.1
theorem r_zret1 {em : α → zOut} (B : zGood E w tys cc own Ts (some .boolean) rm) {b : α} (hd : decode cc pc = .ok (.ireturn, 1)) (he : em b = (some (.int 1), S)) : Xo E w em S pc lv [.int 1] (some b) := by
  intro a ha H locs ls hP hS hl
  cases ha
  rw [he]
  exact W.zret B.1.1 B.1.2.1 B.2.2.2.2.1 (by decide +kernel) (fun t ht hW => zQ_mk hP hS ht) hS.2.2 hd B.2.2.2.1
theorem r_vret {em : α → zOut} (B : zGood E w tys cc own Ts none rm) {b : α} (hd : decode cc pc = .ok (.return_, 1)) (he : em b = (none, S)) : Xo E w em S pc lv [] (some b) := by
  intro a ha H locs ls hP hS hl
  cases ha
  rw [he]
  exact W.vret B.1.1 B.1.2.1 B.2.2.2.2.1 (fun t ht hW => zQ_mk hP hS ht) hS.2.2 hd B.2.2.2.1
theorem r_get (B : zGood E w tys cc own Ts rt rm) (k ci j : Nat) {ad : Nat} {fs : List Value} {v : Value} {C : String} {T : u_T} {N idx : Nat} (hk : k < w.1) (ha : w.2.1 k = ad) (hc : w.2.2 S k = .inr (ci, fs)) (hcl : vwCl[ci]? = some (C, T, N)) (hin : ∀ x ∈ u_ws C T N, x ∈ Ts) (hj : j < N) (hm : Cond.fieldLink own idx (T j).1 (T j).2.1 (T j).2.2.1 ∈ Ts) (hv : fs[j]? = some v) (hd : decode cc pc = .ok (.getfield idx, 3)) (kk : Xo E w em S (pc + 3) lv (v :: st) o) : Xo E w em S pc lv (.ref ad :: st) o := by
  intro a h H locs ls hP hS hl
  subst ha
  exact va_get B.1.1 B.1.2.1 B.1.2.2.2.2 hin B.1.2.2.2.1 B.2.1 hP k (by rw [zws_get hk, hc]) hcl j hj (B.1.2.2.2.2 _ hm) (fun _ h9 => h9) hv hd (kk a h H locs ls hP hS hl)
theorem r_put (B : zGood E w tys cc own Ts rt rm) (k ci j : Nat) {ad : Nat} {S' : zSt} {fs : List Value} {v : Value} {ty : FieldType} {C : String} {T : u_T} {N idx : Nat} (ty0 : Nat → FieldType) (hty : ∀ k, k < N → parseFieldDescriptor (T k).2.2.1 = some (ty0 k)) (hnm : ∀ a, a < N → ∀ b, b < N → a ≠ b → (T a).2.1 ≠ (T b).2.1) (hk : k < w.1) (ha : w.2.1 k = ad) (hc : w.2.2 S k = .inr (ci, fs)) (hcl : vwCl[ci]? = some (C, T, N)) (hin : ∀ x ∈ u_ws C T N, x ∈ Ts) (hj : j < N) (hm : Cond.fieldLink own idx (T j).1 (T j).2.1 (T j).2.2.1 ∈ Ts) (hfin : (T j).2.2.2 = false) (hds : parseFieldDescriptor (T j).2.2.1 = some ty) (hn : narrow ty v = v) (hfit : fits ty v = true) (hl' : j < fs.length) (hs : w.2.2 S' k = .inr (ci, fs.set j v) ∧ ∀ i, i ≠ k → w.2.2 S' i = w.2.2 S i) {f : zSt → Option α} (hd : decode cc pc = .ok (.putfield idx, 3)) (kk : ∀ S1 : zSt, Xo E w em S1 (pc + 3) lv st (f S1)) : Xo E w em S pc lv (v :: .ref ad :: st) (lt S' f) := by
  intro a h H locs ls hP hS hl
  subst ha
  refine va_put B.1.1 B.1.2.1 B.1.2.2.2.2 hin ty0 hty hnm B.1.2.2.2.1 B.2.1 hP (zD B.2.2.1 S _) hS k (by rw [zws_get hk, hc]) hcl j hj (B.1.2.2.2.2 _ hm) (fun _ h9 => h9) hfin hds hn hfit hl' hd (fun H1 locs1 hP1 _ hS1 => ?_)
  rw [← hs.1, zws_set hk hs.2] at hP1
  exact kk S' a h H1 locs1 ls hP1 hS1 hl
theorem r_iald (B : zGood E w tys cc own Ts rt rm) (k t0 : Nat) {ad n : Nat} {cA : ClassId} {i : Int32} {f : Nat → Int32} (hk : k < w.1) (ha : w.2.1 k = ad) (hc : w.2.2 S k = .inl (cA, n, .inl f)) (ht : tys[t0]? = some (cA, .int)) (hd : decode cc pc = .ok (.iaload, 1)) (kk : Xo E w em S (pc + 1) lv (.int (f i.toNatClampNeg) :: st) o) : Xo E w em S pc lv (.int i :: .ref ad :: st) (ibd i n o) := by
  intro a h H locs ls hP hS hl
  subst ha
  unfold ibd at h
  by_cases hi : i < 0 ∨ n ≤ i.toNatClampNeg
  · rw [if_pos hi] at h; cases h
  · rw [if_neg hi] at h
    exact va_iald B.1.1 B.1.2.1 B.2.1 hP k t0 (by rw [zws_get hk, hc]) ht hi hd (kk a h H locs ls hP hS hl)
theorem r_zald (B : zGood E w tys cc own Ts rt rm) (k t0 : Nat) {ad n : Nat} {cA : ClassId} {i : Int32} {f : Nat → Int32} (hk : k < w.1) (ha : w.2.1 k = ad) (hc : w.2.2 S k = .inl (cA, n, .inl f)) (ht : tys[t0]? = some (cA, .boolean)) (hd : decode cc pc = .ok (.baload, 1)) (kk : Xo E w em S (pc + 1) lv (.int (f i.toNatClampNeg) :: st) o) : Xo E w em S pc lv (.int i :: .ref ad :: st) (ibd i n o) := by
  intro a h H locs ls hP hS hl
  subst ha
  unfold ibd at h
  by_cases hi : i < 0 ∨ n ≤ i.toNatClampNeg
  · rw [if_pos hi] at h; cases h
  · rw [if_neg hi] at h
    exact va_zald B.1.1 B.1.2.1 B.2.1 hP k t0 (by rw [zws_get hk, hc]) ht hi hd (kk a h H locs ls hP hS hl)
theorem r_lald (B : zGood E w tys cc own Ts rt rm) (k t0 : Nat) {ad n : Nat} {cA : ClassId} {i : Int32} {f : Nat → Int64} (hk : k < w.1) (ha : w.2.1 k = ad) (hc : w.2.2 S k = .inl (cA, n, .inr (.inl f))) (ht : tys[t0]? = some (cA, .long)) (hd : decode cc pc = .ok (.laload, 1)) (kk : Xo E w em S (pc + 1) lv (.long (f i.toNatClampNeg) :: st) o) : Xo E w em S pc lv (.int i :: .ref ad :: st) (ibd i n o) := by
  intro a h H locs ls hP hS hl
  subst ha
  unfold ibd at h
  by_cases hi : i < 0 ∨ n ≤ i.toNatClampNeg
  · rw [if_pos hi] at h; cases h
  · rw [if_neg hi] at h
    exact va_lald B.1.1 B.1.2.1 B.2.1 hP k t0 (by rw [zws_get hk, hc]) ht hi hd (kk a h H locs ls hP hS hl)
theorem r_aald (B : zGood E w tys cc own Ts rt rm) (k t0 : Nat) {ad n : Nat} {cA : ClassId} {ty : FieldType} {i : Int32} {f : Nat → Nat} (hk : k < w.1) (ha : w.2.1 k = ad) (hc : w.2.2 S k = .inl (cA, n, .inr (.inr (.inr (.inr (fun z => some (f z))))))) (ht : tys[t0]? = some (cA, .array ty)) (hd : decode cc pc = .ok (.aaload, 1)) (kk : i.toNatClampNeg < n → Xo E w em S (pc + 1) lv (.ref (f i.toNatClampNeg) :: st) o) : Xo E w em S pc lv (.int i :: .ref ad :: st) (ibd i n o) := by
  intro a h H locs ls hP hS hl
  subst ha
  unfold ibd at h
  by_cases hi : i < 0 ∨ n ≤ i.toNatClampNeg
  · rw [if_pos hi] at h; cases h
  · rw [if_neg hi] at h
    have hlt : i.toNatClampNeg < n := Nat.not_le.mp fun q => hi (Or.inr q)
    have hc2 : (zws w S)[k]? = some (w.2.1 k, .inl (cA, n, .inr (.inr (.inr (.inr (fun z => some (f z))))))) := by rw [zws_get hk, hc]
    exact W.aald (v := va_rf (some (f i.toNatClampNeg))) (ty := .array ty) B.1.1 B.1.2.1 (hP k _ hc2) ((B.2.1.2 t0 _ ht).1 n (fun j => va_rf (some (f j)))) rfl (fun q => by cases q) (by show ¬ (i < 0 ∨ (arrV _ _ _).slots.size ≤ _); rw [arrV_size]; exact hi) (by show (arrV _ _ _).slots[_]? = _; rw [arrV_read _ _ hlt]) rfl rfl hd (kk hlt a h H locs ls hP hS hl)
theorem r_iast (B : zGood E w tys cc own Ts rt rm) (k t0 : Nat) {ad n : Nat} {S' : zSt} {cA : ClassId} {i x : Int32} {f : Nat → Int32} (hk : k < w.1) (ha : w.2.1 k = ad) (hc : w.2.2 S k = .inl (cA, n, .inl f)) (ht : tys[t0]? = some (cA, .int)) (hs : w.2.2 S' k = .inl (cA, n, .inl (upd f i.toNatClampNeg x)) ∧ ∀ j, j ≠ k → w.2.2 S' j = w.2.2 S j) {f9 : zSt → Option α} (hd : decode cc pc = .ok (.iastore, 1)) (kk : ∀ S1 : zSt, Xo E w em S1 (pc + 1) lv st (f9 S1)) : Xo E w em S pc lv (.int x :: .int i :: .ref ad :: st) (ibd i n (lt S' f9)) := by
  intro a h H locs ls hP hS hl
  subst ha
  unfold ibd at h
  by_cases hi : i < 0 ∨ n ≤ i.toNatClampNeg
  · rw [if_pos hi] at h; cases h
  · rw [if_neg hi] at h
    refine va_iast B.1.1 B.1.2.1 B.2.1 hP (zD B.2.2.1 S _) hS k t0 (by rw [zws_get hk, hc]) ht hi hd (fun H1 locs1 hP1 _ hS1 => ?_)
    rw [← hs.1, zws_set hk hs.2] at hP1
    exact kk S' a h H1 locs1 ls hP1 hS1 hl
theorem r_last (B : zGood E w tys cc own Ts rt rm) (k t0 : Nat) {ad n : Nat} {S' : zSt} {cA : ClassId} {i : Int32} {x : Int64} {f : Nat → Int64} (hk : k < w.1) (ha : w.2.1 k = ad) (hc : w.2.2 S k = .inl (cA, n, .inr (.inl f))) (ht : tys[t0]? = some (cA, .long)) (hs : w.2.2 S' k = .inl (cA, n, .inr (.inl (vp_updL f i.toNatClampNeg x))) ∧ ∀ j, j ≠ k → w.2.2 S' j = w.2.2 S j) {f9 : zSt → Option α} (hd : decode cc pc = .ok (.lastore, 1)) (kk : ∀ S1 : zSt, Xo E w em S1 (pc + 1) lv st (f9 S1)) : Xo E w em S pc lv (.long x :: .int i :: .ref ad :: st) (ibd i n (lt S' f9)) := by
  intro a h H locs ls hP hS hl
  subst ha
  unfold ibd at h
  by_cases hi : i < 0 ∨ n ≤ i.toNatClampNeg
  · rw [if_pos hi] at h; cases h
  · rw [if_neg hi] at h
    refine va_last B.1.1 B.1.2.1 B.2.1 hP (zD B.2.2.1 S _) hS k t0 (by rw [zws_get hk, hc]) ht hi hd (fun H1 locs1 hP1 _ hS1 => ?_)
    rw [← hs.1, zws_set hk hs.2] at hP1
    exact kk S' a h H1 locs1 ls hP1 hS1 hl
theorem r_zast (B : zGood E w tys cc own Ts rt rm) (k t0 : Nat) {ad n : Nat} {S' : zSt} {cA : ClassId} {i x : Int32} {f : Nat → Int32} (hk : k < w.1) (ha : w.2.1 k = ad) (hc : w.2.2 S k = .inl (cA, n, .inl f)) (ht : tys[t0]? = some (cA, .boolean)) (hx : vp_nar .boolean x = x) (hs : w.2.2 S' k = .inl (cA, n, .inl (upd f i.toNatClampNeg x)) ∧ ∀ j, j ≠ k → w.2.2 S' j = w.2.2 S j) {f9 : zSt → Option α} (hd : decode cc pc = .ok (.bastore, 1)) (kk : ∀ S1 : zSt, Xo E w em S1 (pc + 1) lv st (f9 S1)) : Xo E w em S pc lv (.int x :: .int i :: .ref ad :: st) (ibd i n (lt S' f9)) := by
  intro a h H locs ls hP hS hl
  subst ha
  unfold ibd at h
  by_cases hi : i < 0 ∨ n ≤ i.toNatClampNeg
  · rw [if_pos hi] at h; cases h
  · rw [if_neg hi] at h
    refine va_zast B.1.1 B.1.2.1 B.2.1 hP (zD B.2.2.1 S _) hS k t0 (by rw [zws_get hk, hc]) ht hi hd (fun H1 locs1 hP1 _ hS1 => ?_)
    rw [hx, ← hs.1, zws_set hk hs.2] at hP1
    exact kk S' a h H1 locs1 ls hP1 hS1 hl
/-- System.arraycopy within rows of ints -/
def zcp {α : Type} (sp dp n : Int32) (n0 n1 : Nat) (o : Option α) : Option α := if (sp < 0 ∨ dp < 0 ∨ n < 0) ∨ n0 < sp.toNatClampNeg + n.toNatClampNeg ∨ n1 < dp.toNatClampNeg + n.toNatClampNeg then none else o
theorem r_copy (B : zGood E w tys cc own Ts rt rm) (k0 k1 t0 : Nat) {a0 a1 n0 n1 idx : Nat} {S' : zSt} {cA : ClassId} {sp dp n : Int32} {f g : Nat → Int32} (hk0 : k0 < w.1) (hk1 : k1 < w.1) (ha0 : w.2.1 k0 = a0) (ha1 : w.2.1 k1 = a1) (hc0 : w.2.2 S k0 = .inl (cA, n0, .inl f)) (hc1 : w.2.2 S k1 = .inl (cA, n1, .inl g)) (ht : tys[t0]? = some (cA, .int)) (hs : w.2.2 S' k1 = .inl (cA, n1, .inl (va_cpy f g sp.toNatClampNeg dp.toNatClampNeg n.toNatClampNeg)) ∧ ∀ j, j ≠ k1 → w.2.2 S' j = w.2.2 S j)
    (hl1 : Cond.methodLink own idx arraycopyName ∈ Ts) (hl2 : Cond.native arraycopyName ∈ Ts) (hl3 : Cond.static arraycopyName ∈ Ts) (hl4 : Cond.initialized "java/lang/System" ∈ Ts) (hfr : 1 ≤ rm.frames) (hlo : (st.map fun v => v.category).sum + (nativeFrameWords "java/lang/System" "arraycopy" 5 + 11) ≤ rm.locals) {f9 : zSt → Option α} (hd : decode cc pc = .ok (.invokestatic idx, 3)) (kk : ∀ S1 : zSt, Xo E w em S1 (pc + 3) lv st (f9 S1)) : Xo E w em S pc lv (.int n :: .int dp :: .ref a1 :: .int sp :: .ref a0 :: st) (zcp sp dp n n0 n1 (lt S' f9)) := by
  intro a h H locs ls hP hS hl
  subst ha0
  subst ha1
  unfold zcp at h
  by_cases hi : (sp < 0 ∨ dp < 0 ∨ n < 0) ∨ n0 < sp.toNatClampNeg + n.toNatClampNeg ∨ n1 < dp.toNatClampNeg + n.toNatClampNeg
  · rw [if_pos hi] at h; cases h
  · rw [if_neg hi] at h
    have h1 : ¬ sp < 0 := fun q => hi (Or.inl (Or.inl q))
    have h2 : ¬ dp < 0 := fun q => hi (Or.inl (Or.inr (Or.inl q)))
    have h3 : ¬ n < 0 := fun q => hi (Or.inl (Or.inr (Or.inr q)))
    have h4 : sp.toNatClampNeg + n.toNatClampNeg ≤ n0 := Nat.not_lt.mp fun q => hi (Or.inr (Or.inl q))
    have h5 : dp.toNatClampNeg + n.toNatClampNeg ≤ n1 := Nat.not_lt.mp fun q => hi (Or.inr (Or.inr q))
    have hR : E.1.2.2.2.1 = rm := B.2.2.2.2.2.1
    refine va_copyi B.1.1 B.1.2.1 (by rw [B.1.2.2.1]; exact hl.1.symm) B.1.2.2.2.1 (B.1.2.2.2.2 _ hl1) (B.1.2.2.2.2 _ hl2) (B.1.2.2.2.2 _ hl3) (B.1.2.2.2.2 _ hl4) B.2.1 hP (zD B.2.2.1 S _) hS k0 k1 t0 t0 (by rw [zws_get hk0, hc0]) (by rw [zws_get hk1, hc1]) ht ht rfl h1 h2 h3 h4 h5 (fun _ _ => rfl) (by rw [hR]; exact hfr) (by rw [hR]; exact hlo) hd (fun H1 locs1 hP1 _ hS1 => ?_)
    rw [← hs.1, zws_set hk1 hs.2] at hP1
    exact kk S' a h H1 locs1 ls hP1 hS1 hl
/-- what a call comes to -/
def zCR (E : zCx) (w : zWl) (em : β → zOut) (S : zSt) (pc : Nat) (st0 rest : List Value) (F : Option β) : Prop :=
  ∀ b, F = some b → ∀ (H : Heap) (locs : List Loc) (ls : Array Slot), va_P E.2.1 vwCl (zws w S) H → va_S (zAA w E.1.2.2.2.2.1.heap.size) E.1.2.2.2.2.1.heap H locs → ls.size = E.2.2 →
    va_Run E.1.1 E.1.2.1 E.1.2.2.1 E.1.2.2.2.1 E.1.2.2.2.2.1 E.1.2.2.2.2.2.1 E.1.2.2.2.2.2.2.1 E.1.2.2.2.2.2.2.2.1 E.1.2.2.2.2.2.2.2.2.1 E.1.2.2.2.2.2.2.2.2.2 H locs 0 0 0 0 (F0 E.1.2.2.2.2.2.1 pc ls st0) rest (zQ E.2.1 w (em b) #[]) (zAA w H.size)
theorem zP_blind {D : va_G} {w : zWl} {tys : zTy} {S : zSt} {sz : Nat} {as : List Value} : FrameBlind (zP D w tys S sz as) := fun a U g mk q => by
  obtain ⟨q0, q1, qP, qK, qN⟩ := q
  exact ⟨q0, q1, qP, va_K.moved (u := U) (U := U.calling g mk a) (Vm.Alike.refl U.vm) qK, zNs.same (U := U.calling g mk a) rfl qN⟩
theorem zrunV (B : zGood E w tys cc own Ts rt rm) {em' : β → zOut} {F : Option β} {y : MethodName} {ws ws' : List Cond} {bytes : ByteArray} {maxL idx : Nat} {ret : Option FieldType} {rm' : Room} {As rest st0 : List Value} {ad ci : Nat} {fs : List Value} {q : vw_C} (n k : Nat) (hM : ∀ b, F = some b → zMet E.1.2.1 E.2.1 w tys y ws rm' S (.ref ad :: As) (em' b)) (hG : GoodIn Ts (wsV own idx q.1 y ws)) (hw : ws = Cond.code y bytes maxL ret :: ws') (hrc : rm'.cells = 0) (hrs : rm'.slots = 0)
    (hdd : y.cls = q.1 ∧ y.cls ≠ "java/lang/invoke/MethodHandle" ∧ y.cls ≠ "java/lang/invoke/VarHandle" ∧ (parseMethodDescriptor y.desc).map (fun d => d.parameters.length) = some n) (hR : rm'.frames + 1 ≤ rm.frames ∧ 8 + (maxL + 11) + rm'.locals ≤ rm.locals) (hk : k < w.1) (ha : w.2.1 k = ad) (hc : w.2.2 S k = .inr (ci, fs)) (hcl : vwCl[ci]? = some q) (hn : As.length = n) (hst : st0 = As.reverse ++ .ref ad :: rest) (hrest : (rest.map fun v => v.category).sum ≤ 8) (hd : decode cc pc = .ok (.invokevirtual idx, 3)) : zCR E w em' S pc st0 rest F := by
  intro b hb H locs ls hP hS hl
  subst ha
  have hRR : E.1.2.2.2.1 = rm := B.2.2.2.2.2.1
  exact va_runV (As := As) (rest := rest) B.1 (hM b hb H.size) (cwV n B.1.2.2.2.2 hG hw hrc hrs hdd (by rw [hRR]; exact hR)) ⟨zP_blind, va_recv B.2.1 hP (ci := ci) (q0 := k) hcl (by rw [zws_get hk, hc]), fun U hU hW => ⟨rfl, by rw [hU], by rw [hU]; exact hP, va_K.moved hW.alike B.2.1, zNs.warm hW B.2.2.2.2.2.2⟩⟩ rfl hn hl hst (lv_room hrest) hd ⟨Nat.zero_le _, Nat.zero_le _⟩
theorem zrunS (B : zGood E w tys cc own Ts rt rm) {em' : β → zOut} {F : Option β} {y : MethodName} {ws ws' : List Cond} {bytes : ByteArray} {maxL idx : Nat} {ret : Option FieldType} {rm' : Room} {As rest st0 : List Value} (n : Nat) (hM : ∀ b, F = some b → zMet E.1.2.1 E.2.1 w tys y ws rm' S As (em' b)) (hG : GoodIn Ts (va_wsS own idx y ws)) (hw : ws = Cond.code y bytes maxL ret :: ws') (hrc : rm'.cells = 0) (hrs : rm'.slots = 0)
    (hdd : y.cls ≠ "java/lang/invoke/MethodHandle" ∧ y.cls ≠ "java/lang/invoke/VarHandle" ∧ (parseMethodDescriptor y.desc).map (fun d => d.parameters.length) = some n) (hR : rm'.frames + 1 ≤ rm.frames ∧ 8 + (maxL + 11) + rm'.locals ≤ rm.locals) (hn : As.length = n) (hst : st0 = As.reverse ++ rest) (hrest : (rest.map fun v => v.category).sum ≤ 8) (hd : decode cc pc = .ok (.invokestatic idx, 3)) : zCR E w em' S pc st0 rest F := by
  intro b hb H locs ls hP hS hl
  have hRR : E.1.2.2.2.1 = rm := B.2.2.2.2.2.1
  exact va_runS (As := As) (rest := rest) B.1 (hM b hb H.size) (va_cwS n B.1.2.2.2.2 hG hw hrc hrs hdd (by rw [hRR]; exact hR)) ⟨zP_blind, fun U hU hW => ⟨rfl, by rw [hU], by rw [hU]; exact hP, va_K.moved hW.alike B.2.1, zNs.warm hW B.2.2.2.2.2.2⟩⟩ rfl hn hl hst (lv_room hrest) hd ⟨Nat.zero_le _, Nat.zero_le _⟩
theorem zrunSN (B : zGood E w tys cc own Ts rt rm) {em' : β → zOut} {F : Option β} {y : MethodName} {ws ws' : List Cond} {bytes : ByteArray} {maxL idx : Nat} {ret : Option FieldType} {rm' : Room} {As rest st0 : List Value} {host : String} (n : Nat) (hM : ∀ b, F = some b → zMet E.1.2.1 E.2.1 w tys y ws rm' S As (em' b)) (hG : GoodIn Ts ws) (hw : ws = Cond.code y bytes maxL ret :: ws') (hrc : rm'.cells = 0) (hrs : rm'.slots = 0)
    (hl1 : va_Nw (.methodLinkNest own idx y host) E.1.2.2.2.2.1) (hl2 : Cond.initialized y.cls ∈ Ts) (hl3 : Cond.static y ∈ Ts) (hdd : y.cls ≠ "java/lang/invoke/MethodHandle" ∧ y.cls ≠ "java/lang/invoke/VarHandle" ∧ (parseMethodDescriptor y.desc).map (fun d => d.parameters.length) = some n) (hR : rm'.frames + 1 ≤ rm.frames ∧ 8 + (maxL + 11) + rm'.locals ≤ rm.locals) (hn : As.length = n) (hst : st0 = As.reverse ++ rest) (hrest : (rest.map fun v => v.category).sum ≤ 8) (hd : decode cc pc = .ok (.invokestatic idx, 3)) : zCR E w em' S pc st0 rest F := by
  intro b hb H locs ls hP hS hl
  have hRR : E.1.2.2.2.1 = rm := B.2.2.2.2.2.1
  exact va_runSN (As := As) (rest := rest) (host := host) B.1 (hM b hb H.size) ⟨va_cnB n B.1.2.2.2.2 hG hw hrc hrs hl1 (B.1.2.2.2.2 _ hl2) hdd (by rw [hRR]; exact hR), B.1.2.2.2.2 _ hl3, trivial⟩ ⟨zP_blind, fun U hU hW => ⟨rfl, by rw [hU], by rw [hU]; exact hP, va_K.moved hW.alike B.2.1, zNs.warm hW B.2.2.2.2.2.2⟩⟩ rfl hn hl hst (lv_room hrest) hd ⟨Nat.zero_le _, Nat.zero_le _⟩
theorem r_call {em' : β → zOut} {F : Option β} {f : β → Option α} {st0 rest : List Value} (hr : zCR E w em' S pc st0 rest F) (k : ∀ b, F = some b → Xo E w em (em' b).2 (pc + 3) lv ((em' b).1.toList ++ rest) (f b)) : Xo E w em S pc lv st0 (F.bind f) := by
  intro a ha H locs ls hP hS hl T hT X
  cases hF : F with
  | none => rw [hF] at ha; cases ha
  | some b =>
    rw [hF] at ha
    have ha : f b = some a := ha
    obtain ⟨v, st₀, t, T', L, h0, X', hL, e1, e2, ⟨hv, hP1, hz, hk⟩, hgo⟩ := hr b hF H locs ls hP hS hl.1 T hT X
    rw [h0] at hz hk
    have hv : v = (em' b).1 := by injection hv
    rw [hv] at hgo
    have up : ∀ q : Nat, zAA w H.size q → zAA w E.1.2.2.2.2.1.heap.size q := fun q h => by
      rcases h with h | h
      · exact Or.inl h
      · exact Or.inr (Nat.le_trans hS.1 h)
    obtain ⟨t2, a1, b1⟩ := k b hF a ha T'.heap (locs ++ L) ls (by rw [e1]; exact hP1)
      ⟨Nat.le_trans hS.1 (by rw [e1]; exact hz), fun q h1 h2 => by rw [e1, hk q (Nat.lt_of_lt_of_le h1 hS.1) (fun z => h2 (up q z))]; exact hS.2.1 q h1 h2, fun q hq => by
        rcases List.mem_append.mp hq with h | h
        · exact hS.2.2 q h
        · exact up _ (hL q h)⟩ hl T' rfl X'
    exact ⟨t2, hgo t2 a1, b1⟩
theorem r_cI {F : Option Int32} {f : Int32 → Option α} {st0 rest : List Value} (hr : zCR E w (eI S) S pc st0 rest F) (k : ∀ b : Int32, Xo E w em S (pc + 3) lv (.int b :: rest) (f b)) : Xo E w em S pc lv st0 (F.bind f) := r_call hr (fun b _ => k b)
theorem r_cIw {F : Option (Int32 × zSt)} {f : Int32 → zSt → Option α} {st0 rest : List Value} (hr : zCR E w eIw S pc st0 rest F) (k : ∀ (b : Int32) (S' : zSt), Xo E w em S' (pc + 3) lv (.int b :: rest) (f b S')) : Xo E w em S pc lv st0 (b2 F f) := r_call hr (fun b _ => k b.1 b.2)
theorem r_cL {F : Option Int64} {f : Int64 → Option α} {st0 rest : List Value} (hr : zCR E w (eL S) S pc st0 rest F) (k : ∀ b : Int64, Xo E w em S (pc + 3) lv (.long b :: rest) (f b)) : Xo E w em S pc lv st0 (F.bind f) := r_call hr (fun b _ => k b)
theorem r_cLw {F : Option (Int64 × zSt)} {f : Int64 → zSt → Option α} {st0 rest : List Value} (hr : zCR E w eLw S pc st0 rest F) (k : ∀ (b : Int64) (S' : zSt), Xo E w em S' (pc + 3) lv (.long b :: rest) (f b S')) : Xo E w em S pc lv st0 (b2 F f) := r_call hr (fun b _ => k b.1 b.2)
theorem r_cVw {F : Option zSt} {f : zSt → Option α} {st0 rest : List Value} (hr : zCR E w eVw S pc st0 rest F) (k : ∀ (S' : zSt), Xo E w em S' (pc + 3) lv rest (f S')) : Xo E w em S pc lv st0 (F.bind f) := r_call hr (fun b _ => k b)
end ZR
theorem zmet_of {β : Type} {l : Launch} {D : va_G} {w : zWl} {tys : zTy} {y : MethodName} {ws ws' : List Cond} {cc : ByteArray} {nL : Nat} {rt : Option FieldType} {rm : Room} {em : β → zOut} {S : zSt} {as : List Value} {o : Option β} (hy : plainName y.cls = true) (hw : ws = Cond.code y cc nL rt :: ws') (hz : zin w) (hlen : (lg_sl as).length ≤ nL) {lv : List (Nat × Value)} (hlv : lv_args 0 as = lv) (body : ∀ E : zCx, E.1.2.1 = l → E.2.1 = D → E.2.2 = nL → zGood E w tys cc y.cls ws rt rm → Xo E w em S 0 lv [] o) {b : β} (ho : o = some b) : zMet l D w tys y ws rm S as (em b) := by
  intro sz
  refine Met.ofW (cc := cc) (maxL := nL) (ret := rt) hy hw ?_
  intro p e s m args below meth c s₁ Bd hml hv
  obtain ⟨rfl, hsz, hP, hK, hN⟩ := hv
  subst hsz
  subst hlv
  rw [lg_entry_eq]
  exact body ((p, l, e, rm, s, m, as.toArray, below, meth, c), D, nL) rfl rfl rfl ⟨⟨Bd.exec, Bd.bytes, hml, findClass_of_methodNamed Bd.named, atoms_spec (ws := ws) Bd.pre⟩, hK, hz, Bd.notSynchronized, Bd.returns, rfl, hN⟩ b ho s.heap [] _ hP va_S.rf (lv_entry as hlen)
end
