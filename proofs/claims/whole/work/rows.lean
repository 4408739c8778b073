section
-- ===== PART A: goes FIRST, ahead of the names: the tables' words, and 'selects' of the private methods out of them =====
/-- a private method of a class that the tables say can be made, by its rows of tables_1 -/
def lw_okq (q : MethodName × Nat) : Prop := (q.1.cls ≠ "java/lang/invoke/MethodHandle" ∧ q.1.cls ≠ "java/lang/invoke/VarHandle") ∧ Cond.instantiable q.1.cls q.2 ∈ tables_1 ∧ Cond.privateMethod q.1 ∈ tables_1 ∧ Cond.instanceMethod q.1 ∈ tables_1
theorem lw_p0 : lw_okq (⟨"TwoBooks", "carriedOut", "(III)V"⟩, 11) := ⟨⟨by decide +kernel, by decide +kernel⟩, List.mem_of_getElem? (i := 16) (by decide +kernel), List.mem_of_getElem? (i := 408) (by decide +kernel), List.mem_of_getElem? (i := 409) (by decide +kernel)⟩
theorem lw_p1 : lw_okq (⟨"TwoBooks", "endUndoing", "()V"⟩, 11) := ⟨⟨by decide +kernel, by decide +kernel⟩, List.mem_of_getElem? (i := 16) (by decide +kernel), List.mem_of_getElem? (i := 424) (by decide +kernel), List.mem_of_getElem? (i := 425) (by decide +kernel)⟩
theorem lw_p2 : lw_okq (⟨"TwoBooks", "lineAt", "(II)LTwoBooks$Line;"⟩, 11) := ⟨⟨by decide +kernel, by decide +kernel⟩, List.mem_of_getElem? (i := 16) (by decide +kernel), List.mem_of_getElem? (i := 436) (by decide +kernel), List.mem_of_getElem? (i := 437) (by decide +kernel)⟩
theorem lw_p3 : lw_okq (⟨"TwoBooks", "fitOf", "(LTwoBooks$Line;LTwoBooks$Line;)I"⟩, 11) := ⟨⟨by decide +kernel, by decide +kernel⟩, List.mem_of_getElem? (i := 16) (by decide +kernel), List.mem_of_getElem? (i := 449) (by decide +kernel), List.mem_of_getElem? (i := 450) (by decide +kernel)⟩
theorem lw_p4 : lw_okq (⟨"TwoBooks", "learnt", "(II)I"⟩, 11) := ⟨⟨by decide +kernel, by decide +kernel⟩, List.mem_of_getElem? (i := 16) (by decide +kernel), List.mem_of_getElem? (i := 456) (by decide +kernel), List.mem_of_getElem? (i := 457) (by decide +kernel)⟩
theorem lw_p5 : lw_okq (⟨"TwoBooks$Seats", "seat", "(I)V"⟩, 12) := ⟨⟨by decide +kernel, by decide +kernel⟩, List.mem_of_getElem? (i := 136) (by decide +kernel), List.mem_of_getElem? (i := 504) (by decide +kernel), List.mem_of_getElem? (i := 505) (by decide +kernel)⟩
theorem lw_p6 : lw_okq (⟨"TwoBooks$Seats", "clearSearch", "()V"⟩, 12) := ⟨⟨by decide +kernel, by decide +kernel⟩, List.mem_of_getElem? (i := 136) (by decide +kernel), List.mem_of_getElem? (i := 508) (by decide +kernel), List.mem_of_getElem? (i := 509) (by decide +kernel)⟩
theorem lw_p7 : lw_okq (⟨"TwoBooks$Seats", "nextColumn", "(I)I"⟩, 12) := ⟨⟨by decide +kernel, by decide +kernel⟩, List.mem_of_getElem? (i := 136) (by decide +kernel), List.mem_of_getElem? (i := 513) (by decide +kernel), List.mem_of_getElem? (i := 514) (by decide +kernel)⟩
theorem lw_p8 : lw_okq (⟨"TwoBooks$Seats", "settle", "(I)V"⟩, 12) := ⟨⟨by decide +kernel, by decide +kernel⟩, List.mem_of_getElem? (i := 136) (by decide +kernel), List.mem_of_getElem? (i := 521) (by decide +kernel), List.mem_of_getElem? (i := 522) (by decide +kernel)⟩
theorem lw_p9 : lw_okq (⟨"TwoBooks$Seats", "isTight", "(II)Z"⟩, 12) := ⟨⟨by decide +kernel, by decide +kernel⟩, List.mem_of_getElem? (i := 136) (by decide +kernel), List.mem_of_getElem? (i := 525) (by decide +kernel), List.mem_of_getElem? (i := 526) (by decide +kernel)⟩
theorem lw_p10 : lw_okq (⟨"TwoBooks$Seats", "canSit", "(II)Z"⟩, 12) := ⟨⟨by decide +kernel, by decide +kernel⟩, List.mem_of_getElem? (i := 136) (by decide +kernel), List.mem_of_getElem? (i := 529) (by decide +kernel), List.mem_of_getElem? (i := 530) (by decide +kernel)⟩
theorem lw_p11 : lw_okq (⟨"TwoBooks$Seats", "moves", "(II)Z"⟩, 12) := ⟨⟨by decide +kernel, by decide +kernel⟩, List.mem_of_getElem? (i := 136) (by decide +kernel), List.mem_of_getElem? (i := 537) (by decide +kernel), List.mem_of_getElem? (i := 538) (by decide +kernel)⟩
theorem lw_p12 : lw_okq (⟨"TwoBooks$Seats", "restore", "()V"⟩, 12) := ⟨⟨by decide +kernel, by decide +kernel⟩, List.mem_of_getElem? (i := 136) (by decide +kernel), List.mem_of_getElem? (i := 558) (by decide +kernel), List.mem_of_getElem? (i := 559) (by decide +kernel)⟩
theorem lw_p13 : lw_okq (⟨"TwoBooks", "freshRow", "(I)I"⟩, 11) := ⟨⟨by decide +kernel, by decide +kernel⟩, List.mem_of_getElem? (i := 16) (by decide +kernel), List.mem_of_getElem? (i := 566) (by decide +kernel), List.mem_of_getElem? (i := 567) (by decide +kernel)⟩
theorem lw_p14 : lw_okq (⟨"TwoBooks", "makeGroup", "(ILTwoBooks$Line;LTwoBooks$Line;)I"⟩, 11) := ⟨⟨by decide +kernel, by decide +kernel⟩, List.mem_of_getElem? (i := 16) (by decide +kernel), List.mem_of_getElem? (i := 591) (by decide +kernel), List.mem_of_getElem? (i := 592) (by decide +kernel)⟩
theorem lw_p15 : lw_okq (⟨"TwoBooks", "addTo", "(ILTwoBooks$Line;)V"⟩, 11) := ⟨⟨by decide +kernel, by decide +kernel⟩, List.mem_of_getElem? (i := 16) (by decide +kernel), List.mem_of_getElem? (i := 599) (by decide +kernel), List.mem_of_getElem? (i := 600) (by decide +kernel)⟩
def lw_privs_1 : List (MethodName × Nat) := [(⟨"TwoBooks", "carriedOut", "(III)V"⟩, 11), (⟨"TwoBooks", "endUndoing", "()V"⟩, 11), (⟨"TwoBooks", "lineAt", "(II)LTwoBooks$Line;"⟩, 11), (⟨"TwoBooks", "fitOf", "(LTwoBooks$Line;LTwoBooks$Line;)I"⟩, 11), (⟨"TwoBooks", "learnt", "(II)I"⟩, 11), (⟨"TwoBooks$Seats", "seat", "(I)V"⟩, 12), (⟨"TwoBooks$Seats", "clearSearch", "()V"⟩, 12), (⟨"TwoBooks$Seats", "nextColumn", "(I)I"⟩, 12), (⟨"TwoBooks$Seats", "settle", "(I)V"⟩, 12), (⟨"TwoBooks$Seats", "isTight", "(II)Z"⟩, 12), (⟨"TwoBooks$Seats", "canSit", "(II)Z"⟩, 12), (⟨"TwoBooks$Seats", "moves", "(II)Z"⟩, 12), (⟨"TwoBooks$Seats", "restore", "()V"⟩, 12), (⟨"TwoBooks", "freshRow", "(I)I"⟩, 11), (⟨"TwoBooks", "makeGroup", "(ILTwoBooks$Line;LTwoBooks$Line;)I"⟩, 11), (⟨"TwoBooks", "addTo", "(ILTwoBooks$Line;)V"⟩, 11)]
theorem lw_r1 : ∀ q ∈ lw_privs_1, lw_okq q := List.forall_mem_cons.mpr ⟨lw_p0, List.forall_mem_cons.mpr ⟨lw_p1, List.forall_mem_cons.mpr ⟨lw_p2, List.forall_mem_cons.mpr ⟨lw_p3, List.forall_mem_cons.mpr ⟨lw_p4, List.forall_mem_cons.mpr ⟨lw_p5, List.forall_mem_cons.mpr ⟨lw_p6, List.forall_mem_cons.mpr ⟨lw_p7, List.forall_mem_cons.mpr ⟨lw_p8, List.forall_mem_cons.mpr ⟨lw_p9, List.forall_mem_cons.mpr ⟨lw_p10, List.forall_mem_cons.mpr ⟨lw_p11, List.forall_mem_cons.mpr ⟨lw_p12, List.forall_mem_cons.mpr ⟨lw_p13, List.forall_mem_cons.mpr ⟨lw_p14, List.forall_mem_cons.mpr ⟨lw_p15, fun _ h => absurd h List.not_mem_nil⟩⟩⟩⟩⟩⟩⟩⟩⟩⟩⟩⟩⟩⟩⟩⟩
theorem lw_p16 : lw_okq (⟨"TwoBooks$Sets", "boundAmounts", "()V"⟩, 13) := ⟨⟨by decide +kernel, by decide +kernel⟩, List.mem_of_getElem? (i := 221) (by decide +kernel), List.mem_of_getElem? (i := 617) (by decide +kernel), List.mem_of_getElem? (i := 618) (by decide +kernel)⟩
theorem lw_p17 : lw_okq (⟨"TwoBooks$Sets", "extend", "(IIII)V"⟩, 13) := ⟨⟨by decide +kernel, by decide +kernel⟩, List.mem_of_getElem? (i := 221) (by decide +kernel), List.mem_of_getElem? (i := 627) (by decide +kernel), List.mem_of_getElem? (i := 628) (by decide +kernel)⟩
theorem lw_p18 : lw_okq (⟨"TwoBooks$Sets", "finish", "(III)V"⟩, 13) := ⟨⟨by decide +kernel, by decide +kernel⟩, List.mem_of_getElem? (i := 221) (by decide +kernel), List.mem_of_getElem? (i := 631) (by decide +kernel), List.mem_of_getElem? (i := 632) (by decide +kernel)⟩
theorem lw_p19 : lw_okq (⟨"TwoBooks$Sets", "canReach", "(III)Z"⟩, 13) := ⟨⟨by decide +kernel, by decide +kernel⟩, List.mem_of_getElem? (i := 221) (by decide +kernel), List.mem_of_getElem? (i := 635) (by decide +kernel), List.mem_of_getElem? (i := 636) (by decide +kernel)⟩
theorem lw_p20 : lw_okq (⟨"TwoBooks", "isGroupThere", "(I)Z"⟩, 11) := ⟨⟨by decide +kernel, by decide +kernel⟩, List.mem_of_getElem? (i := 16) (by decide +kernel), List.mem_of_getElem? (i := 672) (by decide +kernel), List.mem_of_getElem? (i := 673) (by decide +kernel)⟩
theorem lw_p21 : lw_okq (⟨"TwoBooks", "booksDifference", "()I"⟩, 11) := ⟨⟨by decide +kernel, by decide +kernel⟩, List.mem_of_getElem? (i := 16) (by decide +kernel), List.mem_of_getElem? (i := 713) (by decide +kernel), List.mem_of_getElem? (i := 714) (by decide +kernel)⟩
theorem lw_p22 : lw_okq (⟨"TwoBooks", "groupsDifference", "()I"⟩, 11) := ⟨⟨by decide +kernel, by decide +kernel⟩, List.mem_of_getElem? (i := 16) (by decide +kernel), List.mem_of_getElem? (i := 725) (by decide +kernel), List.mem_of_getElem? (i := 726) (by decide +kernel)⟩
theorem lw_p23 : lw_okq (⟨"TwoBooks", "countHolders", "(I)I"⟩, 11) := ⟨⟨by decide +kernel, by decide +kernel⟩, List.mem_of_getElem? (i := 16) (by decide +kernel), List.mem_of_getElem? (i := 734) (by decide +kernel), List.mem_of_getElem? (i := 735) (by decide +kernel)⟩
theorem lw_p24 : lw_okq (⟨"TwoBooks", "countUneven", "()I"⟩, 11) := ⟨⟨by decide +kernel, by decide +kernel⟩, List.mem_of_getElem? (i := 16) (by decide +kernel), List.mem_of_getElem? (i := 766) (by decide +kernel), List.mem_of_getElem? (i := 767) (by decide +kernel)⟩
theorem lw_p25 : lw_okq (⟨"TwoBooks$Explanation", "choose", "(I)V"⟩, 10) := ⟨⟨by decide +kernel, by decide +kernel⟩, List.mem_of_getElem? (i := 271) (by decide +kernel), List.mem_of_getElem? (i := 817) (by decide +kernel), List.mem_of_getElem? (i := 818) (by decide +kernel)⟩
theorem lw_p26 : lw_okq (⟨"TwoBooks", "takeBack", "(III)V"⟩, 11) := ⟨⟨by decide +kernel, by decide +kernel⟩, List.mem_of_getElem? (i := 16) (by decide +kernel), List.mem_of_getElem? (i := 834) (by decide +kernel), List.mem_of_getElem? (i := 835) (by decide +kernel)⟩
theorem lw_p27 : lw_okq (⟨"TwoBooks", "countThere", "()I"⟩, 11) := ⟨⟨by decide +kernel, by decide +kernel⟩, List.mem_of_getElem? (i := 16) (by decide +kernel), List.mem_of_getElem? (i := 846) (by decide +kernel), List.mem_of_getElem? (i := 847) (by decide +kernel)⟩
theorem lw_p28 : lw_okq (⟨"TwoBooks", "allHaveBothBooks", "()Z"⟩, 11) := ⟨⟨by decide +kernel, by decide +kernel⟩, List.mem_of_getElem? (i := 16) (by decide +kernel), List.mem_of_getElem? (i := 858) (by decide +kernel), List.mem_of_getElem? (i := 859) (by decide +kernel)⟩
theorem lw_p29 : lw_okq (⟨"TwoBooksModel", "did", "(III)V"⟩, 47) := ⟨⟨by decide +kernel, by decide +kernel⟩, List.mem_of_getElem? (i := 866) (by decide +kernel), List.mem_of_getElem? (i := 1026) (by decide +kernel), List.mem_of_getElem? (i := 1027) (by decide +kernel)⟩
theorem lw_p30 : lw_okq (⟨"TwoBooksModel", "changed", "()V"⟩, 47) := ⟨⟨by decide +kernel, by decide +kernel⟩, List.mem_of_getElem? (i := 866) (by decide +kernel), List.mem_of_getElem? (i := 1035) (by decide +kernel), List.mem_of_getElem? (i := 1036) (by decide +kernel)⟩
theorem lw_p31 : lw_okq (⟨"TwoBooksModel", "isLine", "(II)Z"⟩, 47) := ⟨⟨by decide +kernel, by decide +kernel⟩, List.mem_of_getElem? (i := 866) (by decide +kernel), List.mem_of_getElem? (i := 1047) (by decide +kernel), List.mem_of_getElem? (i := 1048) (by decide +kernel)⟩
def lw_privs_2 : List (MethodName × Nat) := [(⟨"TwoBooks$Sets", "boundAmounts", "()V"⟩, 13), (⟨"TwoBooks$Sets", "extend", "(IIII)V"⟩, 13), (⟨"TwoBooks$Sets", "finish", "(III)V"⟩, 13), (⟨"TwoBooks$Sets", "canReach", "(III)Z"⟩, 13), (⟨"TwoBooks", "isGroupThere", "(I)Z"⟩, 11), (⟨"TwoBooks", "booksDifference", "()I"⟩, 11), (⟨"TwoBooks", "groupsDifference", "()I"⟩, 11), (⟨"TwoBooks", "countHolders", "(I)I"⟩, 11), (⟨"TwoBooks", "countUneven", "()I"⟩, 11), (⟨"TwoBooks$Explanation", "choose", "(I)V"⟩, 10), (⟨"TwoBooks", "takeBack", "(III)V"⟩, 11), (⟨"TwoBooks", "countThere", "()I"⟩, 11), (⟨"TwoBooks", "allHaveBothBooks", "()Z"⟩, 11), (⟨"TwoBooksModel", "did", "(III)V"⟩, 47), (⟨"TwoBooksModel", "changed", "()V"⟩, 47), (⟨"TwoBooksModel", "isLine", "(II)Z"⟩, 47)]
theorem lw_r2 : ∀ q ∈ lw_privs_2, lw_okq q := List.forall_mem_cons.mpr ⟨lw_p16, List.forall_mem_cons.mpr ⟨lw_p17, List.forall_mem_cons.mpr ⟨lw_p18, List.forall_mem_cons.mpr ⟨lw_p19, List.forall_mem_cons.mpr ⟨lw_p20, List.forall_mem_cons.mpr ⟨lw_p21, List.forall_mem_cons.mpr ⟨lw_p22, List.forall_mem_cons.mpr ⟨lw_p23, List.forall_mem_cons.mpr ⟨lw_p24, List.forall_mem_cons.mpr ⟨lw_p25, List.forall_mem_cons.mpr ⟨lw_p26, List.forall_mem_cons.mpr ⟨lw_p27, List.forall_mem_cons.mpr ⟨lw_p28, List.forall_mem_cons.mpr ⟨lw_p29, List.forall_mem_cons.mpr ⟨lw_p30, List.forall_mem_cons.mpr ⟨lw_p31, fun _ h => absurd h List.not_mem_nil⟩⟩⟩⟩⟩⟩⟩⟩⟩⟩⟩⟩⟩⟩⟩⟩
theorem lw_p32 : lw_okq (⟨"TwoBooksModel", "fitOf", "(II)I"⟩, 47) := ⟨⟨by decide +kernel, by decide +kernel⟩, List.mem_of_getElem? (i := 866) (by decide +kernel), List.mem_of_getElem? (i := 1056) (by decide +kernel), List.mem_of_getElem? (i := 1057) (by decide +kernel)⟩
theorem lw_p33 : lw_okq (⟨"TwoBooksModel", "hasWord", "(III)Z"⟩, 47) := ⟨⟨by decide +kernel, by decide +kernel⟩, List.mem_of_getElem? (i := 866) (by decide +kernel), List.mem_of_getElem? (i := 1063) (by decide +kernel), List.mem_of_getElem? (i := 1064) (by decide +kernel)⟩
theorem lw_p34 : lw_okq (⟨"TwoBooksModel", "reckon", "(II)I"⟩, 47) := ⟨⟨by decide +kernel, by decide +kernel⟩, List.mem_of_getElem? (i := 866) (by decide +kernel), List.mem_of_getElem? (i := 1074) (by decide +kernel), List.mem_of_getElem? (i := 1075) (by decide +kernel)⟩
theorem lw_p35 : lw_okq (⟨"TwoBooksModel", "paired", "(I)I"⟩, 47) := ⟨⟨by decide +kernel, by decide +kernel⟩, List.mem_of_getElem? (i := 866) (by decide +kernel), List.mem_of_getElem? (i := 1082) (by decide +kernel), List.mem_of_getElem? (i := 1083) (by decide +kernel)⟩
theorem lw_p36 : lw_okq (⟨"TwoBooksModel", "withoutPair", "(I)I"⟩, 47) := ⟨⟨by decide +kernel, by decide +kernel⟩, List.mem_of_getElem? (i := 866) (by decide +kernel), List.mem_of_getElem? (i := 1090) (by decide +kernel), List.mem_of_getElem? (i := 1091) (by decide +kernel)⟩
theorem lw_p37 : lw_okq (⟨"TwoBooksModel", "newGroup", "(I)I"⟩, 47) := ⟨⟨by decide +kernel, by decide +kernel⟩, List.mem_of_getElem? (i := 866) (by decide +kernel), List.mem_of_getElem? (i := 1098) (by decide +kernel), List.mem_of_getElem? (i := 1099) (by decide +kernel)⟩
theorem lw_p38 : lw_okq (⟨"TwoBooksModel", "add", "(II)V"⟩, 47) := ⟨⟨by decide +kernel, by decide +kernel⟩, List.mem_of_getElem? (i := 866) (by decide +kernel), List.mem_of_getElem? (i := 1102) (by decide +kernel), List.mem_of_getElem? (i := 1103) (by decide +kernel)⟩
theorem lw_p39 : lw_okq (⟨"TwoBooksModel", "choose", "(IIIIJI)V"⟩, 47) := ⟨⟨by decide +kernel, by decide +kernel⟩, List.mem_of_getElem? (i := 866) (by decide +kernel), List.mem_of_getElem? (i := 1110) (by decide +kernel), List.mem_of_getElem? (i := 1111) (by decide +kernel)⟩
theorem lw_p40 : lw_okq (⟨"TwoBooksModel", "isThere", "(I)Z"⟩, 47) := ⟨⟨by decide +kernel, by decide +kernel⟩, List.mem_of_getElem? (i := 866) (by decide +kernel), List.mem_of_getElem? (i := 1134) (by decide +kernel), List.mem_of_getElem? (i := 1135) (by decide +kernel)⟩
theorem lw_p41 : lw_okq (⟨"TwoBooksModel", "differenceOf", "(I)J"⟩, 47) := ⟨⟨by decide +kernel, by decide +kernel⟩, List.mem_of_getElem? (i := 866) (by decide +kernel), List.mem_of_getElem? (i := 1151) (by decide +kernel), List.mem_of_getElem? (i := 1152) (by decide +kernel)⟩
theorem lw_p42 : lw_okq (⟨"TwoBooksModel", "wasThere", "(II)Z"⟩, 47) := ⟨⟨by decide +kernel, by decide +kernel⟩, List.mem_of_getElem? (i := 866) (by decide +kernel), List.mem_of_getElem? (i := 1172) (by decide +kernel), List.mem_of_getElem? (i := 1173) (by decide +kernel)⟩
theorem lw_p43 : lw_okq (⟨"TwoBooksModel", "addItem", "(IIIJ)I"⟩, 47) := ⟨⟨by decide +kernel, by decide +kernel⟩, List.mem_of_getElem? (i := 866) (by decide +kernel), List.mem_of_getElem? (i := 1180) (by decide +kernel), List.mem_of_getElem? (i := 1181) (by decide +kernel)⟩
theorem lw_p44 : lw_okq (⟨"TwoBooksModel", "find", "(IIIJ)I"⟩, 47) := ⟨⟨by decide +kernel, by decide +kernel⟩, List.mem_of_getElem? (i := 866) (by decide +kernel), List.mem_of_getElem? (i := 1185) (by decide +kernel), List.mem_of_getElem? (i := 1186) (by decide +kernel)⟩
def lw_privs_3 : List (MethodName × Nat) := [(⟨"TwoBooksModel", "fitOf", "(II)I"⟩, 47), (⟨"TwoBooksModel", "hasWord", "(III)Z"⟩, 47), (⟨"TwoBooksModel", "reckon", "(II)I"⟩, 47), (⟨"TwoBooksModel", "paired", "(I)I"⟩, 47), (⟨"TwoBooksModel", "withoutPair", "(I)I"⟩, 47), (⟨"TwoBooksModel", "newGroup", "(I)I"⟩, 47), (⟨"TwoBooksModel", "add", "(II)V"⟩, 47), (⟨"TwoBooksModel", "choose", "(IIIIJI)V"⟩, 47), (⟨"TwoBooksModel", "isThere", "(I)Z"⟩, 47), (⟨"TwoBooksModel", "differenceOf", "(I)J"⟩, 47), (⟨"TwoBooksModel", "wasThere", "(II)Z"⟩, 47), (⟨"TwoBooksModel", "addItem", "(IIIJ)I"⟩, 47), (⟨"TwoBooksModel", "find", "(IIIJ)I"⟩, 47)]
theorem lw_r3 : ∀ q ∈ lw_privs_3, lw_okq q := List.forall_mem_cons.mpr ⟨lw_p32, List.forall_mem_cons.mpr ⟨lw_p33, List.forall_mem_cons.mpr ⟨lw_p34, List.forall_mem_cons.mpr ⟨lw_p35, List.forall_mem_cons.mpr ⟨lw_p36, List.forall_mem_cons.mpr ⟨lw_p37, List.forall_mem_cons.mpr ⟨lw_p38, List.forall_mem_cons.mpr ⟨lw_p39, List.forall_mem_cons.mpr ⟨lw_p40, List.forall_mem_cons.mpr ⟨lw_p41, List.forall_mem_cons.mpr ⟨lw_p42, List.forall_mem_cons.mpr ⟨lw_p43, List.forall_mem_cons.mpr ⟨lw_p44, fun _ h => absurd h List.not_mem_nil⟩⟩⟩⟩⟩⟩⟩⟩⟩⟩⟩⟩⟩
def lw_privs : List (MethodName × Nat) := lw_privs_1 ++ (lw_privs_2 ++ (lw_privs_3))
def lw_tbl : List Cond := k2_sels lw_privs ++ tables_1
theorem lw_privs_ok : ∀ q ∈ lw_privs, lw_okq q := by
  show ∀ q ∈ lw_privs_1 ++ (lw_privs_2 ++ (lw_privs_3)), lw_okq q
  exact List.forall_mem_append.mpr ⟨lw_r1, List.forall_mem_append.mpr ⟨lw_r2, lw_r3⟩⟩
end
section
def RX0 : String := "TwoBooks$Acts"
def TX0 : u_T := fun k => match k with
  | 0 => ("TwoBooks$Acts", "kind", "[I", true)
  | 1 => ("TwoBooks$Acts", "subject", "[I", true)
  | 2 => ("TwoBooks$Acts", "before", "[I", true)
  | 3 => ("TwoBooks$Acts", "next", "I", false)
  | _ => ("TwoBooks$Acts", "used", "I", false)
def tyX0 : Nat → FieldType := fun k => match k with
  | 0 => .array .int
  | 1 => .array .int
  | 2 => .array .int
  | 3 => .int
  | _ => .int
abbrev wsX00 : List Cond := u_ws RX0 TX0 5
theorem nmX0 : ∀ a, a < 5 → ∀ b, b < 5 → a ≠ b → (TX0 a).2.1 ≠ (TX0 b).2.1 := by decide +kernel
theorem tyX0_ok : ∀ k, k < 5 → parseFieldDescriptor (TX0 k).2.2.1 = some (tyX0 k) := by decide +kernel
abbrev cX0_init : ByteArray := prog_2_method_1_code
def yX0_init : MethodName := ⟨RX0, "<init>", "()V"⟩
abbrev cX0_put : ByteArray := prog_2_method_2_code
def yX0_put : MethodName := ⟨RX0, "put", "(III)V"⟩
abbrev cX0_takeLatest : ByteArray := prog_2_method_3_code
def yX0_takeLatest : MethodName := ⟨RX0, "takeLatest", "()I"⟩
def RX1 : String := "TwoBooks$Book"
def TX1 : u_T := fun k => match k with
  | 0 => ("TwoBooks$Book", "lines", "[LTwoBooks$Line;", true)
  | _ => ("TwoBooks$Book", "used", "I", false)
def tyX1 : Nat → FieldType := fun k => match k with
  | 0 => .array (.object "TwoBooks$Line")
  | _ => .int
abbrev wsX10 : List Cond := u_ws RX1 TX1 2
theorem nmX1 : ∀ a, a < 2 → ∀ b, b < 2 → a ≠ b → (TX1 a).2.1 ≠ (TX1 b).2.1 := by decide +kernel
theorem tyX1_ok : ∀ k, k < 2 → parseFieldDescriptor (TX1 k).2.2.1 = some (tyX1 k) := by decide +kernel
abbrev cX1_init : ByteArray := prog_3_method_1_code
def yX1_init : MethodName := ⟨RX1, "<init>", "(I)V"⟩
abbrev cX1_breaksAged : ByteArray := prog_3_method_2_code
def yX1_breaksAged : MethodName := ⟨RX1, "breaksAged", "(II)I"⟩
abbrev cX1_breakAt : ByteArray := prog_3_method_3_code
def yX1_breakAt : MethodName := ⟨RX1, "breakAt", "(I)I"⟩
abbrev cX1_sumOfAll : ByteArray := prog_3_method_4_code
def yX1_sumOfAll : MethodName := ⟨RX1, "sumOfAll", "()I"⟩
abbrev cX1_sumOfBreaks : ByteArray := prog_3_method_5_code
def yX1_sumOfBreaks : MethodName := ⟨RX1, "sumOfBreaks", "()I"⟩
abbrev cX1_clearHolders : ByteArray := prog_3_method_6_code
def yX1_clearHolders : MethodName := ⟨RX1, "clearHolders", "()V"⟩
abbrev cX1_countUnheld : ByteArray := prog_3_method_7_code
def yX1_countUnheld : MethodName := ⟨RX1, "countUnheld", "(I)I"⟩
abbrev cX1_sumUnheld : ByteArray := prog_3_method_8_code
def yX1_sumUnheld : MethodName := ⟨RX1, "sumUnheld", "(I)I"⟩
abbrev cX1_isHeldRightly : ByteArray := prog_3_method_9_code
def yX1_isHeldRightly : MethodName := ⟨RX1, "isHeldRightly", "()Z"⟩
def RX2 : String := "TwoBooks$Explanation"
def TX2 : u_T := fun k => match k with
  | 0 => ("TwoBooks$Explanation", "kind", "[I", true)
  | 1 => ("TwoBooks$Explanation", "number", "[I", true)
  | 2 => ("TwoBooks$Explanation", "amount", "[I", true)
  | 3 => ("TwoBooks$Explanation", "early", "LTwoBooks$Sums;", true)
  | 4 => ("TwoBooks$Explanation", "late", "LTwoBooks$Sums;", true)
  | 5 => ("TwoBooks$Explanation", "spare", "LTwoBooks$Sums;", true)
  | 6 => ("TwoBooks$Explanation", "things", "I", false)
  | 7 => ("TwoBooks$Explanation", "chosenKind", "[I", true)
  | 8 => ("TwoBooks$Explanation", "chosenNumber", "[I", true)
  | _ => ("TwoBooks$Explanation", "many", "I", false)
def tyX2 : Nat → FieldType := fun k => match k with
  | 0 => .array .int
  | 1 => .array .int
  | 2 => .array .int
  | 3 => .object "TwoBooks$Sums"
  | 4 => .object "TwoBooks$Sums"
  | 5 => .object "TwoBooks$Sums"
  | 6 => .int
  | 7 => .array .int
  | 8 => .array .int
  | _ => .int
abbrev wsX20 : List Cond := u_ws RX2 TX2 10
theorem nmX2 : ∀ a, a < 10 → ∀ b, b < 10 → a ≠ b → (TX2 a).2.1 ≠ (TX2 b).2.1 := by decide +kernel
theorem tyX2_ok : ∀ k, k < 10 → parseFieldDescriptor (TX2 k).2.2.1 = some (tyX2 k) := by decide +kernel
abbrev cX2_init : ByteArray := prog_4_method_1_code
def yX2_init : MethodName := ⟨RX2, "<init>", "()V"⟩
abbrev cX2_start : ByteArray := prog_4_method_2_code
def yX2_start : MethodName := ⟨RX2, "start", "()V"⟩
abbrev cX2_addBreaks : ByteArray := prog_4_method_3_code
def yX2_addBreaks : MethodName := ⟨RX2, "addBreaks", "(LTwoBooks$Book;I)V"⟩
abbrev cX2_add : ByteArray := prog_4_method_4_code
def yX2_add : MethodName := ⟨RX2, "add", "(III)V"⟩
abbrev cX2_find : ByteArray := prog_4_method_5_code
def yX2_find : MethodName := ⟨RX2, "find", "(I)Z"⟩
abbrev cX2_bitOf : ByteArray := prog_4_method_6_code
def yX2_bitOf : MethodName := ⟨RX2, "bitOf", "(I)I"⟩
abbrev cX2_choose : ByteArray := prog_4_method_7_code
def yX2_choose : MethodName := ⟨RX2, "choose", "(I)V"⟩
def RX3 : String := "TwoBooks$Group"
def TX3 : u_T := fun k => match k with
  | 0 => ("TwoBooks$Group", "lines", "[LTwoBooks$Line;", true)
  | 1 => ("TwoBooks$Group", "used", "I", false)
  | 2 => ("TwoBooks$Group", "sort", "I", false)
  | 3 => ("TwoBooks$Group", "made", "I", false)
  | 4 => ("TwoBooks$Group", "parted", "I", false)
  | _ => ("TwoBooks$Group", "locked", "I", false)
def tyX3 : Nat → FieldType := fun k => match k with
  | 0 => .array (.object "TwoBooks$Line")
  | 1 => .int
  | 2 => .int
  | 3 => .int
  | 4 => .int
  | _ => .int
abbrev wsX30 : List Cond := u_ws RX3 TX3 6
theorem nmX3 : ∀ a, a < 6 → ∀ b, b < 6 → a ≠ b → (TX3 a).2.1 ≠ (TX3 b).2.1 := by decide +kernel
theorem tyX3_ok : ∀ k, k < 6 → parseFieldDescriptor (TX3 k).2.2.1 = some (tyX3 k) := by decide +kernel
abbrev cX3_init : ByteArray := prog_5_method_1_code
def yX3_init : MethodName := ⟨RX3, "<init>", "()V"⟩
abbrev cX3_open : ByteArray := prog_5_method_2_code
def yX3_open : MethodName := ⟨RX3, "open", "(II)V"⟩
abbrev cX3_add : ByteArray := prog_5_method_3_code
def yX3_add : MethodName := ⟨RX3, "add", "(LTwoBooks$Line;)V"⟩
abbrev cX3_dropLatest : ByteArray := prog_5_method_4_code
def yX3_dropLatest : MethodName := ⟨RX3, "dropLatest", "()V"⟩
abbrev cX3_claimLines : ByteArray := prog_5_method_5_code
def yX3_claimLines : MethodName := ⟨RX3, "claimLines", "(I)V"⟩
abbrev cX3_holdLines : ByteArray := prog_5_method_6_code
def yX3_holdLines : MethodName := ⟨RX3, "holdLines", "()V"⟩
abbrev cX3_isThere : ByteArray := prog_5_method_7_code
def yX3_isThere : MethodName := ⟨RX3, "isThere", "()Z"⟩
abbrev cX3_isStandingOn : ByteArray := prog_5_method_8_code
def yX3_isStandingOn : MethodName := ⟨RX3, "isStandingOn", "(I)Z"⟩
abbrev cX3_isUneven : ByteArray := prog_5_method_9_code
def yX3_isUneven : MethodName := ⟨RX3, "isUneven", "()Z"⟩
abbrev cX3_difference : ByteArray := prog_5_method_10_code
def yX3_difference : MethodName := ⟨RX3, "difference", "()I"⟩
abbrev cX3_hasWord : ByteArray := prog_5_method_11_code
def yX3_hasWord : MethodName := ⟨RX3, "hasWord", "(II)Z"⟩
abbrev cX3_hasBothBooks : ByteArray := prog_5_method_12_code
def yX3_hasBothBooks : MethodName := ⟨RX3, "hasBothBooks", "()Z"⟩
def RX4 : String := "TwoBooks$Line"
def TX4 : u_T := fun k => match k with
  | 0 => ("TwoBooks$Line", "book", "I", true)
  | 1 => ("TwoBooks$Line", "number", "I", true)
  | 2 => ("TwoBooks$Line", "amount", "I", false)
  | 3 => ("TwoBooks$Line", "day", "I", false)
  | 4 => ("TwoBooks$Line", "mark", "I", false)
  | 5 => ("TwoBooks$Line", "word", "I", false)
  | 6 => ("TwoBooks$Line", "known", "I", false)
  | 7 => ("TwoBooks$Line", "group", "I", false)
  | _ => ("TwoBooks$Line", "holders", "I", false)
def tyX4 : Nat → FieldType := fun k => match k with
  | 0 => .int
  | 1 => .int
  | 2 => .int
  | 3 => .int
  | 4 => .int
  | 5 => .int
  | 6 => .int
  | 7 => .int
  | _ => .int
abbrev wsX40 : List Cond := u_ws RX4 TX4 9
theorem nmX4 : ∀ a, a < 9 → ∀ b, b < 9 → a ≠ b → (TX4 a).2.1 ≠ (TX4 b).2.1 := by decide +kernel
theorem tyX4_ok : ∀ k, k < 9 → parseFieldDescriptor (TX4 k).2.2.1 = some (tyX4 k) := by decide +kernel
abbrev cX4_init : ByteArray := prog_6_method_1_code
def yX4_init : MethodName := ⟨RX4, "<init>", "(II)V"⟩
abbrev cX4_write : ByteArray := prog_6_method_2_code
def yX4_write : MethodName := ⟨RX4, "write", "(IIIII)V"⟩
abbrev cX4_isBreak : ByteArray := prog_6_method_3_code
def yX4_isBreak : MethodName := ⟨RX4, "isBreak", "()Z"⟩
abbrev cX4_isUnheld : ByteArray := prog_6_method_4_code
def yX4_isUnheld : MethodName := ⟨RX4, "isUnheld", "(I)Z"⟩
def RX5 : String := "TwoBooks$Pairing"
def TX5 : u_T := fun k => match k with
  | 0 => ("TwoBooks$Pairing", "seats", "LTwoBooks$Seats;", true)
  | 1 => ("TwoBooks$Pairing", "rowLine", "[I", true)
  | 2 => ("TwoBooks$Pairing", "columnLine", "[I", true)
  | 3 => ("TwoBooks$Pairing", "partner", "[I", true)
  | 4 => ("TwoBooks$Pairing", "rivals", "[I", true)
  | 5 => ("TwoBooks$Pairing", "rows", "I", false)
  | 6 => ("TwoBooks$Pairing", "columns", "I", false)
  | 7 => ("TwoBooks$Pairing", "total", "I", false)
  | _ => ("TwoBooks$Pairing", "asOf", "I", false)
def tyX5 : Nat → FieldType := fun k => match k with
  | 0 => .object "TwoBooks$Seats"
  | 1 => .array .int
  | 2 => .array .int
  | 3 => .array .int
  | 4 => .array .int
  | 5 => .int
  | 6 => .int
  | 7 => .int
  | _ => .int
abbrev wsX50 : List Cond := u_ws RX5 TX5 9
theorem nmX5 : ∀ a, a < 9 → ∀ b, b < 9 → a ≠ b → (TX5 a).2.1 ≠ (TX5 b).2.1 := by decide +kernel
theorem tyX5_ok : ∀ k, k < 9 → parseFieldDescriptor (TX5 k).2.2.1 = some (tyX5 k) := by decide +kernel
abbrev cX5_init : ByteArray := prog_7_method_1_code
def yX5_init : MethodName := ⟨RX5, "<init>", "()V"⟩
abbrev cX5_gather : ByteArray := prog_7_method_2_code
def yX5_gather : MethodName := ⟨RX5, "gather", "(LTwoBooks$Book;LTwoBooks$Book;)V"⟩
abbrev cX5_gatherBreaks : ByteArray := prog_7_method_3_code
def yX5_gatherBreaks : MethodName := ⟨RX5, "gatherBreaks", "(LTwoBooks$Book;[I)I"⟩
abbrev cX5_find : ByteArray := prog_7_method_4_code
def yX5_find : MethodName := ⟨RX5, "find", "()V"⟩
abbrev cX5_rowOf : ByteArray := prog_7_method_5_code
def yX5_rowOf : MethodName := ⟨RX5, "rowOf", "(I)I"⟩
abbrev cX5_isSure : ByteArray := prog_7_method_6_code
def yX5_isSure : MethodName := ⟨RX5, "isSure", "(II)Z"⟩
abbrev cX5_countSure : ByteArray := prog_7_method_7_code
def yX5_countSure : MethodName := ⟨RX5, "countSure", "(I)I"⟩
def RX6 : String := "TwoBooks$Seats"
def TX6 : u_T := fun k => match k with
  | 0 => ("TwoBooks$Seats", "worth", "[[I", true)
  | 1 => ("TwoBooks$Seats", "side", "I", false)
  | 2 => ("TwoBooks$Seats", "rowPrice", "[I", true)
  | 3 => ("TwoBooks$Seats", "columnPrice", "[I", true)
  | 4 => ("TwoBooks$Seats", "rowAt", "[I", true)
  | 5 => ("TwoBooks$Seats", "keptRowPrice", "[I", true)
  | 6 => ("TwoBooks$Seats", "keptColumnPrice", "[I", true)
  | 7 => ("TwoBooks$Seats", "keptRowAt", "[I", true)
  | 8 => ("TwoBooks$Seats", "gap", "[I", true)
  | 9 => ("TwoBooks$Seats", "cameFrom", "[I", true)
  | 10 => ("TwoBooks$Seats", "reached", "[Z", true)
  | _ => ("TwoBooks$Seats", "settled", "[Z", true)
def tyX6 : Nat → FieldType := fun k => match k with
  | 0 => .array (.array .int)
  | 1 => .int
  | 2 => .array .int
  | 3 => .array .int
  | 4 => .array .int
  | 5 => .array .int
  | 6 => .array .int
  | 7 => .array .int
  | 8 => .array .int
  | 9 => .array .int
  | 10 => .array .boolean
  | _ => .array .boolean
abbrev wsX60 : List Cond := u_ws RX6 TX6 12
theorem nmX6 : ∀ a, a < 12 → ∀ b, b < 12 → a ≠ b → (TX6 a).2.1 ≠ (TX6 b).2.1 := by decide +kernel
theorem tyX6_ok : ∀ k, k < 12 → parseFieldDescriptor (TX6 k).2.2.1 = some (tyX6 k) := by decide +kernel
abbrev cX6_init : ByteArray := prog_8_method_1_code
def yX6_init : MethodName := ⟨RX6, "<init>", "()V"⟩
abbrev cX6_clear : ByteArray := prog_8_method_2_code
def yX6_clear : MethodName := ⟨RX6, "clear", "(I)V"⟩
abbrev cX6_seatAll : ByteArray := prog_8_method_3_code
def yX6_seatAll : MethodName := ⟨RX6, "seatAll", "()V"⟩
abbrev cX6_total : ByteArray := prog_8_method_4_code
def yX6_total : MethodName := ⟨RX6, "total", "()I"⟩
abbrev cX6_columnOf : ByteArray := prog_8_method_5_code
def yX6_columnOf : MethodName := ⟨RX6, "columnOf", "(I)I"⟩
abbrev cX6_seat : ByteArray := prog_8_method_6_code
def yX6_seat : MethodName := ⟨RX6, "seat", "(I)V"⟩
abbrev cX6_clearSearch : ByteArray := prog_8_method_7_code
def yX6_clearSearch : MethodName := ⟨RX6, "clearSearch", "()V"⟩
abbrev cX6_nextColumn : ByteArray := prog_8_method_8_code
def yX6_nextColumn : MethodName := ⟨RX6, "nextColumn", "(I)I"⟩
abbrev cX6_favourFirst : ByteArray := prog_8_method_9_code
def yX6_favourFirst : MethodName := ⟨RX6, "favourFirst", "()V"⟩
abbrev cX6_settle : ByteArray := prog_8_method_10_code
def yX6_settle : MethodName := ⟨RX6, "settle", "(I)V"⟩
abbrev cX6_isTight : ByteArray := prog_8_method_11_code
def yX6_isTight : MethodName := ⟨RX6, "isTight", "(II)Z"⟩
abbrev cX6_canSit : ByteArray := prog_8_method_12_code
def yX6_canSit : MethodName := ⟨RX6, "canSit", "(II)Z"⟩
abbrev cX6_moves : ByteArray := prog_8_method_13_code
def yX6_moves : MethodName := ⟨RX6, "moves", "(II)Z"⟩
abbrev cX6_keep : ByteArray := prog_8_method_14_code
def yX6_keep : MethodName := ⟨RX6, "keep", "()V"⟩
abbrev cX6_restore : ByteArray := prog_8_method_15_code
def yX6_restore : MethodName := ⟨RX6, "restore", "()V"⟩
abbrev cX6_totalWithout : ByteArray := prog_8_method_16_code
def yX6_totalWithout : MethodName := ⟨RX6, "totalWithout", "(II)I"⟩
def RX7 : String := "TwoBooks$Sets"
def TX7 : u_T := fun k => match k with
  | 0 => ("TwoBooks$Sets", "packed", "[I", true)
  | 1 => ("TwoBooks$Sets", "number", "[I", true)
  | 2 => ("TwoBooks$Sets", "amount", "[I", true)
  | 3 => ("TwoBooks$Sets", "leastFrom", "[I", true)
  | 4 => ("TwoBooks$Sets", "mostFrom", "[I", true)
  | 5 => ("TwoBooks$Sets", "candidates", "I", false)
  | 6 => ("TwoBooks$Sets", "target", "I", false)
  | 7 => ("TwoBooks$Sets", "slack", "I", false)
  | 8 => ("TwoBooks$Sets", "wanted", "I", false)
  | 9 => ("TwoBooks$Sets", "many", "I", false)
  | 10 => ("TwoBooks$Sets", "book", "I", false)
  | 11 => ("TwoBooks$Sets", "line", "I", false)
  | _ => ("TwoBooks$Sets", "asOf", "I", false)
def tyX7 : Nat → FieldType := fun k => match k with
  | 0 => .array .int
  | 1 => .array .int
  | 2 => .array .int
  | 3 => .array .int
  | 4 => .array .int
  | 5 => .int
  | 6 => .int
  | 7 => .int
  | 8 => .int
  | 9 => .int
  | 10 => .int
  | 11 => .int
  | _ => .int
abbrev wsX70 : List Cond := u_ws RX7 TX7 13
theorem nmX7 : ∀ a, a < 13 → ∀ b, b < 13 → a ≠ b → (TX7 a).2.1 ≠ (TX7 b).2.1 := by decide +kernel
theorem tyX7_ok : ∀ k, k < 13 → parseFieldDescriptor (TX7 k).2.2.1 = some (tyX7 k) := by decide +kernel
abbrev cX7_init : ByteArray := prog_9_method_1_code
def yX7_init : MethodName := ⟨RX7, "<init>", "()V"⟩
abbrev cX7_gather : ByteArray := prog_9_method_2_code
def yX7_gather : MethodName := ⟨RX7, "gather", "(LTwoBooks$Line;LTwoBooks$Book;I)V"⟩
abbrev cX7_boundAmounts : ByteArray := prog_9_method_3_code
def yX7_boundAmounts : MethodName := ⟨RX7, "boundAmounts", "()V"⟩
abbrev cX7_find : ByteArray := prog_9_method_4_code
def yX7_find : MethodName := ⟨RX7, "find", "(II)V"⟩
abbrev cX7_extend : ByteArray := prog_9_method_5_code
def yX7_extend : MethodName := ⟨RX7, "extend", "(IIII)V"⟩
abbrev cX7_canReach : ByteArray := prog_9_method_6_code
def yX7_canReach : MethodName := ⟨RX7, "canReach", "(III)Z"⟩
abbrev cX7_finish : ByteArray := prog_9_method_7_code
def yX7_finish : MethodName := ⟨RX7, "finish", "(III)V"⟩
abbrev cX7_isThere : ByteArray := prog_9_method_8_code
def yX7_isThere : MethodName := ⟨RX7, "isThere", "(I)Z"⟩
abbrev cX7_sizeOf : ByteArray := prog_9_method_9_code
def yX7_sizeOf : MethodName := ⟨RX7, "sizeOf", "(I)I"⟩
abbrev cX7_lineIn : ByteArray := prog_9_method_10_code
def yX7_lineIn : MethodName := ⟨RX7, "lineIn", "(II)I"⟩
def RX8 : String := "TwoBooks$Sums"
def TX8 : u_T := fun k => match k with
  | 0 => ("TwoBooks$Sums", "sums", "[I", true)
  | 1 => ("TwoBooks$Sums", "prices", "[I", true)
  | _ => ("TwoBooks$Sums", "used", "I", false)
def tyX8 : Nat → FieldType := fun k => match k with
  | 0 => .array .int
  | 1 => .array .int
  | _ => .int
abbrev wsX80 : List Cond := u_ws RX8 TX8 3
theorem nmX8 : ∀ a, a < 3 → ∀ b, b < 3 → a ≠ b → (TX8 a).2.1 ≠ (TX8 b).2.1 := by decide +kernel
theorem tyX8_ok : ∀ k, k < 3 → parseFieldDescriptor (TX8 k).2.2.1 = some (tyX8 k) := by decide +kernel
abbrev cX8_init : ByteArray := prog_10_method_1_code
def yX8_init : MethodName := ⟨RX8, "<init>", "()V"⟩
abbrev cX8_start : ByteArray := prog_10_method_2_code
def yX8_start : MethodName := ⟨RX8, "start", "()V"⟩
abbrev cX8_copy : ByteArray := prog_10_method_3_code
def yX8_copy : MethodName := ⟨RX8, "copy", "(LTwoBooks$Sums;)V"⟩
abbrev cX8_merge : ByteArray := prog_10_method_4_code
def yX8_merge : MethodName := ⟨RX8, "merge", "(LTwoBooks$Sums;II)V"⟩
abbrev cX8_cheapestWith : ByteArray := prog_10_method_5_code
def yX8_cheapestWith : MethodName := ⟨RX8, "cheapestWith", "(LTwoBooks$Sums;I)I"⟩
def RX9 : String := "TwoBooks"
def TX9 : u_T := fun k => match k with
  | 0 => ("TwoBooks", "books", "[LTwoBooks$Book;", true)
  | 1 => ("TwoBooks", "groups", "[LTwoBooks$Group;", true)
  | 2 => ("TwoBooks", "acts", "LTwoBooks$Acts;", true)
  | 3 => ("TwoBooks", "pairing", "LTwoBooks$Pairing;", true)
  | 4 => ("TwoBooks", "found", "LTwoBooks$Sets;", true)
  | 5 => ("TwoBooks", "explanation", "LTwoBooks$Explanation;", true)
  | 6 => ("TwoBooks", "groupsMade", "I", false)
  | 7 => ("TwoBooks", "now", "I", false)
  | 8 => ("TwoBooks", "span", "I", false)
  | 9 => ("TwoBooks", "coins", "I", false)
  | _ => ("TwoBooks", "changes", "I", false)
def tyX9 : Nat → FieldType := fun k => match k with
  | 0 => .array (.object "TwoBooks$Book")
  | 1 => .array (.object "TwoBooks$Group")
  | 2 => .object "TwoBooks$Acts"
  | 3 => .object "TwoBooks$Pairing"
  | 4 => .object "TwoBooks$Sets"
  | 5 => .object "TwoBooks$Explanation"
  | 6 => .int
  | 7 => .int
  | 8 => .int
  | 9 => .int
  | _ => .int
abbrev wsX90 : List Cond := u_ws RX9 TX9 11
theorem nmX9 : ∀ a, a < 11 → ∀ b, b < 11 → a ≠ b → (TX9 a).2.1 ≠ (TX9 b).2.1 := by decide +kernel
theorem tyX9_ok : ∀ k, k < 11 → parseFieldDescriptor (TX9 k).2.2.1 = some (tyX9 k) := by decide +kernel
abbrev cX9_init : ByteArray := prog_1_method_1_code
def yX9_init : MethodName := ⟨RX9, "<init>", "()V"⟩
abbrev cX9_line : ByteArray := prog_1_method_2_code
def yX9_line : MethodName := ⟨RX9, "line", "(IIII)I"⟩
abbrev cX9_today : ByteArray := prog_1_method_3_code
def yX9_today : MethodName := ⟨RX9, "today", "(I)I"⟩
abbrev cX9_terms : ByteArray := prog_1_method_4_code
def yX9_terms : MethodName := ⟨RX9, "terms", "(II)I"⟩
abbrev cX9_told : ByteArray := prog_1_method_5_code
def yX9_told : MethodName := ⟨RX9, "told", "(III)I"⟩
abbrev cX9_fit : ByteArray := prog_1_method_6_code
def yX9_fit : MethodName := ⟨RX9, "fit", "(II)I"⟩
abbrev cX9_best : ByteArray := prog_1_method_7_code
def yX9_best : MethodName := ⟨RX9, "best", "()I"⟩
abbrev cX9_with : ByteArray := prog_1_method_8_code
def yX9_with : MethodName := ⟨RX9, "with", "(I)I"⟩
abbrev cX9_rival : ByteArray := prog_1_method_9_code
def yX9_rival : MethodName := ⟨RX9, "rival", "(I)I"⟩
abbrev cX9_pair : ByteArray := prog_1_method_10_code
def yX9_pair : MethodName := ⟨RX9, "pair", "(I)I"⟩
abbrev cX9_sets : ByteArray := prog_1_method_11_code
def yX9_sets : MethodName := ⟨RX9, "sets", "(IIII)I"⟩
abbrev cX9_size : ByteArray := prog_1_method_12_code
def yX9_size : MethodName := ⟨RX9, "size", "(I)I"⟩
abbrev cX9_in : ByteArray := prog_1_method_13_code
def yX9_in : MethodName := ⟨RX9, "in", "(II)I"⟩
abbrev cX9_set : ByteArray := prog_1_method_14_code
def yX9_set : MethodName := ⟨RX9, "set", "(I)I"⟩
abbrev cX9_hand : ByteArray := prog_1_method_15_code
def yX9_hand : MethodName := ⟨RX9, "hand", "(II)I"⟩
abbrev cX9_join : ByteArray := prog_1_method_16_code
def yX9_join : MethodName := ⟨RX9, "join", "(III)I"⟩
abbrev cX9_part : ByteArray := prog_1_method_17_code
def yX9_part : MethodName := ⟨RX9, "part", "(I)I"⟩
abbrev cX9_lock : ByteArray := prog_1_method_18_code
def yX9_lock : MethodName := ⟨RX9, "lock", "(II)I"⟩
abbrev cX9_group : ByteArray := prog_1_method_19_code
def yX9_group : MethodName := ⟨RX9, "group", "(II)I"⟩
abbrev cX9_breaks : ByteArray := prog_1_method_20_code
def yX9_breaks : MethodName := ⟨RX9, "breaks", "(II)I"⟩
abbrev cX9_broken : ByteArray := prog_1_method_21_code
def yX9_broken : MethodName := ⟨RX9, "broken", "(II)I"⟩
abbrev cX9_sum : ByteArray := prog_1_method_22_code
def yX9_sum : MethodName := ⟨RX9, "sum", "(I)J"⟩
abbrev cX9_as : ByteArray := prog_1_method_23_code
def yX9_as : MethodName := ⟨RX9, "as", "(II)J"⟩
abbrev cX9_explain : ByteArray := prog_1_method_24_code
def yX9_explain : MethodName := ⟨RX9, "explain", "()I"⟩
abbrev cX9_explained : ByteArray := prog_1_method_25_code
def yX9_explained : MethodName := ⟨RX9, "explained", "(II)I"⟩
abbrev cX9_undo : ByteArray := prog_1_method_26_code
def yX9_undo : MethodName := ⟨RX9, "undo", "()I"⟩
abbrev cX9_count : ByteArray := prog_1_method_27_code
def yX9_count : MethodName := ⟨RX9, "count", "(I)I"⟩
abbrev cX9_check : ByteArray := prog_1_method_28_code
def yX9_check : MethodName := ⟨RX9, "check", "()I"⟩
abbrev cX9_isWithin : ByteArray := prog_1_method_29_code
def yX9_isWithin : MethodName := ⟨RX9, "isWithin", "(III)Z"⟩
abbrev cX9_isBook : ByteArray := prog_1_method_30_code
def yX9_isBook : MethodName := ⟨RX9, "isBook", "(I)Z"⟩
abbrev cX9_lineAt : ByteArray := prog_1_method_31_code
def yX9_lineAt : MethodName := ⟨RX9, "lineAt", "(II)LTwoBooks$Line;"⟩
abbrev cX9_isGroupThere : ByteArray := prog_1_method_32_code
def yX9_isGroupThere : MethodName := ⟨RX9, "isGroupThere", "(I)Z"⟩
abbrev cX9_fitOf : ByteArray := prog_1_method_33_code
def yX9_fitOf : MethodName := ⟨RX9, "fitOf", "(LTwoBooks$Line;LTwoBooks$Line;)I"⟩
abbrev cX9_learnt : ByteArray := prog_1_method_34_code
def yX9_learnt : MethodName := ⟨RX9, "learnt", "(II)I"⟩
abbrev cX9_freshRow : ByteArray := prog_1_method_35_code
def yX9_freshRow : MethodName := ⟨RX9, "freshRow", "(I)I"⟩
abbrev cX9_makeGroup : ByteArray := prog_1_method_36_code
def yX9_makeGroup : MethodName := ⟨RX9, "makeGroup", "(ILTwoBooks$Line;LTwoBooks$Line;)I"⟩
abbrev cX9_addTo : ByteArray := prog_1_method_37_code
def yX9_addTo : MethodName := ⟨RX9, "addTo", "(ILTwoBooks$Line;)V"⟩
abbrev cX9_carriedOut : ByteArray := prog_1_method_38_code
def yX9_carriedOut : MethodName := ⟨RX9, "carriedOut", "(III)V"⟩
abbrev cX9_endUndoing : ByteArray := prog_1_method_39_code
def yX9_endUndoing : MethodName := ⟨RX9, "endUndoing", "()V"⟩
abbrev cX9_takeBack : ByteArray := prog_1_method_40_code
def yX9_takeBack : MethodName := ⟨RX9, "takeBack", "(III)V"⟩
abbrev cX9_booksDifference : ByteArray := prog_1_method_41_code
def yX9_booksDifference : MethodName := ⟨RX9, "booksDifference", "()I"⟩
abbrev cX9_groupsDifference : ByteArray := prog_1_method_42_code
def yX9_groupsDifference : MethodName := ⟨RX9, "groupsDifference", "()I"⟩
abbrev cX9_countThere : ByteArray := prog_1_method_43_code
def yX9_countThere : MethodName := ⟨RX9, "countThere", "()I"⟩
abbrev cX9_countUneven : ByteArray := prog_1_method_44_code
def yX9_countUneven : MethodName := ⟨RX9, "countUneven", "()I"⟩
abbrev cX9_allHaveBothBooks : ByteArray := prog_1_method_45_code
def yX9_allHaveBothBooks : MethodName := ⟨RX9, "allHaveBothBooks", "()Z"⟩
abbrev cX9_countHolders : ByteArray := prog_1_method_46_code
def yX9_countHolders : MethodName := ⟨RX9, "countHolders", "(I)I"⟩
def RX10 : String := "TwoBooksModel"
def TX10 : u_T := fun k => match k with
  | 0 => ("TwoBooksModel", "amount", "[I", true)
  | 1 => ("TwoBooksModel", "day", "[I", true)
  | 2 => ("TwoBooksModel", "word", "[I", true)
  | 3 => ("TwoBooksModel", "mark", "[I", true)
  | 4 => ("TwoBooksModel", "known", "[I", true)
  | 5 => ("TwoBooksModel", "group", "[I", true)
  | 6 => ("TwoBooksModel", "lines", "[I", true)
  | 7 => ("TwoBooksModel", "today", "I", false)
  | 8 => ("TwoBooksModel", "span", "I", false)
  | 9 => ("TwoBooksModel", "coins", "I", false)
  | 10 => ("TwoBooksModel", "sort", "[I", true)
  | 11 => ("TwoBooksModel", "line", "[I", true)
  | 12 => ("TwoBooksModel", "many", "[I", true)
  | 13 => ("TwoBooksModel", "made", "[I", true)
  | 14 => ("TwoBooksModel", "parted", "[I", true)
  | 15 => ("TwoBooksModel", "locked", "[Z", true)
  | 16 => ("TwoBooksModel", "groups", "I", false)
  | 17 => ("TwoBooksModel", "hasPairing", "Z", false)
  | 18 => ("TwoBooksModel", "ours", "[I", true)
  | 19 => ("TwoBooksModel", "theirs", "[I", true)
  | 20 => ("TwoBooksModel", "ourMany", "I", false)
  | 21 => ("TwoBooksModel", "theirMany", "I", false)
  | 22 => ("TwoBooksModel", "fits", "[I", true)
  | 23 => ("TwoBooksModel", "table", "[I", true)
  | 24 => ("TwoBooksModel", "with", "[I", true)
  | 25 => ("TwoBooksModel", "worth", "I", false)
  | 26 => ("TwoBooksModel", "hasWithout", "[Z", true)
  | 27 => ("TwoBooksModel", "fitsOur", "I", false)
  | 28 => ("TwoBooksModel", "fitsTheir", "I", false)
  | 29 => ("TwoBooksModel", "without", "[I", true)
  | 30 => ("TwoBooksModel", "hasSets", "Z", false)
  | 31 => ("TwoBooksModel", "setBook", "I", false)
  | 32 => ("TwoBooksModel", "setLine", "I", false)
  | 33 => ("TwoBooksModel", "setSize", "[I", true)
  | 34 => ("TwoBooksModel", "setIn", "[I", true)
  | 35 => ("TwoBooksModel", "sets", "I", false)
  | 36 => ("TwoBooksModel", "picked", "[I", true)
  | 37 => ("TwoBooksModel", "itemSort", "[I", true)
  | 38 => ("TwoBooksModel", "itemNumber", "[I", true)
  | 39 => ("TwoBooksModel", "itemSum", "[J", true)
  | 40 => ("TwoBooksModel", "toldSort", "[I", true)
  | 41 => ("TwoBooksModel", "toldNumber", "[I", true)
  | 42 => ("TwoBooksModel", "explained", "I", false)
  | 43 => ("TwoBooksModel", "act", "[I", true)
  | 44 => ("TwoBooksModel", "actOf", "[I", true)
  | 45 => ("TwoBooksModel", "actWas", "[I", true)
  | _ => ("TwoBooksModel", "acts", "I", false)
def tyX10 : Nat → FieldType := fun k => match k with
  | 0 => .array .int
  | 1 => .array .int
  | 2 => .array .int
  | 3 => .array .int
  | 4 => .array .int
  | 5 => .array .int
  | 6 => .array .int
  | 7 => .int
  | 8 => .int
  | 9 => .int
  | 10 => .array .int
  | 11 => .array .int
  | 12 => .array .int
  | 13 => .array .int
  | 14 => .array .int
  | 15 => .array .boolean
  | 16 => .int
  | 17 => .boolean
  | 18 => .array .int
  | 19 => .array .int
  | 20 => .int
  | 21 => .int
  | 22 => .array .int
  | 23 => .array .int
  | 24 => .array .int
  | 25 => .int
  | 26 => .array .boolean
  | 27 => .int
  | 28 => .int
  | 29 => .array .int
  | 30 => .boolean
  | 31 => .int
  | 32 => .int
  | 33 => .array .int
  | 34 => .array .int
  | 35 => .int
  | 36 => .array .int
  | 37 => .array .int
  | 38 => .array .int
  | 39 => .array .long
  | 40 => .array .int
  | 41 => .array .int
  | 42 => .int
  | 43 => .array .int
  | 44 => .array .int
  | 45 => .array .int
  | _ => .int
abbrev wsX100 : List Cond := u_ws RX10 TX10 47
theorem nmX10 : ∀ a, a < 47 → ∀ b, b < 47 → a ≠ b → (TX10 a).2.1 ≠ (TX10 b).2.1 := by decide +kernel
theorem tyX10_ok : ∀ k, k < 47 → parseFieldDescriptor (TX10 k).2.2.1 = some (tyX10 k) := by decide +kernel
abbrev cX10_init : ByteArray := prog_12_method_1_code
def yX10_init : MethodName := ⟨RX10, "<init>", "()V"⟩
abbrev cX10_within : ByteArray := prog_12_method_2_code
def yX10_within : MethodName := ⟨RX10, "within", "(III)Z"⟩
abbrev cX10_isLine : ByteArray := prog_12_method_3_code
def yX10_isLine : MethodName := ⟨RX10, "isLine", "(II)Z"⟩
abbrev cX10_isThere : ByteArray := prog_12_method_4_code
def yX10_isThere : MethodName := ⟨RX10, "isThere", "(I)Z"⟩
abbrev cX10_did : ByteArray := prog_12_method_5_code
def yX10_did : MethodName := ⟨RX10, "did", "(III)V"⟩
abbrev cX10_line : ByteArray := prog_12_method_6_code
def yX10_line : MethodName := ⟨RX10, "line", "(IIII)I"⟩
abbrev cX10_changed : ByteArray := prog_12_method_7_code
def yX10_changed : MethodName := ⟨RX10, "changed", "()V"⟩
abbrev cX10_today : ByteArray := prog_12_method_8_code
def yX10_today : MethodName := ⟨RX10, "today", "(I)I"⟩
abbrev cX10_terms : ByteArray := prog_12_method_9_code
def yX10_terms : MethodName := ⟨RX10, "terms", "(II)I"⟩
abbrev cX10_told : ByteArray := prog_12_method_10_code
def yX10_told : MethodName := ⟨RX10, "told", "(III)I"⟩
abbrev cX10_apart : ByteArray := prog_12_method_11_code
def yX10_apart : MethodName := ⟨RX10, "apart", "(II)I"⟩
abbrev cX10_hasWord : ByteArray := prog_12_method_12_code
def yX10_hasWord : MethodName := ⟨RX10, "hasWord", "(III)Z"⟩
abbrev cX10_fitOf : ByteArray := prog_12_method_13_code
def yX10_fitOf : MethodName := ⟨RX10, "fitOf", "(II)I"⟩
abbrev cX10_fit : ByteArray := prog_12_method_14_code
def yX10_fit : MethodName := ⟨RX10, "fit", "(II)I"⟩
abbrev cX10_reckon : ByteArray := prog_12_method_15_code
def yX10_reckon : MethodName := ⟨RX10, "reckon", "(II)I"⟩
abbrev cX10_breaksOf : ByteArray := prog_12_method_16_code
def yX10_breaksOf : MethodName := ⟨RX10, "breaksOf", "([III[I)I"⟩
abbrev cX10_best : ByteArray := prog_12_method_17_code
def yX10_best : MethodName := ⟨RX10, "best", "()I"⟩
abbrev cX10_paired : ByteArray := prog_12_method_18_code
def yX10_paired : MethodName := ⟨RX10, "paired", "(I)I"⟩
abbrev cX10_with : ByteArray := prog_12_method_19_code
def yX10_with : MethodName := ⟨RX10, "with", "(I)I"⟩
abbrev cX10_rival : ByteArray := prog_12_method_20_code
def yX10_rival : MethodName := ⟨RX10, "rival", "(I)I"⟩
abbrev cX10_withoutPair : ByteArray := prog_12_method_21_code
def yX10_withoutPair : MethodName := ⟨RX10, "withoutPair", "(I)I"⟩
abbrev cX10_newGroup : ByteArray := prog_12_method_22_code
def yX10_newGroup : MethodName := ⟨RX10, "newGroup", "(I)I"⟩
abbrev cX10_add : ByteArray := prog_12_method_23_code
def yX10_add : MethodName := ⟨RX10, "add", "(II)V"⟩
abbrev cX10_pair : ByteArray := prog_12_method_24_code
def yX10_pair : MethodName := ⟨RX10, "pair", "(I)I"⟩
abbrev cX10_choose : ByteArray := prog_12_method_25_code
def yX10_choose : MethodName := ⟨RX10, "choose", "(IIIIJI)V"⟩
abbrev cX10_sets : ByteArray := prog_12_method_26_code
def yX10_sets : MethodName := ⟨RX10, "sets", "(IIII)I"⟩
abbrev cX10_size : ByteArray := prog_12_method_27_code
def yX10_size : MethodName := ⟨RX10, "size", "(I)I"⟩
abbrev cX10_in : ByteArray := prog_12_method_28_code
def yX10_in : MethodName := ⟨RX10, "in", "(II)I"⟩
abbrev cX10_set : ByteArray := prog_12_method_29_code
def yX10_set : MethodName := ⟨RX10, "set", "(I)I"⟩
abbrev cX10_hand : ByteArray := prog_12_method_30_code
def yX10_hand : MethodName := ⟨RX10, "hand", "(II)I"⟩
abbrev cX10_join : ByteArray := prog_12_method_31_code
def yX10_join : MethodName := ⟨RX10, "join", "(III)I"⟩
abbrev cX10_part : ByteArray := prog_12_method_32_code
def yX10_part : MethodName := ⟨RX10, "part", "(I)I"⟩
abbrev cX10_lock : ByteArray := prog_12_method_33_code
def yX10_lock : MethodName := ⟨RX10, "lock", "(II)I"⟩
abbrev cX10_differenceOf : ByteArray := prog_12_method_34_code
def yX10_differenceOf : MethodName := ⟨RX10, "differenceOf", "(I)J"⟩
abbrev cX10_group : ByteArray := prog_12_method_35_code
def yX10_group : MethodName := ⟨RX10, "group", "(II)I"⟩
abbrev cX10_breaks : ByteArray := prog_12_method_36_code
def yX10_breaks : MethodName := ⟨RX10, "breaks", "(II)I"⟩
abbrev cX10_broken : ByteArray := prog_12_method_37_code
def yX10_broken : MethodName := ⟨RX10, "broken", "(II)I"⟩
abbrev cX10_sum : ByteArray := prog_12_method_38_code
def yX10_sum : MethodName := ⟨RX10, "sum", "(I)J"⟩
abbrev cX10_wasThere : ByteArray := prog_12_method_39_code
def yX10_wasThere : MethodName := ⟨RX10, "wasThere", "(II)Z"⟩
abbrev cX10_as : ByteArray := prog_12_method_40_code
def yX10_as : MethodName := ⟨RX10, "as", "(II)J"⟩
abbrev cX10_addItem : ByteArray := prog_12_method_41_code
def yX10_addItem : MethodName := ⟨RX10, "addItem", "(IIIJ)I"⟩
abbrev cX10_find : ByteArray := prog_12_method_42_code
def yX10_find : MethodName := ⟨RX10, "find", "(IIIJ)I"⟩
abbrev cX10_explain : ByteArray := prog_12_method_43_code
def yX10_explain : MethodName := ⟨RX10, "explain", "()I"⟩
abbrev cX10_explained : ByteArray := prog_12_method_44_code
def yX10_explained : MethodName := ⟨RX10, "explained", "(II)I"⟩
abbrev cX10_undo : ByteArray := prog_12_method_45_code
def yX10_undo : MethodName := ⟨RX10, "undo", "()I"⟩
abbrev cX10_count : ByteArray := prog_12_method_46_code
def yX10_count : MethodName := ⟨RX10, "count", "(I)I"⟩
abbrev cX10_check : ByteArray := prog_12_method_47_code
def yX10_check : MethodName := ⟨RX10, "check", "()I"⟩
def RJ9 : String := "java/lang/Math"
def TJ9 : u_T := fun k => match k with
  | _ => ("", "", "", false)
def tyJ9 : Nat → FieldType := fun k => match k with
  | _ => .int
abbrev wsJ90 : List Cond := u_ws RJ9 TJ9 0
theorem nmJ9 : ∀ a, a < 0 → ∀ b, b < 0 → a ≠ b → (TJ9 a).2.1 ≠ (TJ9 b).2.1 := by decide +kernel
theorem tyJ9_ok : ∀ k, k < 0 → parseFieldDescriptor (TJ9 k).2.2.1 = some (tyJ9 k) := by decide +kernel
abbrev cJ9_abs_0f7a4 : ByteArray := prog_13_method_59_code
def yJ9_abs_0f7a4 : MethodName := ⟨RJ9, "abs", "(I)I"⟩
abbrev cJ9_max_7cf53 : ByteArray := prog_13_method_65_code
def yJ9_max_7cf53 : MethodName := ⟨RJ9, "max", "(II)I"⟩
abbrev cJ9_min_7cf53 : ByteArray := prog_13_method_69_code
def yJ9_min_7cf53 : MethodName := ⟨RJ9, "min", "(II)I"⟩
def RJ10 : String := "java/lang/System"
def TJ10 : u_T := fun k => match k with
  | _ => ("", "", "", false)
def tyJ10 : Nat → FieldType := fun k => match k with
  | _ => .int
abbrev wsJ100 : List Cond := u_ws RJ10 TJ10 0
theorem nmJ10 : ∀ a, a < 0 → ∀ b, b < 0 → a ≠ b → (TJ10 a).2.1 ≠ (TJ10 b).2.1 := by decide +kernel
theorem tyJ10_ok : ∀ k, k < 0 → parseFieldDescriptor (TJ10 k).2.2.1 = some (tyJ10 k) := by decide +kernel
def RJ7 : String := "java/util/Arrays"
def TJ7 : u_T := fun k => match k with
  | _ => ("", "", "", false)
def tyJ7 : Nat → FieldType := fun k => match k with
  | _ => .int
abbrev wsJ70 : List Cond := u_ws RJ7 TJ7 0
theorem nmJ7 : ∀ a, a < 0 → ∀ b, b < 0 → a ≠ b → (TJ7 a).2.1 ≠ (TJ7 b).2.1 := by decide +kernel
theorem tyJ7_ok : ∀ k, k < 0 → parseFieldDescriptor (TJ7 k).2.2.1 = some (tyJ7 k) := by decide +kernel
abbrev cJ7_fill_53178 : ByteArray := prog_15_method_103_code
def yJ7_fill_53178 : MethodName := ⟨RJ7, "fill", "([II)V"⟩
def RL : String := "TwoBooksLaw"
abbrev cL_law : ByteArray := code
def yL_law : MethodName := ⟨RL, "law", "([I)Z"⟩
abbrev vwCl : List vw_C := [(RX0, TX0, 5), (RX1, TX1, 2), (RX2, TX2, 10), (RX3, TX3, 6), (RX4, TX4, 9), (RX5, TX5, 9), (RX6, TX6, 12), (RX7, TX7, 13), (RX8, TX8, 3), (RX9, TX9, 11), (RX10, TX10, 47)]
end
section
/-! ===== xV: W with the machine's context, the heap and the locals in an abstract form: a cell's name is a plain number (its place behind the base), the heap a function of it ===== -/
abbrev vx_G : Type := Launch × va_G × (Nat → ClassId) × Nat
abbrev vx_M : Type := MethodName × ByteArray × Nat × Option FieldType
abbrev vx_H : Type := Nat → va_E
abbrev vx_F : Type := vx_G × vx_M × Room × (List Frame → Array Value → State → State → Prop) × (State → Prop) × List (Nat × Value)
def rv (b : Nat) (v : Value) : Value := match v with
  | .ref a => .ref (b + a)
  | v => v
theorem rv_cat (b : Nat) (v : Value) : (rv b v).category = v.category := by cases v <;> rfl
def cvA (b : Nat) (a : vp_A) : vp_A := match a with
  | (n, .inl f) => (n, .inl f)
  | (n, .inr (.inl f)) => (n, .inr (.inl f))
  | (n, .inr (.inr (.inl f))) => (n, .inr (.inr (.inl f)))
  | (n, .inr (.inr (.inr (.inl f)))) => (n, .inr (.inr (.inr (.inl f))))
  | (n, .inr (.inr (.inr (.inr f)))) => (n, .inr (.inr (.inr (.inr (fun i => (f i).map (fun a => b + a))))))
def cvE (G : vx_G) (e : va_E) : va_E := match e with
  | .inl (k, a) => .inl (G.2.2.1 k, cvA G.2.2.2 a)
  | .inr (ci, fs) => .inr (ci, fs.map (rv G.2.2.2))
def wl (G : vx_G) (n : Nat) (h : vx_H) : va_W := (List.range n).map fun a => (G.2.2.2 + a, cvE G (h a))
theorem wl_get {G : vx_G} {n : Nat} {h : vx_H} {a : Nat} (ha : a < n) : (wl G n h)[a]? = some (G.2.2.2 + a, cvE G (h a)) := by
  simp [wl, ha]
theorem wl_at {G : vx_G} {n : Nat} {h : vx_H} {k : Nat} {q : Nat × va_E} (hk : (wl G n h)[k]? = some q) : k < n ∧ q = (G.2.2.2 + k, cvE G (h k)) := by
  by_cases hn : k < n
  · rw [wl_get hn] at hk
    exact ⟨hn, (Option.some.inj hk).symm⟩
  · simp [wl, hn] at hk
theorem wl_len (G : vx_G) (n : Nat) (h : vx_H) : (wl G n h).length = n := by simp [wl]
theorem wl_set {G : vx_G} {n : Nat} {h : vx_H} {a : Nat} (e : va_E) : (wl G n h).set a (G.2.2.2 + a, cvE G e) = wl G n (va_up h a e) := by
  apply List.ext_getElem?
  intro k
  by_cases hk : k < n
  · rw [wl_get hk]
    by_cases hka : k = a
    · subst hka
      rw [List.getElem?_set_self (by rw [wl_len]; exact hk)]
      simp [va_up]
    · rw [List.getElem?_set_ne (fun q => hka q.symm), wl_get hk]
      simp [va_up, hka]
  · rw [List.getElem?_eq_none (by rw [List.length_set, wl_len]; omega), List.getElem?_eq_none (by rw [wl_len]; omega)]
theorem wl_push {G : vx_G} {n : Nat} {h : vx_H} (e : va_E) : wl G n h ++ [(G.2.2.2 + n, cvE G e)] = wl G (n + 1) (va_up h n e) := by
  unfold wl
  rw [List.range_succ, List.map_append]
  congr 1
  · apply List.map_congr_left
    intro a ha
    have := List.mem_range.mp ha
    simp [va_up, show ¬ a = n by omega]
  · simp [va_up]
theorem wl_D (G : vx_G) (n : Nat) (h : vx_H) : va_D (fun q => G.2.2.2 ≤ q) (wl G n h) := by
  refine ⟨fun i j p q hi hj e => ?_, fun k q hk => ?_⟩
  · obtain ⟨-, rfl⟩ := wl_at hi
    obtain ⟨-, rfl⟩ := wl_at hj
    simp at e
    exact e
  · obtain ⟨-, rfl⟩ := wl_at hk
    exact Nat.le_add_right _ _
theorem wl_ext {G : vx_G} {n : Nat} {h h' : vx_H} (e : ∀ a, a < n → h a = h' a) : wl G n h = wl G n h' := by
  unfold wl
  apply List.map_congr_left
  intro a ha
  rw [e a (List.mem_range.mp ha)]
def HR (G : vx_G) (n : Nat) (h : vx_H) (H : Heap) : Prop := va_P G.2.1 vwCl (wl G n h) H ∧ H.size = G.2.2.2 + n
abbrev vx_ty (G : vx_G) : List (ClassId × FieldType) := [(G.2.2.1 0, .int), (G.2.2.1 1, .boolean), (G.2.2.1 2, .long), (G.2.2.1 3, .object RX4), (G.2.2.1 4, .object RX3), (G.2.2.1 5, .object RX1), (G.2.2.1 6, .array .int)]
def lw_ok : List Cond := lw_tbl.filter goodWord
theorem lw_ok_in {w : Cond} (i : Nat) (h : lw_tbl[i]? = some w) (hg : goodWord w = true) : w ∈ lw_ok := List.mem_filter.mpr ⟨List.mem_of_getElem? h, hg⟩
theorem lw_ok_sub {w : Cond} (h : w ∈ lw_ok) : w ∈ lw_tbl := (List.mem_filter.mp h).1
theorem lw_ok_good {ws : List Cond} (h : ∀ w ∈ ws, w ∈ lw_ok) : GoodIn lw_ok ws := fun w hw => ⟨h w hw, good_of_word (List.mem_filter.mp (h w hw)).2⟩
def isNest : Cond → Bool
  | .methodLinkNest .. => true
  | .arrayOver (.object _) => true
  | _ => false
def xN (U : State) : Prop := ∀ w ∈ lw_tbl, isNest w = true → w.before #[] U = true
theorem xN.warm {s U : State} (hW : s.WarmedH U.vm) (h : xN s) : xN U := by
  intro w hw hn
  have hs := h w hw hn
  cases w with
  | methodLinkNest a i x b => exact va_Nw.warmM hW hs
  | arrayOver t =>
    cases t with
    | object C => exact va_AO.moved hW.alike hs
    | _ => simp [isNest] at hn
  | _ => simp [isNest] at hn
theorem xN.blind {U : State} {g : JFrame} {mk : MethodId} {a : Array Value} (h : xN U) : xN (U.calling g mk a) := by
  intro w hw hn
  have hs := h w hw hn
  cases w with
  | methodLinkNest a i x b => exact va_Nw.same (u := U) rfl rfl hs
  | arrayOver t =>
    cases t with
    | object C => exact va_AO.moved (u := U) (Vm.Alike.refl U.vm) hs
    | _ => simp [isNest] at hn
  | _ => simp [isNest] at hn
/-- what a method's walk may use -/
def xC (F : vx_F) (p : Program) (s : State) (m : MethodId) (args : Array Value) (meth : Method) (c : Code) : Prop :=
  p.tables.exec = Jvm.exec ∧ c.code = F.2.1.2.1 ∧ meth.sig.returnType = F.2.1.2.2.2 ∧ c.maxLocals = F.2.1.2.2.1 ∧ s.vm.findClass F.2.1.1.cls = some m.cls ∧ (∀ w ∈ lw_ok, w.before args s = true) ∧ meth.locks = false ∧ va_K F.1.2.1 vwCl (vx_ty F.1) s ∧ F.1.2.2.2 ≤ s.heap.size ∧ meth.name = F.2.1.1.name ∧ xN s ∧ F.2.2.2.2.1 s
/-- the locals, by their places; none: nothing is said -/
def lvE (b : Nat) : Nat → List (Option Value) → List (Nat × Value)
  | _, [] => []
  | i, none :: t => lvE b (i + 1) t
  | i, some v :: t => (i, rv b v) :: lvE b (i + 1) t
theorem lvE_in (b : Nat) : ∀ (i : Nat) (L : List (Option Value)) (j : Nat) (v : Value), L[j]? = some (some v) → (i + j, rv b v) ∈ lvE b i L
  | i, [], j, v, h => by simp at h
  | i, none :: t, 0, v, h => by simp at h
  | i, none :: t, j + 1, v, h => by
    have := lvE_in b (i + 1) t j v (by simpa using h)
    rw [show i + (j + 1) = i + 1 + j by omega]
    exact this
  | i, some w :: t, 0, v, h => by
    simp at h
    subst h
    exact List.mem_cons_self
  | i, some w :: t, j + 1, v, h => by
    have := lvE_in b (i + 1) t j v (by simpa using h)
    rw [show i + (j + 1) = i + 1 + j by omega]
    exact List.mem_cons_of_mem _ this
theorem lvE_of (b : Nat) : ∀ (i : Nat) (L : List (Option Value)) (q : Nat × Value), q ∈ lvE b i L → ∃ (j : Nat) (v : Value), L[j]? = some (some v) ∧ q = (i + j, rv b v)
  | i, [], q, h => by cases h
  | i, none :: t, q, h => by
    obtain ⟨j, v, h1, h2⟩ := lvE_of b (i + 1) t q h
    exact ⟨j + 1, v, by simpa using h1, by rw [h2, show i + (j + 1) = i + 1 + j by omega]⟩
  | i, some w :: t, q, h => by
    rcases List.mem_cons.mp h with rfl | h
    · exact ⟨0, w, rfl, rfl⟩
    · obtain ⟨j, v, h1, h2⟩ := lvE_of b (i + 1) t q h
      exact ⟨j + 1, v, by simpa using h1, by rw [h2, show i + (j + 1) = i + 1 + j by omega]⟩
def xL (F : vx_F) (ls : Array Slot) (L : List (Option Value)) : Prop := lv_has ls F.2.1.2.2.1 (F.2.2.2.2.2 ++ lvE F.1.2.2.2 0 L)
theorem xL.at {F : vx_F} {ls : Array Slot} {L : List (Option Value)} (h : xL F ls L) {i : Nat} {v : Value} (hi : L[i]? = some (some v)) : ls[i]? = some (.val (rv F.1.2.2.2 v)) := by
  have := lvE_in F.1.2.2.2 0 L i v hi
  rw [Nat.zero_add] at this
  exact h.2.2 _ (List.mem_append_right _ this)
/-- the judgement -/
def xV (F : vx_F) (pc : Nat) (L : List (Option Value)) (st : List Value) (n : Nat) (h : vx_H) (ce sl : Nat) : Prop :=
  ∀ (p : Program) (e : Env) (s : State) (m : MethodId) (args : Array Value) (below : List Frame) (meth : Method) (c : Code), xC F p s m args meth c → ∀ (H : Heap) (locs : List Loc) (ls : Array Slot), HR F.1 n h H → va_S (fun q => F.1.2.2.2 ≤ q) s.heap H locs → xL F ls L →
    W p F.1.1 e F.2.2.1 s m args below meth c H locs ce sl (F.2.2.2.1 below args s) (F0 m pc ls (st.map (rv F.1.2.2.2)))
section XV
variable {F : vx_F} {pc : Nat} {L : List (Option Value)} {st : List Value} {n : Nat} {h : vx_H} {ce sl : Nat}
/-- the heap may be told otherwise -/
theorem xV.heap {h' : vx_H} (e : ∀ a, a < n → h a = h' a) (k : xV F pc L st n h' ce sl) : xV F pc L st n h ce sl := by
  intro p e' s m args below meth c C H locs ls hH hS hl
  refine k p e' s m args below meth c C H locs ls ?_ hS hl
  unfold HR at hH ⊢
  rw [← wl_ext e]
  exact hH
theorem xV.heq {h' : vx_H} (e : h = h') (k : xV F pc L st n h' ce sl) : xV F pc L st n h ce sl := e ▸ k
theorem xV.steq {st' : List Value} (e : st = st') (k : xV F pc L st' n h ce sl) : xV F pc L st n h ce sl := e ▸ k
theorem xV.lveq {L' : List (Option Value)} (e : L = L') (k : xV F pc L' st n h ce sl) : xV F pc L st n h ce sl := e ▸ k
/-- fewer locals are told -/
theorem xV.lvsub {L' : List (Option Value)} (e : ∀ (i : Nat) (v : Value), L'[i]? = some (some v) → L[i]? = some (some v)) (k : xV F pc L' st n h ce sl) : xV F pc L st n h ce sl := by
  intro p e' s m args below meth c C H locs ls hH hS hl
  refine k p e' s m args below meth c C H locs ls hH hS ⟨hl.1, hl.2.1, fun q hq => ?_⟩
  rcases List.mem_append.mp hq with h1 | h1
  · exact hl.2.2 q (List.mem_append_left _ h1)
  · obtain ⟨j, v, h2, h3⟩ := lvE_of _ _ _ _ h1
    rw [h3, Nat.zero_add]
    exact xL.at hl (e j v h2)
/-- of a list of locals another, place by place: a 'some' that stays or falls away -/
def lvle : List (Option Value) → List (Option Value) → Prop
  | _, [] => True
  | [], none :: t => lvle [] t
  | [], some _ :: _ => False
  | _ :: s, none :: t => lvle s t
  | a :: s, some v :: t => a = some v ∧ lvle s t
theorem lvle_at : ∀ (L L' : List (Option Value)), lvle L L' → ∀ (i : Nat) (v : Value), L'[i]? = some (some v) → L[i]? = some (some v)
  | _, [], _, i, v, h => by simp at h
  | [], none :: t, hl, 0, v, h => by simp at h
  | [], none :: t, hl, i + 1, v, h => by
    have := lvle_at [] t hl i v (by simpa using h)
    simp at this
  | a :: s, none :: t, hl, 0, v, h => by simp at h
  | a :: s, none :: t, hl, i + 1, v, h => by
    have := lvle_at s t hl i v (by simpa using h)
    simpa using this
  | a :: s, some w :: t, hl, 0, v, h => by
    simp at h
    subst h
    simp [hl.1]
  | a :: s, some w :: t, hl, i + 1, v, h => by
    have := lvle_at s t hl.2 i v (by simpa using h)
    simpa using this
theorem xV.lvle {L' : List (Option Value)} (e : lvle L L') (k : xV F pc L' st n h ce sl) : xV F pc L st n h ce sl := xV.lvsub (lvle_at L L' e) k
theorem xV.wide {ce' sl' : Nat} (h1 : ce ≤ ce') (h2 : sl ≤ sl') (k : xV F pc L st n h ce' sl') : xV F pc L st n h ce sl := by
  intro p e s m args below meth c C H locs ls hH hS hl
  exact W.widen h1 h2 (k p e s m args below meth c C H locs ls hH hS hl)
/-- a computed number gets a name -/
theorem xV.topi {x : Int32} (k : ∀ y : Int32, y = x → xV F pc L (.int y :: st) n h ce sl) : xV F pc L (.int x :: st) n h ce sl := k x rfl
theorem xV.topl {x : Int64} (k : ∀ y : Int64, y = x → xV F pc L (.long y :: st) n h ce sl) : xV F pc L (.long x :: st) n h ce sl := k x rfl
theorem xV.toi {x : Int32} (y : Int32) (e : x = y) (k : xV F pc L (.int y :: st) n h ce sl) : xV F pc L (.int x :: st) n h ce sl := e ▸ k
theorem xV.tol {x : Int64} (y : Int64) (e : x = y) (k : xV F pc L (.long y :: st) n h ce sl) : xV F pc L (.long x :: st) n h ce sl := e ▸ k

theorem x_iconst {z : Int} (v : Int32) (hd : decode F.2.1.2.1 pc = .ok (.iconst z, 1)) (hv : Int32.ofInt z = v) (k : xV F (pc + 1) L (.int v :: st) n h ce sl) : xV F pc L (st) n h ce sl := by
  intro p e s m args below meth c C H locs ls hH hS hl
  exact lv_iconst C.1 C.2.1 hd hv (k p e s m args below meth c C H locs ls hH hS hl)
theorem x_bipush {z : Int} (v : Int32) (hd : decode F.2.1.2.1 pc = .ok (.bipush z, 2)) (hv : (Int8.ofInt z).toInt32 = v) (k : xV F (pc + 2) L (.int v :: st) n h ce sl) : xV F pc L (st) n h ce sl := by
  intro p e s m args below meth c C H locs ls hH hS hl
  exact lv_bipush C.1 C.2.1 hd hv (k p e s m args below meth c C H locs ls hH hS hl)
theorem x_sipush {z : Int} (v : Int32) (hd : decode F.2.1.2.1 pc = .ok (.sipush z, 3)) (hv : (Int16.ofInt z).toInt32 = v) (k : xV F (pc + 3) L (.int v :: st) n h ce sl) : xV F pc L (st) n h ce sl := by
  intro p e s m args below meth c C H locs ls hH hS hl
  exact lv_sipush C.1 C.2.1 hd hv (k p e s m args below meth c C H locs ls hH hS hl)
theorem x_lconst {z : Fin 2} (v : Int64) (hd : decode F.2.1.2.1 pc = .ok (.lconst z, 1)) (hv : Int64.ofNat (z : Nat) = v) (k : xV F (pc + 1) L (.long v :: st) n h ce sl) : xV F pc L (st) n h ce sl := by
  intro p e s m args below meth c C H locs ls hH hS hl
  exact lv_lconst C.1 C.2.1 hd hv (k p e s m args below meth c C H locs ls hH hS hl)
theorem x_ldc {i : Nat} {v : Int32} (hw : Cond.constant F.2.1.1.cls i v ∈ lw_ok) (hd : decode F.2.1.2.1 pc = .ok (.ldc i, 2)) (k : xV F (pc + 2) L (.int v :: st) n h ce sl) : xV F pc L st n h ce sl := by
  intro p e s m args below meth c C H locs ls hH hS hl
  exact lv_ldc C.1 C.2.1 C.2.2.2.2.1 (C.2.2.2.2.2.1 _ hw) hd (k p e s m args below meth c C H locs ls hH hS hl)
theorem x_ldc2 {i : Nat} {v : Int64} (hw : Cond.constantLong F.2.1.1.cls i v ∈ lw_ok) (hd : decode F.2.1.2.1 pc = .ok (.ldc2_w i, 3)) (k : xV F (pc + 3) L (.long v :: st) n h ce sl) : xV F pc L st n h ce sl := by
  intro p e s m args below meth c C H locs ls hH hS hl
  exact lv_ldc2 C.1 C.2.1 C.2.2.2.2.1 (C.2.2.2.2.2.1 _ hw) hd (k p e s m args below meth c C H locs ls hH hS hl)
theorem x_aconst_null (hd : decode F.2.1.2.1 pc = .ok (.aconst_null, 1)) (k : xV F (pc + 1) L (.null :: st) n h ce sl) : xV F pc L st n h ce sl := by
  intro p e s m args below meth c C H locs ls hH hS hl
  exact lv_null C.1 C.2.1 hd (k p e s m args below meth c C H locs ls hH hS hl)
theorem x_iadd {x y : Int32} (hd : decode F.2.1.2.1 pc = .ok (.iadd, 1)) (k : xV F (pc + 1) L (.int (x + y) :: st) n h ce sl) : xV F pc L (.int y :: .int x :: st) n h ce sl := by
  intro p e s m args below meth c C H locs ls hH hS hl
  exact lv_iadd C.1 C.2.1 hd (k p e s m args below meth c C H locs ls hH hS hl)
theorem x_isub {x y : Int32} (hd : decode F.2.1.2.1 pc = .ok (.isub, 1)) (k : xV F (pc + 1) L (.int (x - y) :: st) n h ce sl) : xV F pc L (.int y :: .int x :: st) n h ce sl := by
  intro p e s m args below meth c C H locs ls hH hS hl
  exact lv_isub C.1 C.2.1 hd (k p e s m args below meth c C H locs ls hH hS hl)
theorem x_imul {x y : Int32} (hd : decode F.2.1.2.1 pc = .ok (.imul, 1)) (k : xV F (pc + 1) L (.int (x * y) :: st) n h ce sl) : xV F pc L (.int y :: .int x :: st) n h ce sl := by
  intro p e s m args below meth c C H locs ls hH hS hl
  exact lv_imul C.1 C.2.1 hd (k p e s m args below meth c C H locs ls hH hS hl)
theorem x_iand {x y : Int32} (hd : decode F.2.1.2.1 pc = .ok (.iand, 1)) (k : xV F (pc + 1) L (.int (x &&& y) :: st) n h ce sl) : xV F pc L (.int y :: .int x :: st) n h ce sl := by
  intro p e s m args below meth c C H locs ls hH hS hl
  exact lv_iand C.1 C.2.1 hd (k p e s m args below meth c C H locs ls hH hS hl)
theorem x_ior {x y : Int32} (hd : decode F.2.1.2.1 pc = .ok (.ior, 1)) (k : xV F (pc + 1) L (.int (x ||| y) :: st) n h ce sl) : xV F pc L (.int y :: .int x :: st) n h ce sl := by
  intro p e s m args below meth c C H locs ls hH hS hl
  exact lv_ior C.1 C.2.1 hd (k p e s m args below meth c C H locs ls hH hS hl)
theorem x_ixor {x y : Int32} (hd : decode F.2.1.2.1 pc = .ok (.ixor, 1)) (k : xV F (pc + 1) L (.int (x ^^^ y) :: st) n h ce sl) : xV F pc L (.int y :: .int x :: st) n h ce sl := by
  intro p e s m args below meth c C H locs ls hH hS hl
  exact lv_ixor C.1 C.2.1 hd (k p e s m args below meth c C H locs ls hH hS hl)
theorem x_idiv {x y : Int32} (hd : decode F.2.1.2.1 pc = .ok (.idiv, 1)) (hne : ¬ y = 0) (k : xV F (pc + 1) L (.int (x / y) :: st) n h ce sl) : xV F pc L (.int y :: .int x :: st) n h ce sl := by
  intro p e s m args below meth c C H locs ls hH hS hl
  exact lv_idiv C.1 C.2.1 hd hne (k p e s m args below meth c C H locs ls hH hS hl)
theorem x_irem {x y : Int32} (hd : decode F.2.1.2.1 pc = .ok (.irem, 1)) (hne : ¬ y = 0) (k : xV F (pc + 1) L (.int (x - x / y * y) :: st) n h ce sl) : xV F pc L (.int y :: .int x :: st) n h ce sl := by
  intro p e s m args below meth c C H locs ls hH hS hl
  exact lv_irem C.1 C.2.1 hd hne (k p e s m args below meth c C H locs ls hH hS hl)
theorem x_ineg {x : Int32} (hd : decode F.2.1.2.1 pc = .ok (.ineg, 1)) (k : xV F (pc + 1) L (.int (-x) :: st) n h ce sl) : xV F pc L (.int x :: st) n h ce sl := by
  intro p e s m args below meth c C H locs ls hH hS hl
  exact lv_ineg C.1 C.2.1 hd (k p e s m args below meth c C H locs ls hH hS hl)
theorem x_ishl {x y : Int32} (hd : decode F.2.1.2.1 pc = .ok (.ishl, 1)) (k : xV F (pc + 1) L (.int (x <<< (y &&& 31)) :: st) n h ce sl) : xV F pc L (.int y :: .int x :: st) n h ce sl := by
  intro p e s m args below meth c C H locs ls hH hS hl
  exact lv_ishl C.1 C.2.1 hd (k p e s m args below meth c C H locs ls hH hS hl)
theorem x_ishr {x y : Int32} (hd : decode F.2.1.2.1 pc = .ok (.ishr, 1)) (k : xV F (pc + 1) L (.int (x >>> (y &&& 31)) :: st) n h ce sl) : xV F pc L (.int y :: .int x :: st) n h ce sl := by
  intro p e s m args below meth c C H locs ls hH hS hl
  exact lv_ishr C.1 C.2.1 hd (k p e s m args below meth c C H locs ls hH hS hl)
theorem x_ladd {x y : Int64} (hd : decode F.2.1.2.1 pc = .ok (.ladd, 1)) (k : xV F (pc + 1) L (.long (x + y) :: st) n h ce sl) : xV F pc L (.long y :: .long x :: st) n h ce sl := by
  intro p e s m args below meth c C H locs ls hH hS hl
  exact lv_ladd C.1 C.2.1 hd (k p e s m args below meth c C H locs ls hH hS hl)
theorem x_lsub {x y : Int64} (hd : decode F.2.1.2.1 pc = .ok (.lsub, 1)) (k : xV F (pc + 1) L (.long (x - y) :: st) n h ce sl) : xV F pc L (.long y :: .long x :: st) n h ce sl := by
  intro p e s m args below meth c C H locs ls hH hS hl
  exact lv_lsub C.1 C.2.1 hd (k p e s m args below meth c C H locs ls hH hS hl)
theorem x_lneg {x : Int64} (hd : decode F.2.1.2.1 pc = .ok (.lneg, 1)) (k : xV F (pc + 1) L (.long (-x) :: st) n h ce sl) : xV F pc L (.long x :: st) n h ce sl := by
  intro p e s m args below meth c C H locs ls hH hS hl
  exact lv_lneg C.1 C.2.1 hd (k p e s m args below meth c C H locs ls hH hS hl)
theorem x_i2l {x : Int32} (hd : decode F.2.1.2.1 pc = .ok (.i2l, 1)) (k : xV F (pc + 1) L (.long x.toInt64 :: st) n h ce sl) : xV F pc L (.int x :: st) n h ce sl := by
  intro p e s m args below meth c C H locs ls hH hS hl
  exact lv_i2l C.1 C.2.1 hd rfl (k p e s m args below meth c C H locs ls hH hS hl)
theorem x_l2i {x : Int64} (hd : decode F.2.1.2.1 pc = .ok (.l2i, 1)) (k : xV F (pc + 1) L (.int x.toInt32 :: st) n h ce sl) : xV F pc L (.long x :: st) n h ce sl := by
  intro p e s m args below meth c C H locs ls hH hS hl
  exact lv_l2i C.1 C.2.1 hd rfl (k p e s m args below meth c C H locs ls hH hS hl)
theorem x_lcmp {x y : Int64} (hd : decode F.2.1.2.1 pc = .ok (.lcmp, 1)) (k : xV F (pc + 1) L (.int (lg_cmp x y) :: st) n h ce sl) : xV F pc L (.long y :: .long x :: st) n h ce sl := by
  intro p e s m args below meth c C H locs ls hH hS hl
  exact W.lcmp C.1 C.2.1 hd (k p e s m args below meth c C H locs ls hH hS hl)
theorem x_dup {v : Value} (hd : decode F.2.1.2.1 pc = .ok (.dup, 1)) (hc : v.category = 1) (k : xV F (pc + 1) L (v :: v :: st) n h ce sl) : xV F pc L (v :: st) n h ce sl := by
  intro p e s m args below meth c C H locs ls hH hS hl
  exact lv_dup C.1 C.2.1 hd ((rv_cat _ v).trans hc) (k p e s m args below meth c C H locs ls hH hS hl)
theorem x_pop {v : Value} (hd : decode F.2.1.2.1 pc = .ok (.pop, 1)) (hc : v.category = 1) (k : xV F (pc + 1) L st n h ce sl) : xV F pc L (v :: st) n h ce sl := by
  intro p e s m args below meth c C H locs ls hH hS hl
  exact lv_pop C.1 C.2.1 hd ((rv_cat _ v).trans hc) (k p e s m args below meth c C H locs ls hH hS hl)
theorem x_dup2 {v u : Value} (hd : decode F.2.1.2.1 pc = .ok (.dup2, 1)) (hc : v.category = 1) (hc2 : u.category = 1) (k : xV F (pc + 1) L (v :: u :: v :: u :: st) n h ce sl) : xV F pc L (v :: u :: st) n h ce sl := by
  intro p e s m args below meth c C H locs ls hH hS hl
  exact lv_dup2_11 C.1 C.2.1 hd ((rv_cat _ v).trans hc) ((rv_cat _ u).trans hc2) (k p e s m args below meth c C H locs ls hH hS hl)
theorem x_if_eq {x : Int32} {off : Int} (tgt : Nat) (hd : decode F.2.1.2.1 pc = .ok (.ifCond .eq off, 3)) (ht : (pc : Int) + off = (tgt : Int)) (kt : x = 0 → xV F tgt L st n h ce sl) (kf : ¬ (x = 0) → xV F (pc + 3) L st n h ce sl) : xV F pc L (.int x :: st) n h ce sl := by
  intro p e s m args below meth c C H locs ls hH hS hl
  exact lv_if_eq C.1 C.2.1 hd ht (fun q => kt q p e s m args below meth c C H locs ls hH hS hl) (fun q => kf q p e s m args below meth c C H locs ls hH hS hl)
theorem x_icmp_eq {x y : Int32} {off : Int} (tgt : Nat) (hd : decode F.2.1.2.1 pc = .ok (.if_icmp .eq off, 3)) (ht : (pc : Int) + off = (tgt : Int)) (kt : x = y → xV F tgt L st n h ce sl) (kf : ¬ (x = y) → xV F (pc + 3) L st n h ce sl) : xV F pc L (.int y :: .int x :: st) n h ce sl := by
  intro p e s m args below meth c C H locs ls hH hS hl
  exact lv_icmp_eq C.1 C.2.1 hd ht (fun q => kt q p e s m args below meth c C H locs ls hH hS hl) (fun q => kf q p e s m args below meth c C H locs ls hH hS hl)
theorem x_if_ne {x : Int32} {off : Int} (tgt : Nat) (hd : decode F.2.1.2.1 pc = .ok (.ifCond .ne off, 3)) (ht : (pc : Int) + off = (tgt : Int)) (kt : ¬ x = 0 → xV F tgt L st n h ce sl) (kf : x = 0 → xV F (pc + 3) L st n h ce sl) : xV F pc L (.int x :: st) n h ce sl := by
  intro p e s m args below meth c C H locs ls hH hS hl
  exact lv_if_ne C.1 C.2.1 hd ht (fun q => kt q p e s m args below meth c C H locs ls hH hS hl) (fun q => kf q p e s m args below meth c C H locs ls hH hS hl)
theorem x_icmp_ne {x y : Int32} {off : Int} (tgt : Nat) (hd : decode F.2.1.2.1 pc = .ok (.if_icmp .ne off, 3)) (ht : (pc : Int) + off = (tgt : Int)) (kt : ¬ x = y → xV F tgt L st n h ce sl) (kf : x = y → xV F (pc + 3) L st n h ce sl) : xV F pc L (.int y :: .int x :: st) n h ce sl := by
  intro p e s m args below meth c C H locs ls hH hS hl
  exact lv_icmp_ne C.1 C.2.1 hd ht (fun q => kt q p e s m args below meth c C H locs ls hH hS hl) (fun q => kf q p e s m args below meth c C H locs ls hH hS hl)
theorem x_if_lt {x : Int32} {off : Int} (tgt : Nat) (hd : decode F.2.1.2.1 pc = .ok (.ifCond .lt off, 3)) (ht : (pc : Int) + off = (tgt : Int)) (kt : x < 0 → xV F tgt L st n h ce sl) (kf : ¬ (x < 0) → xV F (pc + 3) L st n h ce sl) : xV F pc L (.int x :: st) n h ce sl := by
  intro p e s m args below meth c C H locs ls hH hS hl
  exact lv_if_lt C.1 C.2.1 hd ht (fun q => kt q p e s m args below meth c C H locs ls hH hS hl) (fun q => kf q p e s m args below meth c C H locs ls hH hS hl)
theorem x_icmp_lt {x y : Int32} {off : Int} (tgt : Nat) (hd : decode F.2.1.2.1 pc = .ok (.if_icmp .lt off, 3)) (ht : (pc : Int) + off = (tgt : Int)) (kt : x < y → xV F tgt L st n h ce sl) (kf : ¬ (x < y) → xV F (pc + 3) L st n h ce sl) : xV F pc L (.int y :: .int x :: st) n h ce sl := by
  intro p e s m args below meth c C H locs ls hH hS hl
  exact lv_icmp_lt C.1 C.2.1 hd ht (fun q => kt q p e s m args below meth c C H locs ls hH hS hl) (fun q => kf q p e s m args below meth c C H locs ls hH hS hl)
theorem x_if_ge {x : Int32} {off : Int} (tgt : Nat) (hd : decode F.2.1.2.1 pc = .ok (.ifCond .ge off, 3)) (ht : (pc : Int) + off = (tgt : Int)) (kt : 0 ≤ x → xV F tgt L st n h ce sl) (kf : ¬ (0 ≤ x) → xV F (pc + 3) L st n h ce sl) : xV F pc L (.int x :: st) n h ce sl := by
  intro p e s m args below meth c C H locs ls hH hS hl
  exact lv_if_ge C.1 C.2.1 hd ht (fun q => kt q p e s m args below meth c C H locs ls hH hS hl) (fun q => kf q p e s m args below meth c C H locs ls hH hS hl)
theorem x_icmp_ge {x y : Int32} {off : Int} (tgt : Nat) (hd : decode F.2.1.2.1 pc = .ok (.if_icmp .ge off, 3)) (ht : (pc : Int) + off = (tgt : Int)) (kt : y ≤ x → xV F tgt L st n h ce sl) (kf : ¬ (y ≤ x) → xV F (pc + 3) L st n h ce sl) : xV F pc L (.int y :: .int x :: st) n h ce sl := by
  intro p e s m args below meth c C H locs ls hH hS hl
  exact lv_icmp_ge C.1 C.2.1 hd ht (fun q => kt q p e s m args below meth c C H locs ls hH hS hl) (fun q => kf q p e s m args below meth c C H locs ls hH hS hl)
theorem x_if_gt {x : Int32} {off : Int} (tgt : Nat) (hd : decode F.2.1.2.1 pc = .ok (.ifCond .gt off, 3)) (ht : (pc : Int) + off = (tgt : Int)) (kt : 0 < x → xV F tgt L st n h ce sl) (kf : ¬ (0 < x) → xV F (pc + 3) L st n h ce sl) : xV F pc L (.int x :: st) n h ce sl := by
  intro p e s m args below meth c C H locs ls hH hS hl
  exact lv_if_gt C.1 C.2.1 hd ht (fun q => kt q p e s m args below meth c C H locs ls hH hS hl) (fun q => kf q p e s m args below meth c C H locs ls hH hS hl)
theorem x_icmp_gt {x y : Int32} {off : Int} (tgt : Nat) (hd : decode F.2.1.2.1 pc = .ok (.if_icmp .gt off, 3)) (ht : (pc : Int) + off = (tgt : Int)) (kt : y < x → xV F tgt L st n h ce sl) (kf : ¬ (y < x) → xV F (pc + 3) L st n h ce sl) : xV F pc L (.int y :: .int x :: st) n h ce sl := by
  intro p e s m args below meth c C H locs ls hH hS hl
  exact lv_icmp_gt C.1 C.2.1 hd ht (fun q => kt q p e s m args below meth c C H locs ls hH hS hl) (fun q => kf q p e s m args below meth c C H locs ls hH hS hl)
theorem x_if_le {x : Int32} {off : Int} (tgt : Nat) (hd : decode F.2.1.2.1 pc = .ok (.ifCond .le off, 3)) (ht : (pc : Int) + off = (tgt : Int)) (kt : x ≤ 0 → xV F tgt L st n h ce sl) (kf : ¬ (x ≤ 0) → xV F (pc + 3) L st n h ce sl) : xV F pc L (.int x :: st) n h ce sl := by
  intro p e s m args below meth c C H locs ls hH hS hl
  exact lv_if_le C.1 C.2.1 hd ht (fun q => kt q p e s m args below meth c C H locs ls hH hS hl) (fun q => kf q p e s m args below meth c C H locs ls hH hS hl)
theorem x_icmp_le {x y : Int32} {off : Int} (tgt : Nat) (hd : decode F.2.1.2.1 pc = .ok (.if_icmp .le off, 3)) (ht : (pc : Int) + off = (tgt : Int)) (kt : x ≤ y → xV F tgt L st n h ce sl) (kf : ¬ (x ≤ y) → xV F (pc + 3) L st n h ce sl) : xV F pc L (.int y :: .int x :: st) n h ce sl := by
  intro p e s m args below meth c C H locs ls hH hS hl
  exact lv_icmp_le C.1 C.2.1 hd ht (fun q => kt q p e s m args below meth c C H locs ls hH hS hl) (fun q => kf q p e s m args below meth c C H locs ls hH hS hl)
theorem x_goto {off : Int} (tgt : Nat) (hd : decode F.2.1.2.1 pc = .ok (.goto off, 3)) (ht : (pc : Int) + off = (tgt : Int)) (k : xV F tgt L st n h ce sl) : xV F pc L st n h ce sl := by
  intro p e s m args below meth c C H locs ls hH hS hl
  exact lv_goto C.1 C.2.1 hd ht (k p e s m args below meth c C H locs ls hH hS hl)
theorem x_ifnull_r {a : Nat} {off : Int} (hd : decode F.2.1.2.1 pc = .ok (.ifnull off, 3)) (k : xV F (pc + 3) L st n h ce sl) : xV F pc L (.ref a :: st) n h ce sl := by
  intro p e s m args below meth c C H locs ls hH hS hl
  exact lv_ifnull C.1 C.2.1 hd (k p e s m args below meth c C H locs ls hH hS hl)
theorem x_ifnull_n {off : Int} (tgt : Nat) (hd : decode F.2.1.2.1 pc = .ok (.ifnull off, 3)) (ht : (pc : Int) + off = (tgt : Int)) (k : xV F tgt L st n h ce sl) : xV F pc L (.null :: st) n h ce sl := by
  intro p e s m args below meth c C H locs ls hH hS hl
  exact lv_ifnullN C.1 C.2.1 hd ht (k p e s m args below meth c C H locs ls hH hS hl)
theorem x_ifnonnull_r {a : Nat} {off : Int} (tgt : Nat) (hd : decode F.2.1.2.1 pc = .ok (.ifnonnull off, 3)) (ht : (pc : Int) + off = (tgt : Int)) (k : xV F tgt L st n h ce sl) : xV F pc L (.ref a :: st) n h ce sl := by
  intro p e s m args below meth c C H locs ls hH hS hl
  exact lv_ifnonnull C.1 C.2.1 hd ht (k p e s m args below meth c C H locs ls hH hS hl)
theorem x_ifnonnull_n {off : Int} (hd : decode F.2.1.2.1 pc = .ok (.ifnonnull off, 3)) (k : xV F (pc + 3) L st n h ce sl) : xV F pc L (.null :: st) n h ce sl := by
  intro p e s m args below meth c C H locs ls hH hS hl
  exact lv_ifnonnullN C.1 C.2.1 hd (k p e s m args below meth c C H locs ls hH hS hl)
theorem x_tableIn {dflt lo hi : Int} {offs : Array Int} {len : Nat} {x : Int32} {off : Int} (tgt : Nat) (hd : decode F.2.1.2.1 pc = .ok (.tableswitch dflt lo hi offs, len)) (h1 : ¬ x.toInt < lo) (h2 : ¬ hi < x.toInt) (ho : offs[(x.toInt - lo).toNat]? = some off) (ht : (pc : Int) + off = (tgt : Int)) (k : xV F tgt L st n h ce sl) : xV F pc L (.int x :: st) n h ce sl := by
  intro p e s m args below meth c C H locs ls hH hS hl
  exact lv_tableIn C.1 C.2.1 hd h1 h2 ho ht (k p e s m args below meth c C H locs ls hH hS hl)
theorem x_tableOut {dflt lo hi : Int} {offs : Array Int} {len : Nat} {x : Int32} (tgt : Nat) (hd : decode F.2.1.2.1 pc = .ok (.tableswitch dflt lo hi offs, len)) (hx : x.toInt < lo ∨ hi < x.toInt) (ht : (pc : Int) + dflt = (tgt : Int)) (k : xV F tgt L st n h ce sl) : xV F pc L (.int x :: st) n h ce sl := by
  intro p e s m args below meth c C H locs ls hH hS hl
  exact lv_tableOut C.1 C.2.1 hd hx ht (k p e s m args below meth c C H locs ls hH hS hl)
theorem x_lookup {dflt : Int} {ps : Array (Int × Int)} {len : Nat} {x : Int32} {off : Int} (tgt : Nat) (hd : decode F.2.1.2.1 pc = .ok (.lookupswitch dflt ps, len)) (hp : (ps.toList.zip (ps.toList.drop 1)).all (fun (a, next) => a.1 < next.1) = true) (ho : Op.lookupswitch.offset ps.toList dflt x.toInt = off) (ht : (pc : Int) + off = (tgt : Int)) (k : xV F tgt L st n h ce sl) : xV F pc L (.int x :: st) n h ce sl := by
  intro p e s m args below meth c C H locs ls hH hS hl
  exact lv_lookup C.1 C.2.1 hd hp ho ht (k p e s m args below meth c C H locs ls hH hS hl)

theorem xL.put1 {ls ls' : Array Slot} {i : Nat} {v : Value} (hl : xL F ls L) (hi : i < L.length) (hp : ∀ w : Value, 0 < i → L[i - 1]? = some (some w) → w.category = 1) (hr : F.2.2.2.2.2.all (fun q => !(q.1 == i) && !(q.1 + 1 == i)) = true)
    (h' : lv_has ls' F.2.1.2.2.1 ((i, rv F.1.2.2.2 v) :: (F.2.2.2.2.2 ++ lvE F.1.2.2.2 0 L).filter (fun q => !(q.1 == i) && !(q.1 + 1 == i && q.2.category == 2)))) : xL F ls' (L.set i (some v)) := by
  refine ⟨h'.1, h'.2.1, fun q hq => h'.2.2 q ?_⟩
  rcases List.mem_append.mp hq with h1 | h1
  · have h2 := List.all_eq_true.mp hr q h1
    refine List.mem_cons_of_mem _ (List.mem_filter.mpr ⟨List.mem_append_left _ h1, ?_⟩)
    simp only [Bool.and_eq_true] at h2
    simp only [Bool.and_eq_true]
    refine ⟨h2.1, ?_⟩
    have h3 := h2.2
    simp only [Bool.not_eq_true'] at h3 ⊢
    rw [h3]
    rfl
  · obtain ⟨j, w, h2, rfl⟩ := lvE_of _ _ _ _ h1
    rw [Nat.zero_add]
    by_cases hj : j = i
    · subst hj
      rw [List.getElem?_set_self hi] at h2
      cases h2
      exact List.mem_cons_self
    · rw [List.getElem?_set_ne (fun z => hj z.symm)] at h2
      refine List.mem_cons_of_mem _ (List.mem_filter.mpr ⟨List.mem_append_right _ (by have := lvE_in F.1.2.2.2 0 L j w h2; rwa [Nat.zero_add] at this), ?_⟩)
      simp only [Bool.and_eq_true, Bool.not_eq_true']
      refine ⟨beq_false_of_ne hj, ?_⟩
      by_cases hj1 : j + 1 = i
      · have := hp w (by omega) (by rw [← hj1]; exact h2)
        rw [rv_cat, this]
        simp
      · rw [beq_false_of_ne hj1]
        rfl
theorem xL.put2 {ls ls' : Array Slot} {i : Nat} {v : Value} (hl : xL F ls L) (hi : i + 1 < L.length) (hp : ∀ w : Value, 0 < i → L[i - 1]? = some (some w) → w.category = 1) (hr : F.2.2.2.2.2.all (fun q => !(q.1 == i) && !(q.1 + 1 == i) && !(q.1 == i + 1)) = true)
    (h' : lv_has ls' F.2.1.2.2.1 ((i, rv F.1.2.2.2 v) :: (F.2.2.2.2.2 ++ lvE F.1.2.2.2 0 L).filter (fun q => !(q.1 == i) && (!(q.1 == i + 1) && !(q.1 + 1 == i && q.2.category == 2))))) : xL F ls' ((L.set i (some v)).set (i + 1) none) := by
  refine ⟨h'.1, h'.2.1, fun q hq => h'.2.2 q ?_⟩
  rcases List.mem_append.mp hq with h1 | h1
  · have h2 := List.all_eq_true.mp hr q h1
    refine List.mem_cons_of_mem _ (List.mem_filter.mpr ⟨List.mem_append_left _ h1, ?_⟩)
    simp only [Bool.and_eq_true] at h2
    simp only [Bool.and_eq_true]
    refine ⟨h2.1.1, h2.2, ?_⟩
    have h3 := h2.1.2
    simp only [Bool.not_eq_true'] at h3 ⊢
    rw [h3]
    rfl
  · obtain ⟨j, w, h2, rfl⟩ := lvE_of _ _ _ _ h1
    rw [Nat.zero_add]
    by_cases hj2 : j = i + 1
    · subst hj2
      rw [List.getElem?_set_self (by rw [List.length_set]; exact hi)] at h2
      cases h2
    rw [List.getElem?_set_ne (fun z => hj2 z.symm)] at h2
    by_cases hj : j = i
    · subst hj
      rw [List.getElem?_set_self (by omega)] at h2
      cases h2
      exact List.mem_cons_self
    · rw [List.getElem?_set_ne (fun z => hj z.symm)] at h2
      refine List.mem_cons_of_mem _ (List.mem_filter.mpr ⟨List.mem_append_right _ (by have := lvE_in F.1.2.2.2 0 L j w h2; rwa [Nat.zero_add] at this), ?_⟩)
      simp only [Bool.and_eq_true, Bool.not_eq_true']
      refine ⟨beq_false_of_ne hj, beq_false_of_ne hj2, ?_⟩
      by_cases hj1 : j + 1 = i
      · have := hp w (by omega) (by rw [← hj1]; exact h2)
        rw [rv_cat, this]
        simp
      · rw [beq_false_of_ne hj1]
        rfl
/-- a local that is no long -/
def oc1 (a : Option Value) : Bool := match a with
  | none => true
  | some v => v.category == 1
theorem oc1_of {a : Option Value} (h : oc1 a = true) : ∀ w : Value, a = some w → w.category = 1 := by
  intro w hw
  subst hw
  simpa [oc1] using h

theorem y_iload_n {i : Nat} {j : Fin 4} {x : Int32} (hi : L[i]? = some (some (.int x))) (hd : decode F.2.1.2.1 pc = .ok (.iload_n j, 1)) (hj : (j : Nat) = i) (k : xV F (pc + 1) L (.int x :: st) n h ce sl) : xV F pc L st n h ce sl := by
  intro p e s m args below meth c C H locs ls hH hS hl
  exact lv_iload_n C.1 C.2.1 hd hj (xL.at hl hi) (k p e s m args below meth c C H locs ls hH hS hl)
theorem y_iload_w {i : Nat} {x : Int32} (hi : L[i]? = some (some (.int x))) (hd : decode F.2.1.2.1 pc = .ok (.iload i, 2)) (k : xV F (pc + 2) L (.int x :: st) n h ce sl) : xV F pc L st n h ce sl := by
  intro p e s m args below meth c C H locs ls hH hS hl
  exact lv_iload C.1 C.2.1 hd (xL.at hl hi) (k p e s m args below meth c C H locs ls hH hS hl)
theorem y_lload_n {i : Nat} {j : Fin 4} {x : Int64} (hi : L[i]? = some (some (.long x))) (hd : decode F.2.1.2.1 pc = .ok (.lload_n j, 1)) (hj : (j : Nat) = i) (k : xV F (pc + 1) L (.long x :: st) n h ce sl) : xV F pc L st n h ce sl := by
  intro p e s m args below meth c C H locs ls hH hS hl
  exact lv_lload_n C.1 C.2.1 hd hj (xL.at hl hi) (k p e s m args below meth c C H locs ls hH hS hl)
theorem y_lload_w {i : Nat} {x : Int64} (hi : L[i]? = some (some (.long x))) (hd : decode F.2.1.2.1 pc = .ok (.lload i, 2)) (k : xV F (pc + 2) L (.long x :: st) n h ce sl) : xV F pc L st n h ce sl := by
  intro p e s m args below meth c C H locs ls hH hS hl
  exact lv_lload C.1 C.2.1 hd (xL.at hl hi) (k p e s m args below meth c C H locs ls hH hS hl)
theorem y_aload_n {i : Nat} {j : Fin 4} {x : Nat} (hi : L[i]? = some (some (.ref x))) (hd : decode F.2.1.2.1 pc = .ok (.aload_n j, 1)) (hj : (j : Nat) = i) (k : xV F (pc + 1) L (.ref x :: st) n h ce sl) : xV F pc L st n h ce sl := by
  intro p e s m args below meth c C H locs ls hH hS hl
  exact lv_aload_n C.1 C.2.1 hd hj (xL.at hl hi) (k p e s m args below meth c C H locs ls hH hS hl)
theorem y_aload_w {i : Nat} {x : Nat} (hi : L[i]? = some (some (.ref x))) (hd : decode F.2.1.2.1 pc = .ok (.aload i, 2)) (k : xV F (pc + 2) L (.ref x :: st) n h ce sl) : xV F pc L st n h ce sl := by
  intro p e s m args below meth c C H locs ls hH hS hl
  exact lv_aload C.1 C.2.1 hd (xL.at hl hi) (k p e s m args below meth c C H locs ls hH hS hl)
theorem y_aloadN_n {i : Nat} {j : Fin 4} (hi : L[i]? = some (some .null)) (hd : decode F.2.1.2.1 pc = .ok (.aload_n j, 1)) (hj : (j : Nat) = i) (k : xV F (pc + 1) L (.null :: st) n h ce sl) : xV F pc L st n h ce sl := by
  intro p e s m args below meth c C H locs ls hH hS hl
  exact lv_aload_nN C.1 C.2.1 hd hj (xL.at hl hi) (k p e s m args below meth c C H locs ls hH hS hl)
theorem y_aloadN_w {i : Nat} (hi : L[i]? = some (some .null)) (hd : decode F.2.1.2.1 pc = .ok (.aload i, 2)) (k : xV F (pc + 2) L (.null :: st) n h ce sl) : xV F pc L st n h ce sl := by
  intro p e s m args below meth c C H locs ls hH hS hl
  exact lv_aloadN C.1 C.2.1 hd (xL.at hl hi) (k p e s m args below meth c C H locs ls hH hS hl)
theorem y_istore_n {i : Nat} {j : Fin 4} {x : Int32} (hd : decode F.2.1.2.1 pc = .ok (.istore_n j, 1)) (hj : (j : Nat) = i) (hn : i < F.2.1.2.2.1) (hi : i < L.length) (hp : ∀ w : Value, 0 < i → L[i - 1]? = some (some w) → w.category = 1) (hr : F.2.2.2.2.2.all (fun q => !(q.1 == i) && !(q.1 + 1 == i)) = true) (k : xV F (pc + 1) (L.set i (some (.int x))) st n h ce sl) : xV F pc L (.int x :: st) n h ce sl := by
  intro p e s m args below meth c C H locs ls hH hS hl
  exact lv_istore_n C.1 C.2.1 hd hj hl hn rfl (fun ls' hl' => (k p e s m args below meth c C H locs ls' hH hS (xL.put1 hl hi hp hr hl')))
theorem y_istore_w {i : Nat} {x : Int32} (hd : decode F.2.1.2.1 pc = .ok (.istore i, 2)) (hn : i < F.2.1.2.2.1) (hi : i < L.length) (hp : ∀ w : Value, 0 < i → L[i - 1]? = some (some w) → w.category = 1) (hr : F.2.2.2.2.2.all (fun q => !(q.1 == i) && !(q.1 + 1 == i)) = true) (k : xV F (pc + 2) (L.set i (some (.int x))) st n h ce sl) : xV F pc L (.int x :: st) n h ce sl := by
  intro p e s m args below meth c C H locs ls hH hS hl
  exact lv_istore C.1 C.2.1 hd hl hn rfl (fun ls' hl' => (k p e s m args below meth c C H locs ls' hH hS (xL.put1 hl hi hp hr hl')))
theorem y_lstore_n {i : Nat} {j : Fin 4} {x : Int64} (hd : decode F.2.1.2.1 pc = .ok (.lstore_n j, 1)) (hj : (j : Nat) = i) (hn : i + 1 < F.2.1.2.2.1) (hi : i + 1 < L.length) (hp : ∀ w : Value, 0 < i → L[i - 1]? = some (some w) → w.category = 1) (hr : F.2.2.2.2.2.all (fun q => !(q.1 == i) && !(q.1 + 1 == i) && !(q.1 == i + 1)) = true) (k : xV F (pc + 1) ((L.set i (some (.long x))).set (i + 1) none) st n h ce sl) : xV F pc L (.long x :: st) n h ce sl := by
  intro p e s m args below meth c C H locs ls hH hS hl
  exact lv_lstore_n C.1 C.2.1 hd hj hl hn rfl (fun ls' hl' => (k p e s m args below meth c C H locs ls' hH hS (xL.put2 hl hi hp hr hl')))
theorem y_lstore_w {i : Nat} {x : Int64} (hd : decode F.2.1.2.1 pc = .ok (.lstore i, 2)) (hn : i + 1 < F.2.1.2.2.1) (hi : i + 1 < L.length) (hp : ∀ w : Value, 0 < i → L[i - 1]? = some (some w) → w.category = 1) (hr : F.2.2.2.2.2.all (fun q => !(q.1 == i) && !(q.1 + 1 == i) && !(q.1 == i + 1)) = true) (k : xV F (pc + 2) ((L.set i (some (.long x))).set (i + 1) none) st n h ce sl) : xV F pc L (.long x :: st) n h ce sl := by
  intro p e s m args below meth c C H locs ls hH hS hl
  exact lv_lstore C.1 C.2.1 hd hl hn rfl (fun ls' hl' => (k p e s m args below meth c C H locs ls' hH hS (xL.put2 hl hi hp hr hl')))
theorem y_astore_n {i : Nat} {j : Fin 4} {x : Nat} (hd : decode F.2.1.2.1 pc = .ok (.astore_n j, 1)) (hj : (j : Nat) = i) (hn : i < F.2.1.2.2.1) (hi : i < L.length) (hp : ∀ w : Value, 0 < i → L[i - 1]? = some (some w) → w.category = 1) (hr : F.2.2.2.2.2.all (fun q => !(q.1 == i) && !(q.1 + 1 == i)) = true) (k : xV F (pc + 1) (L.set i (some (.ref x))) st n h ce sl) : xV F pc L (.ref x :: st) n h ce sl := by
  intro p e s m args below meth c C H locs ls hH hS hl
  exact lv_astore_n C.1 C.2.1 hd hj hl hn rfl (fun ls' hl' => (k p e s m args below meth c C H locs ls' hH hS (xL.put1 hl hi hp hr hl')))
theorem y_astore_w {i : Nat} {x : Nat} (hd : decode F.2.1.2.1 pc = .ok (.astore i, 2)) (hn : i < F.2.1.2.2.1) (hi : i < L.length) (hp : ∀ w : Value, 0 < i → L[i - 1]? = some (some w) → w.category = 1) (hr : F.2.2.2.2.2.all (fun q => !(q.1 == i) && !(q.1 + 1 == i)) = true) (k : xV F (pc + 2) (L.set i (some (.ref x))) st n h ce sl) : xV F pc L (.ref x :: st) n h ce sl := by
  intro p e s m args below meth c C H locs ls hH hS hl
  exact lv_astore C.1 C.2.1 hd hl hn rfl (fun ls' hl' => (k p e s m args below meth c C H locs ls' hH hS (xL.put1 hl hi hp hr hl')))
theorem y_astoreN_n {i : Nat} {j : Fin 4} (hd : decode F.2.1.2.1 pc = .ok (.astore_n j, 1)) (hj : (j : Nat) = i) (hn : i < F.2.1.2.2.1) (hi : i < L.length) (hp : ∀ w : Value, 0 < i → L[i - 1]? = some (some w) → w.category = 1) (hr : F.2.2.2.2.2.all (fun q => !(q.1 == i) && !(q.1 + 1 == i)) = true) (k : xV F (pc + 1) (L.set i (some (.null))) st n h ce sl) : xV F pc L (.null :: st) n h ce sl := by
  intro p e s m args below meth c C H locs ls hH hS hl
  exact lv_astore_nN C.1 C.2.1 hd hj hl hn rfl (fun ls' hl' => (k p e s m args below meth c C H locs ls' hH hS (xL.put1 hl hi hp hr hl')))
theorem y_astoreN_w {i : Nat} (hd : decode F.2.1.2.1 pc = .ok (.astore i, 2)) (hn : i < F.2.1.2.2.1) (hi : i < L.length) (hp : ∀ w : Value, 0 < i → L[i - 1]? = some (some w) → w.category = 1) (hr : F.2.2.2.2.2.all (fun q => !(q.1 == i) && !(q.1 + 1 == i)) = true) (k : xV F (pc + 2) (L.set i (some (.null))) st n h ce sl) : xV F pc L (.null :: st) n h ce sl := by
  intro p e s m args below meth c C H locs ls hH hS hl
  exact lv_astoreN C.1 C.2.1 hd hl hn rfl (fun ls' hl' => (k p e s m args below meth c C H locs ls' hH hS (xL.put1 hl hi hp hr hl')))
theorem y_iinc {i : Nat} {z : Int} {x v : Int32} (hx : L[i]? = some (some (.int x))) (hd : decode F.2.1.2.1 pc = .ok (.iinc i z, 3)) (hv : x + Int32.ofInt z = v) (hn : i < F.2.1.2.2.1) (hp : ∀ w : Value, 0 < i → L[i - 1]? = some (some w) → w.category = 1) (hr : F.2.2.2.2.2.all (fun q => !(q.1 == i) && !(q.1 + 1 == i)) = true) (k : xV F (pc + 3) (L.set i (some (.int v))) st n h ce sl) : xV F pc L st n h ce sl := by
  intro p e s m args below meth c C H locs ls hH hS hl
  have hi : i < L.length := (List.getElem?_eq_some_iff.mp hx).1
  have hm : (i, Value.int x) ∈ F.2.2.2.2.2 ++ lvE F.1.2.2.2 0 L := List.mem_append_right _ (by have := lvE_in F.1.2.2.2 0 L i _ hx; rw [Nat.zero_add] at this; exact this)
  obtain ⟨kk, hkk⟩ := List.getElem?_of_mem hm
  exact lv_iinc C.1 C.2.1 hd hl hkk hv hn rfl (fun ls' hl' => (k p e s m args below meth c C H locs ls' hH hS (xL.put1 hl hi hp hr hl')))
end XV
section XP
variable {F : vx_F} {pc : Nat} {st : List Value} {n : Nat} {h : vx_H} {ce sl : Nat}
theorem x_iload0 {tl : List (Option Value)} {x : Int32} (hd : decode F.2.1.2.1 pc = .ok (.iload_n 0, 1)) (k : xV F (pc + 1) (some (.int x) :: tl) (.int x :: st) n h ce sl) : xV F pc (some (.int x) :: tl) st n h ce sl := y_iload_n (i := 0) rfl hd rfl k
theorem x_lload0 {tl : List (Option Value)} {x : Int64} (hd : decode F.2.1.2.1 pc = .ok (.lload_n 0, 1)) (k : xV F (pc + 1) (some (.long x) :: tl) (.long x :: st) n h ce sl) : xV F pc (some (.long x) :: tl) st n h ce sl := y_lload_n (i := 0) rfl hd rfl k
theorem x_aload0 {tl : List (Option Value)} {x : Nat} (hd : decode F.2.1.2.1 pc = .ok (.aload_n 0, 1)) (k : xV F (pc + 1) (some (.ref x) :: tl) (.ref x :: st) n h ce sl) : xV F pc (some (.ref x) :: tl) st n h ce sl := y_aload_n (i := 0) rfl hd rfl k
theorem x_aloadN0 {tl : List (Option Value)} (hd : decode F.2.1.2.1 pc = .ok (.aload_n 0, 1)) (k : xV F (pc + 1) (some .null :: tl) (.null :: st) n h ce sl) : xV F pc (some .null :: tl) st n h ce sl := y_aloadN_n (i := 0) rfl hd rfl k
theorem x_istore0 {tl : List (Option Value)} {b : Option Value} {x : Int32} (hd : decode F.2.1.2.1 pc = .ok (.istore_n 0, 1)) (hn : Nat.ble 1 F.2.1.2.2.1 = true) (hr : F.2.2.2.2.2.all (fun q => !(q.1 == 0) && !(q.1 + 1 == 0)) = true) (k : xV F (pc + 1) (some (.int x) :: tl) st n h ce sl) : xV F pc (b :: tl) (.int x :: st) n h ce sl := y_istore_n (i := 0) hd rfl (Nat.le_of_ble_eq_true hn) (by simp) (fun w h0 => absurd h0 (Nat.lt_irrefl 0)) hr k
theorem x_astore0 {tl : List (Option Value)} {b : Option Value} {x : Nat} (hd : decode F.2.1.2.1 pc = .ok (.astore_n 0, 1)) (hn : Nat.ble 1 F.2.1.2.2.1 = true) (hr : F.2.2.2.2.2.all (fun q => !(q.1 == 0) && !(q.1 + 1 == 0)) = true) (k : xV F (pc + 1) (some (.ref x) :: tl) st n h ce sl) : xV F pc (b :: tl) (.ref x :: st) n h ce sl := y_astore_n (i := 0) hd rfl (Nat.le_of_ble_eq_true hn) (by simp) (fun w h0 => absurd h0 (Nat.lt_irrefl 0)) hr k
theorem x_astoreN0 {tl : List (Option Value)} {b : Option Value} (hd : decode F.2.1.2.1 pc = .ok (.astore_n 0, 1)) (hn : Nat.ble 1 F.2.1.2.2.1 = true) (hr : F.2.2.2.2.2.all (fun q => !(q.1 == 0) && !(q.1 + 1 == 0)) = true) (k : xV F (pc + 1) (some (.null) :: tl) st n h ce sl) : xV F pc (b :: tl) (.null :: st) n h ce sl := y_astoreN_n (i := 0) hd rfl (Nat.le_of_ble_eq_true hn) (by simp) (fun w h0 => absurd h0 (Nat.lt_irrefl 0)) hr k
theorem x_lstore0 {tl : List (Option Value)} {b b2 : Option Value} {x : Int64} (hd : decode F.2.1.2.1 pc = .ok (.lstore_n 0, 1)) (hn : Nat.ble 2 F.2.1.2.2.1 = true) (hr : F.2.2.2.2.2.all (fun q => !(q.1 == 0) && !(q.1 + 1 == 0) && !(q.1 == 0 + 1)) = true) (k : xV F (pc + 1) (some (.long x) :: none :: tl) st n h ce sl) : xV F pc (b :: b2 :: tl) (.long x :: st) n h ce sl := y_lstore_n (i := 0) hd rfl (Nat.le_of_ble_eq_true hn) (by simp) (fun w h0 => absurd h0 (Nat.lt_irrefl 0)) hr k
theorem x_iinc0 {tl : List (Option Value)} {x : Int32} {z : Int} (v : Int32) (hd : decode F.2.1.2.1 pc = .ok (.iinc 0 z, 3)) (hv : x + Int32.ofInt z = v) (hn : Nat.ble 1 F.2.1.2.2.1 = true) (hr : F.2.2.2.2.2.all (fun q => !(q.1 == 0) && !(q.1 + 1 == 0)) = true) (k : xV F (pc + 3) (some (.int v) :: tl) st n h ce sl) : xV F pc (some (.int x) :: tl) st n h ce sl := y_iinc (i := 0) rfl hd hv (Nat.le_of_ble_eq_true hn) (fun w h0 => absurd h0 (Nat.lt_irrefl 0)) hr k
theorem x_iload1 {a0 : Option Value} {tl : List (Option Value)} {x : Int32} (hd : decode F.2.1.2.1 pc = .ok (.iload_n 1, 1)) (k : xV F (pc + 1) (a0 :: some (.int x) :: tl) (.int x :: st) n h ce sl) : xV F pc (a0 :: some (.int x) :: tl) st n h ce sl := y_iload_n (i := 1) rfl hd rfl k
theorem x_lload1 {a0 : Option Value} {tl : List (Option Value)} {x : Int64} (hd : decode F.2.1.2.1 pc = .ok (.lload_n 1, 1)) (k : xV F (pc + 1) (a0 :: some (.long x) :: tl) (.long x :: st) n h ce sl) : xV F pc (a0 :: some (.long x) :: tl) st n h ce sl := y_lload_n (i := 1) rfl hd rfl k
theorem x_aload1 {a0 : Option Value} {tl : List (Option Value)} {x : Nat} (hd : decode F.2.1.2.1 pc = .ok (.aload_n 1, 1)) (k : xV F (pc + 1) (a0 :: some (.ref x) :: tl) (.ref x :: st) n h ce sl) : xV F pc (a0 :: some (.ref x) :: tl) st n h ce sl := y_aload_n (i := 1) rfl hd rfl k
theorem x_aloadN1 {a0 : Option Value} {tl : List (Option Value)} (hd : decode F.2.1.2.1 pc = .ok (.aload_n 1, 1)) (k : xV F (pc + 1) (a0 :: some .null :: tl) (.null :: st) n h ce sl) : xV F pc (a0 :: some .null :: tl) st n h ce sl := y_aloadN_n (i := 1) rfl hd rfl k
theorem x_istore1 {a0 : Option Value} {tl : List (Option Value)} {b : Option Value} {x : Int32} (hd : decode F.2.1.2.1 pc = .ok (.istore_n 1, 1)) (hn : Nat.ble 2 F.2.1.2.2.1 = true) (hp : oc1 a0 = true) (hr : F.2.2.2.2.2.all (fun q => !(q.1 == 1) && !(q.1 + 1 == 1)) = true) (k : xV F (pc + 1) (a0 :: some (.int x) :: tl) st n h ce sl) : xV F pc (a0 :: b :: tl) (.int x :: st) n h ce sl := y_istore_n (i := 1) hd rfl (Nat.le_of_ble_eq_true hn) (by simp) (fun w _ h1 => oc1_of hp w (Option.some.inj h1)) hr k
theorem x_astore1 {a0 : Option Value} {tl : List (Option Value)} {b : Option Value} {x : Nat} (hd : decode F.2.1.2.1 pc = .ok (.astore_n 1, 1)) (hn : Nat.ble 2 F.2.1.2.2.1 = true) (hp : oc1 a0 = true) (hr : F.2.2.2.2.2.all (fun q => !(q.1 == 1) && !(q.1 + 1 == 1)) = true) (k : xV F (pc + 1) (a0 :: some (.ref x) :: tl) st n h ce sl) : xV F pc (a0 :: b :: tl) (.ref x :: st) n h ce sl := y_astore_n (i := 1) hd rfl (Nat.le_of_ble_eq_true hn) (by simp) (fun w _ h1 => oc1_of hp w (Option.some.inj h1)) hr k
theorem x_astoreN1 {a0 : Option Value} {tl : List (Option Value)} {b : Option Value} (hd : decode F.2.1.2.1 pc = .ok (.astore_n 1, 1)) (hn : Nat.ble 2 F.2.1.2.2.1 = true) (hp : oc1 a0 = true) (hr : F.2.2.2.2.2.all (fun q => !(q.1 == 1) && !(q.1 + 1 == 1)) = true) (k : xV F (pc + 1) (a0 :: some (.null) :: tl) st n h ce sl) : xV F pc (a0 :: b :: tl) (.null :: st) n h ce sl := y_astoreN_n (i := 1) hd rfl (Nat.le_of_ble_eq_true hn) (by simp) (fun w _ h1 => oc1_of hp w (Option.some.inj h1)) hr k
theorem x_lstore1 {a0 : Option Value} {tl : List (Option Value)} {b b2 : Option Value} {x : Int64} (hd : decode F.2.1.2.1 pc = .ok (.lstore_n 1, 1)) (hn : Nat.ble 3 F.2.1.2.2.1 = true) (hp : oc1 a0 = true) (hr : F.2.2.2.2.2.all (fun q => !(q.1 == 1) && !(q.1 + 1 == 1) && !(q.1 == 1 + 1)) = true) (k : xV F (pc + 1) (a0 :: some (.long x) :: none :: tl) st n h ce sl) : xV F pc (a0 :: b :: b2 :: tl) (.long x :: st) n h ce sl := y_lstore_n (i := 1) hd rfl (Nat.le_of_ble_eq_true hn) (by simp) (fun w _ h1 => oc1_of hp w (Option.some.inj h1)) hr k
theorem x_iinc1 {a0 : Option Value} {tl : List (Option Value)} {x : Int32} {z : Int} (v : Int32) (hd : decode F.2.1.2.1 pc = .ok (.iinc 1 z, 3)) (hv : x + Int32.ofInt z = v) (hn : Nat.ble 2 F.2.1.2.2.1 = true) (hp : oc1 a0 = true) (hr : F.2.2.2.2.2.all (fun q => !(q.1 == 1) && !(q.1 + 1 == 1)) = true) (k : xV F (pc + 3) (a0 :: some (.int v) :: tl) st n h ce sl) : xV F pc (a0 :: some (.int x) :: tl) st n h ce sl := y_iinc (i := 1) rfl hd hv (Nat.le_of_ble_eq_true hn) (fun w _ h1 => oc1_of hp w (Option.some.inj h1)) hr k
theorem x_iload2 {a0 a1 : Option Value} {tl : List (Option Value)} {x : Int32} (hd : decode F.2.1.2.1 pc = .ok (.iload_n 2, 1)) (k : xV F (pc + 1) (a0 :: a1 :: some (.int x) :: tl) (.int x :: st) n h ce sl) : xV F pc (a0 :: a1 :: some (.int x) :: tl) st n h ce sl := y_iload_n (i := 2) rfl hd rfl k
theorem x_lload2 {a0 a1 : Option Value} {tl : List (Option Value)} {x : Int64} (hd : decode F.2.1.2.1 pc = .ok (.lload_n 2, 1)) (k : xV F (pc + 1) (a0 :: a1 :: some (.long x) :: tl) (.long x :: st) n h ce sl) : xV F pc (a0 :: a1 :: some (.long x) :: tl) st n h ce sl := y_lload_n (i := 2) rfl hd rfl k
theorem x_aload2 {a0 a1 : Option Value} {tl : List (Option Value)} {x : Nat} (hd : decode F.2.1.2.1 pc = .ok (.aload_n 2, 1)) (k : xV F (pc + 1) (a0 :: a1 :: some (.ref x) :: tl) (.ref x :: st) n h ce sl) : xV F pc (a0 :: a1 :: some (.ref x) :: tl) st n h ce sl := y_aload_n (i := 2) rfl hd rfl k
theorem x_aloadN2 {a0 a1 : Option Value} {tl : List (Option Value)} (hd : decode F.2.1.2.1 pc = .ok (.aload_n 2, 1)) (k : xV F (pc + 1) (a0 :: a1 :: some .null :: tl) (.null :: st) n h ce sl) : xV F pc (a0 :: a1 :: some .null :: tl) st n h ce sl := y_aloadN_n (i := 2) rfl hd rfl k
theorem x_istore2 {a0 a1 : Option Value} {tl : List (Option Value)} {b : Option Value} {x : Int32} (hd : decode F.2.1.2.1 pc = .ok (.istore_n 2, 1)) (hn : Nat.ble 3 F.2.1.2.2.1 = true) (hp : oc1 a1 = true) (hr : F.2.2.2.2.2.all (fun q => !(q.1 == 2) && !(q.1 + 1 == 2)) = true) (k : xV F (pc + 1) (a0 :: a1 :: some (.int x) :: tl) st n h ce sl) : xV F pc (a0 :: a1 :: b :: tl) (.int x :: st) n h ce sl := y_istore_n (i := 2) hd rfl (Nat.le_of_ble_eq_true hn) (by simp) (fun w _ h1 => oc1_of hp w (Option.some.inj h1)) hr k
theorem x_astore2 {a0 a1 : Option Value} {tl : List (Option Value)} {b : Option Value} {x : Nat} (hd : decode F.2.1.2.1 pc = .ok (.astore_n 2, 1)) (hn : Nat.ble 3 F.2.1.2.2.1 = true) (hp : oc1 a1 = true) (hr : F.2.2.2.2.2.all (fun q => !(q.1 == 2) && !(q.1 + 1 == 2)) = true) (k : xV F (pc + 1) (a0 :: a1 :: some (.ref x) :: tl) st n h ce sl) : xV F pc (a0 :: a1 :: b :: tl) (.ref x :: st) n h ce sl := y_astore_n (i := 2) hd rfl (Nat.le_of_ble_eq_true hn) (by simp) (fun w _ h1 => oc1_of hp w (Option.some.inj h1)) hr k
theorem x_astoreN2 {a0 a1 : Option Value} {tl : List (Option Value)} {b : Option Value} (hd : decode F.2.1.2.1 pc = .ok (.astore_n 2, 1)) (hn : Nat.ble 3 F.2.1.2.2.1 = true) (hp : oc1 a1 = true) (hr : F.2.2.2.2.2.all (fun q => !(q.1 == 2) && !(q.1 + 1 == 2)) = true) (k : xV F (pc + 1) (a0 :: a1 :: some (.null) :: tl) st n h ce sl) : xV F pc (a0 :: a1 :: b :: tl) (.null :: st) n h ce sl := y_astoreN_n (i := 2) hd rfl (Nat.le_of_ble_eq_true hn) (by simp) (fun w _ h1 => oc1_of hp w (Option.some.inj h1)) hr k
theorem x_lstore2 {a0 a1 : Option Value} {tl : List (Option Value)} {b b2 : Option Value} {x : Int64} (hd : decode F.2.1.2.1 pc = .ok (.lstore_n 2, 1)) (hn : Nat.ble 4 F.2.1.2.2.1 = true) (hp : oc1 a1 = true) (hr : F.2.2.2.2.2.all (fun q => !(q.1 == 2) && !(q.1 + 1 == 2) && !(q.1 == 2 + 1)) = true) (k : xV F (pc + 1) (a0 :: a1 :: some (.long x) :: none :: tl) st n h ce sl) : xV F pc (a0 :: a1 :: b :: b2 :: tl) (.long x :: st) n h ce sl := y_lstore_n (i := 2) hd rfl (Nat.le_of_ble_eq_true hn) (by simp) (fun w _ h1 => oc1_of hp w (Option.some.inj h1)) hr k
theorem x_iinc2 {a0 a1 : Option Value} {tl : List (Option Value)} {x : Int32} {z : Int} (v : Int32) (hd : decode F.2.1.2.1 pc = .ok (.iinc 2 z, 3)) (hv : x + Int32.ofInt z = v) (hn : Nat.ble 3 F.2.1.2.2.1 = true) (hp : oc1 a1 = true) (hr : F.2.2.2.2.2.all (fun q => !(q.1 == 2) && !(q.1 + 1 == 2)) = true) (k : xV F (pc + 3) (a0 :: a1 :: some (.int v) :: tl) st n h ce sl) : xV F pc (a0 :: a1 :: some (.int x) :: tl) st n h ce sl := y_iinc (i := 2) rfl hd hv (Nat.le_of_ble_eq_true hn) (fun w _ h1 => oc1_of hp w (Option.some.inj h1)) hr k
theorem x_iload3 {a0 a1 a2 : Option Value} {tl : List (Option Value)} {x : Int32} (hd : decode F.2.1.2.1 pc = .ok (.iload_n 3, 1)) (k : xV F (pc + 1) (a0 :: a1 :: a2 :: some (.int x) :: tl) (.int x :: st) n h ce sl) : xV F pc (a0 :: a1 :: a2 :: some (.int x) :: tl) st n h ce sl := y_iload_n (i := 3) rfl hd rfl k
theorem x_lload3 {a0 a1 a2 : Option Value} {tl : List (Option Value)} {x : Int64} (hd : decode F.2.1.2.1 pc = .ok (.lload_n 3, 1)) (k : xV F (pc + 1) (a0 :: a1 :: a2 :: some (.long x) :: tl) (.long x :: st) n h ce sl) : xV F pc (a0 :: a1 :: a2 :: some (.long x) :: tl) st n h ce sl := y_lload_n (i := 3) rfl hd rfl k
theorem x_aload3 {a0 a1 a2 : Option Value} {tl : List (Option Value)} {x : Nat} (hd : decode F.2.1.2.1 pc = .ok (.aload_n 3, 1)) (k : xV F (pc + 1) (a0 :: a1 :: a2 :: some (.ref x) :: tl) (.ref x :: st) n h ce sl) : xV F pc (a0 :: a1 :: a2 :: some (.ref x) :: tl) st n h ce sl := y_aload_n (i := 3) rfl hd rfl k
theorem x_aloadN3 {a0 a1 a2 : Option Value} {tl : List (Option Value)} (hd : decode F.2.1.2.1 pc = .ok (.aload_n 3, 1)) (k : xV F (pc + 1) (a0 :: a1 :: a2 :: some .null :: tl) (.null :: st) n h ce sl) : xV F pc (a0 :: a1 :: a2 :: some .null :: tl) st n h ce sl := y_aloadN_n (i := 3) rfl hd rfl k
theorem x_istore3 {a0 a1 a2 : Option Value} {tl : List (Option Value)} {b : Option Value} {x : Int32} (hd : decode F.2.1.2.1 pc = .ok (.istore_n 3, 1)) (hn : Nat.ble 4 F.2.1.2.2.1 = true) (hp : oc1 a2 = true) (hr : F.2.2.2.2.2.all (fun q => !(q.1 == 3) && !(q.1 + 1 == 3)) = true) (k : xV F (pc + 1) (a0 :: a1 :: a2 :: some (.int x) :: tl) st n h ce sl) : xV F pc (a0 :: a1 :: a2 :: b :: tl) (.int x :: st) n h ce sl := y_istore_n (i := 3) hd rfl (Nat.le_of_ble_eq_true hn) (by simp) (fun w _ h1 => oc1_of hp w (Option.some.inj h1)) hr k
theorem x_astore3 {a0 a1 a2 : Option Value} {tl : List (Option Value)} {b : Option Value} {x : Nat} (hd : decode F.2.1.2.1 pc = .ok (.astore_n 3, 1)) (hn : Nat.ble 4 F.2.1.2.2.1 = true) (hp : oc1 a2 = true) (hr : F.2.2.2.2.2.all (fun q => !(q.1 == 3) && !(q.1 + 1 == 3)) = true) (k : xV F (pc + 1) (a0 :: a1 :: a2 :: some (.ref x) :: tl) st n h ce sl) : xV F pc (a0 :: a1 :: a2 :: b :: tl) (.ref x :: st) n h ce sl := y_astore_n (i := 3) hd rfl (Nat.le_of_ble_eq_true hn) (by simp) (fun w _ h1 => oc1_of hp w (Option.some.inj h1)) hr k
theorem x_astoreN3 {a0 a1 a2 : Option Value} {tl : List (Option Value)} {b : Option Value} (hd : decode F.2.1.2.1 pc = .ok (.astore_n 3, 1)) (hn : Nat.ble 4 F.2.1.2.2.1 = true) (hp : oc1 a2 = true) (hr : F.2.2.2.2.2.all (fun q => !(q.1 == 3) && !(q.1 + 1 == 3)) = true) (k : xV F (pc + 1) (a0 :: a1 :: a2 :: some (.null) :: tl) st n h ce sl) : xV F pc (a0 :: a1 :: a2 :: b :: tl) (.null :: st) n h ce sl := y_astoreN_n (i := 3) hd rfl (Nat.le_of_ble_eq_true hn) (by simp) (fun w _ h1 => oc1_of hp w (Option.some.inj h1)) hr k
theorem x_lstore3 {a0 a1 a2 : Option Value} {tl : List (Option Value)} {b b2 : Option Value} {x : Int64} (hd : decode F.2.1.2.1 pc = .ok (.lstore_n 3, 1)) (hn : Nat.ble 5 F.2.1.2.2.1 = true) (hp : oc1 a2 = true) (hr : F.2.2.2.2.2.all (fun q => !(q.1 == 3) && !(q.1 + 1 == 3) && !(q.1 == 3 + 1)) = true) (k : xV F (pc + 1) (a0 :: a1 :: a2 :: some (.long x) :: none :: tl) st n h ce sl) : xV F pc (a0 :: a1 :: a2 :: b :: b2 :: tl) (.long x :: st) n h ce sl := y_lstore_n (i := 3) hd rfl (Nat.le_of_ble_eq_true hn) (by simp) (fun w _ h1 => oc1_of hp w (Option.some.inj h1)) hr k
theorem x_iinc3 {a0 a1 a2 : Option Value} {tl : List (Option Value)} {x : Int32} {z : Int} (v : Int32) (hd : decode F.2.1.2.1 pc = .ok (.iinc 3 z, 3)) (hv : x + Int32.ofInt z = v) (hn : Nat.ble 4 F.2.1.2.2.1 = true) (hp : oc1 a2 = true) (hr : F.2.2.2.2.2.all (fun q => !(q.1 == 3) && !(q.1 + 1 == 3)) = true) (k : xV F (pc + 3) (a0 :: a1 :: a2 :: some (.int v) :: tl) st n h ce sl) : xV F pc (a0 :: a1 :: a2 :: some (.int x) :: tl) st n h ce sl := y_iinc (i := 3) rfl hd hv (Nat.le_of_ble_eq_true hn) (fun w _ h1 => oc1_of hp w (Option.some.inj h1)) hr k
theorem x_iload4 {a0 a1 a2 a3 : Option Value} {tl : List (Option Value)} {x : Int32} (hd : decode F.2.1.2.1 pc = .ok (.iload 4, 2)) (k : xV F (pc + 2) (a0 :: a1 :: a2 :: a3 :: some (.int x) :: tl) (.int x :: st) n h ce sl) : xV F pc (a0 :: a1 :: a2 :: a3 :: some (.int x) :: tl) st n h ce sl := y_iload_w (i := 4) rfl hd k
theorem x_lload4 {a0 a1 a2 a3 : Option Value} {tl : List (Option Value)} {x : Int64} (hd : decode F.2.1.2.1 pc = .ok (.lload 4, 2)) (k : xV F (pc + 2) (a0 :: a1 :: a2 :: a3 :: some (.long x) :: tl) (.long x :: st) n h ce sl) : xV F pc (a0 :: a1 :: a2 :: a3 :: some (.long x) :: tl) st n h ce sl := y_lload_w (i := 4) rfl hd k
theorem x_aload4 {a0 a1 a2 a3 : Option Value} {tl : List (Option Value)} {x : Nat} (hd : decode F.2.1.2.1 pc = .ok (.aload 4, 2)) (k : xV F (pc + 2) (a0 :: a1 :: a2 :: a3 :: some (.ref x) :: tl) (.ref x :: st) n h ce sl) : xV F pc (a0 :: a1 :: a2 :: a3 :: some (.ref x) :: tl) st n h ce sl := y_aload_w (i := 4) rfl hd k
theorem x_aloadN4 {a0 a1 a2 a3 : Option Value} {tl : List (Option Value)} (hd : decode F.2.1.2.1 pc = .ok (.aload 4, 2)) (k : xV F (pc + 2) (a0 :: a1 :: a2 :: a3 :: some .null :: tl) (.null :: st) n h ce sl) : xV F pc (a0 :: a1 :: a2 :: a3 :: some .null :: tl) st n h ce sl := y_aloadN_w (i := 4) rfl hd k
theorem x_istore4 {a0 a1 a2 a3 : Option Value} {tl : List (Option Value)} {b : Option Value} {x : Int32} (hd : decode F.2.1.2.1 pc = .ok (.istore 4, 2)) (hn : Nat.ble 5 F.2.1.2.2.1 = true) (hp : oc1 a3 = true) (hr : F.2.2.2.2.2.all (fun q => !(q.1 == 4) && !(q.1 + 1 == 4)) = true) (k : xV F (pc + 2) (a0 :: a1 :: a2 :: a3 :: some (.int x) :: tl) st n h ce sl) : xV F pc (a0 :: a1 :: a2 :: a3 :: b :: tl) (.int x :: st) n h ce sl := y_istore_w (i := 4) hd (Nat.le_of_ble_eq_true hn) (by simp) (fun w _ h1 => oc1_of hp w (Option.some.inj h1)) hr k
theorem x_astore4 {a0 a1 a2 a3 : Option Value} {tl : List (Option Value)} {b : Option Value} {x : Nat} (hd : decode F.2.1.2.1 pc = .ok (.astore 4, 2)) (hn : Nat.ble 5 F.2.1.2.2.1 = true) (hp : oc1 a3 = true) (hr : F.2.2.2.2.2.all (fun q => !(q.1 == 4) && !(q.1 + 1 == 4)) = true) (k : xV F (pc + 2) (a0 :: a1 :: a2 :: a3 :: some (.ref x) :: tl) st n h ce sl) : xV F pc (a0 :: a1 :: a2 :: a3 :: b :: tl) (.ref x :: st) n h ce sl := y_astore_w (i := 4) hd (Nat.le_of_ble_eq_true hn) (by simp) (fun w _ h1 => oc1_of hp w (Option.some.inj h1)) hr k
theorem x_astoreN4 {a0 a1 a2 a3 : Option Value} {tl : List (Option Value)} {b : Option Value} (hd : decode F.2.1.2.1 pc = .ok (.astore 4, 2)) (hn : Nat.ble 5 F.2.1.2.2.1 = true) (hp : oc1 a3 = true) (hr : F.2.2.2.2.2.all (fun q => !(q.1 == 4) && !(q.1 + 1 == 4)) = true) (k : xV F (pc + 2) (a0 :: a1 :: a2 :: a3 :: some (.null) :: tl) st n h ce sl) : xV F pc (a0 :: a1 :: a2 :: a3 :: b :: tl) (.null :: st) n h ce sl := y_astoreN_w (i := 4) hd (Nat.le_of_ble_eq_true hn) (by simp) (fun w _ h1 => oc1_of hp w (Option.some.inj h1)) hr k
theorem x_lstore4 {a0 a1 a2 a3 : Option Value} {tl : List (Option Value)} {b b2 : Option Value} {x : Int64} (hd : decode F.2.1.2.1 pc = .ok (.lstore 4, 2)) (hn : Nat.ble 6 F.2.1.2.2.1 = true) (hp : oc1 a3 = true) (hr : F.2.2.2.2.2.all (fun q => !(q.1 == 4) && !(q.1 + 1 == 4) && !(q.1 == 4 + 1)) = true) (k : xV F (pc + 2) (a0 :: a1 :: a2 :: a3 :: some (.long x) :: none :: tl) st n h ce sl) : xV F pc (a0 :: a1 :: a2 :: a3 :: b :: b2 :: tl) (.long x :: st) n h ce sl := y_lstore_w (i := 4) hd (Nat.le_of_ble_eq_true hn) (by simp) (fun w _ h1 => oc1_of hp w (Option.some.inj h1)) hr k
theorem x_iinc4 {a0 a1 a2 a3 : Option Value} {tl : List (Option Value)} {x : Int32} {z : Int} (v : Int32) (hd : decode F.2.1.2.1 pc = .ok (.iinc 4 z, 3)) (hv : x + Int32.ofInt z = v) (hn : Nat.ble 5 F.2.1.2.2.1 = true) (hp : oc1 a3 = true) (hr : F.2.2.2.2.2.all (fun q => !(q.1 == 4) && !(q.1 + 1 == 4)) = true) (k : xV F (pc + 3) (a0 :: a1 :: a2 :: a3 :: some (.int v) :: tl) st n h ce sl) : xV F pc (a0 :: a1 :: a2 :: a3 :: some (.int x) :: tl) st n h ce sl := y_iinc (i := 4) rfl hd hv (Nat.le_of_ble_eq_true hn) (fun w _ h1 => oc1_of hp w (Option.some.inj h1)) hr k
theorem x_iload5 {a0 a1 a2 a3 a4 : Option Value} {tl : List (Option Value)} {x : Int32} (hd : decode F.2.1.2.1 pc = .ok (.iload 5, 2)) (k : xV F (pc + 2) (a0 :: a1 :: a2 :: a3 :: a4 :: some (.int x) :: tl) (.int x :: st) n h ce sl) : xV F pc (a0 :: a1 :: a2 :: a3 :: a4 :: some (.int x) :: tl) st n h ce sl := y_iload_w (i := 5) rfl hd k
theorem x_lload5 {a0 a1 a2 a3 a4 : Option Value} {tl : List (Option Value)} {x : Int64} (hd : decode F.2.1.2.1 pc = .ok (.lload 5, 2)) (k : xV F (pc + 2) (a0 :: a1 :: a2 :: a3 :: a4 :: some (.long x) :: tl) (.long x :: st) n h ce sl) : xV F pc (a0 :: a1 :: a2 :: a3 :: a4 :: some (.long x) :: tl) st n h ce sl := y_lload_w (i := 5) rfl hd k
theorem x_aload5 {a0 a1 a2 a3 a4 : Option Value} {tl : List (Option Value)} {x : Nat} (hd : decode F.2.1.2.1 pc = .ok (.aload 5, 2)) (k : xV F (pc + 2) (a0 :: a1 :: a2 :: a3 :: a4 :: some (.ref x) :: tl) (.ref x :: st) n h ce sl) : xV F pc (a0 :: a1 :: a2 :: a3 :: a4 :: some (.ref x) :: tl) st n h ce sl := y_aload_w (i := 5) rfl hd k
theorem x_aloadN5 {a0 a1 a2 a3 a4 : Option Value} {tl : List (Option Value)} (hd : decode F.2.1.2.1 pc = .ok (.aload 5, 2)) (k : xV F (pc + 2) (a0 :: a1 :: a2 :: a3 :: a4 :: some .null :: tl) (.null :: st) n h ce sl) : xV F pc (a0 :: a1 :: a2 :: a3 :: a4 :: some .null :: tl) st n h ce sl := y_aloadN_w (i := 5) rfl hd k
theorem x_istore5 {a0 a1 a2 a3 a4 : Option Value} {tl : List (Option Value)} {b : Option Value} {x : Int32} (hd : decode F.2.1.2.1 pc = .ok (.istore 5, 2)) (hn : Nat.ble 6 F.2.1.2.2.1 = true) (hp : oc1 a4 = true) (hr : F.2.2.2.2.2.all (fun q => !(q.1 == 5) && !(q.1 + 1 == 5)) = true) (k : xV F (pc + 2) (a0 :: a1 :: a2 :: a3 :: a4 :: some (.int x) :: tl) st n h ce sl) : xV F pc (a0 :: a1 :: a2 :: a3 :: a4 :: b :: tl) (.int x :: st) n h ce sl := y_istore_w (i := 5) hd (Nat.le_of_ble_eq_true hn) (by simp) (fun w _ h1 => oc1_of hp w (Option.some.inj h1)) hr k
theorem x_astore5 {a0 a1 a2 a3 a4 : Option Value} {tl : List (Option Value)} {b : Option Value} {x : Nat} (hd : decode F.2.1.2.1 pc = .ok (.astore 5, 2)) (hn : Nat.ble 6 F.2.1.2.2.1 = true) (hp : oc1 a4 = true) (hr : F.2.2.2.2.2.all (fun q => !(q.1 == 5) && !(q.1 + 1 == 5)) = true) (k : xV F (pc + 2) (a0 :: a1 :: a2 :: a3 :: a4 :: some (.ref x) :: tl) st n h ce sl) : xV F pc (a0 :: a1 :: a2 :: a3 :: a4 :: b :: tl) (.ref x :: st) n h ce sl := y_astore_w (i := 5) hd (Nat.le_of_ble_eq_true hn) (by simp) (fun w _ h1 => oc1_of hp w (Option.some.inj h1)) hr k
theorem x_astoreN5 {a0 a1 a2 a3 a4 : Option Value} {tl : List (Option Value)} {b : Option Value} (hd : decode F.2.1.2.1 pc = .ok (.astore 5, 2)) (hn : Nat.ble 6 F.2.1.2.2.1 = true) (hp : oc1 a4 = true) (hr : F.2.2.2.2.2.all (fun q => !(q.1 == 5) && !(q.1 + 1 == 5)) = true) (k : xV F (pc + 2) (a0 :: a1 :: a2 :: a3 :: a4 :: some (.null) :: tl) st n h ce sl) : xV F pc (a0 :: a1 :: a2 :: a3 :: a4 :: b :: tl) (.null :: st) n h ce sl := y_astoreN_w (i := 5) hd (Nat.le_of_ble_eq_true hn) (by simp) (fun w _ h1 => oc1_of hp w (Option.some.inj h1)) hr k
theorem x_lstore5 {a0 a1 a2 a3 a4 : Option Value} {tl : List (Option Value)} {b b2 : Option Value} {x : Int64} (hd : decode F.2.1.2.1 pc = .ok (.lstore 5, 2)) (hn : Nat.ble 7 F.2.1.2.2.1 = true) (hp : oc1 a4 = true) (hr : F.2.2.2.2.2.all (fun q => !(q.1 == 5) && !(q.1 + 1 == 5) && !(q.1 == 5 + 1)) = true) (k : xV F (pc + 2) (a0 :: a1 :: a2 :: a3 :: a4 :: some (.long x) :: none :: tl) st n h ce sl) : xV F pc (a0 :: a1 :: a2 :: a3 :: a4 :: b :: b2 :: tl) (.long x :: st) n h ce sl := y_lstore_w (i := 5) hd (Nat.le_of_ble_eq_true hn) (by simp) (fun w _ h1 => oc1_of hp w (Option.some.inj h1)) hr k
theorem x_iinc5 {a0 a1 a2 a3 a4 : Option Value} {tl : List (Option Value)} {x : Int32} {z : Int} (v : Int32) (hd : decode F.2.1.2.1 pc = .ok (.iinc 5 z, 3)) (hv : x + Int32.ofInt z = v) (hn : Nat.ble 6 F.2.1.2.2.1 = true) (hp : oc1 a4 = true) (hr : F.2.2.2.2.2.all (fun q => !(q.1 == 5) && !(q.1 + 1 == 5)) = true) (k : xV F (pc + 3) (a0 :: a1 :: a2 :: a3 :: a4 :: some (.int v) :: tl) st n h ce sl) : xV F pc (a0 :: a1 :: a2 :: a3 :: a4 :: some (.int x) :: tl) st n h ce sl := y_iinc (i := 5) rfl hd hv (Nat.le_of_ble_eq_true hn) (fun w _ h1 => oc1_of hp w (Option.some.inj h1)) hr k
theorem x_iload6 {a0 a1 a2 a3 a4 a5 : Option Value} {tl : List (Option Value)} {x : Int32} (hd : decode F.2.1.2.1 pc = .ok (.iload 6, 2)) (k : xV F (pc + 2) (a0 :: a1 :: a2 :: a3 :: a4 :: a5 :: some (.int x) :: tl) (.int x :: st) n h ce sl) : xV F pc (a0 :: a1 :: a2 :: a3 :: a4 :: a5 :: some (.int x) :: tl) st n h ce sl := y_iload_w (i := 6) rfl hd k
theorem x_lload6 {a0 a1 a2 a3 a4 a5 : Option Value} {tl : List (Option Value)} {x : Int64} (hd : decode F.2.1.2.1 pc = .ok (.lload 6, 2)) (k : xV F (pc + 2) (a0 :: a1 :: a2 :: a3 :: a4 :: a5 :: some (.long x) :: tl) (.long x :: st) n h ce sl) : xV F pc (a0 :: a1 :: a2 :: a3 :: a4 :: a5 :: some (.long x) :: tl) st n h ce sl := y_lload_w (i := 6) rfl hd k
theorem x_aload6 {a0 a1 a2 a3 a4 a5 : Option Value} {tl : List (Option Value)} {x : Nat} (hd : decode F.2.1.2.1 pc = .ok (.aload 6, 2)) (k : xV F (pc + 2) (a0 :: a1 :: a2 :: a3 :: a4 :: a5 :: some (.ref x) :: tl) (.ref x :: st) n h ce sl) : xV F pc (a0 :: a1 :: a2 :: a3 :: a4 :: a5 :: some (.ref x) :: tl) st n h ce sl := y_aload_w (i := 6) rfl hd k
theorem x_aloadN6 {a0 a1 a2 a3 a4 a5 : Option Value} {tl : List (Option Value)} (hd : decode F.2.1.2.1 pc = .ok (.aload 6, 2)) (k : xV F (pc + 2) (a0 :: a1 :: a2 :: a3 :: a4 :: a5 :: some .null :: tl) (.null :: st) n h ce sl) : xV F pc (a0 :: a1 :: a2 :: a3 :: a4 :: a5 :: some .null :: tl) st n h ce sl := y_aloadN_w (i := 6) rfl hd k
theorem x_istore6 {a0 a1 a2 a3 a4 a5 : Option Value} {tl : List (Option Value)} {b : Option Value} {x : Int32} (hd : decode F.2.1.2.1 pc = .ok (.istore 6, 2)) (hn : Nat.ble 7 F.2.1.2.2.1 = true) (hp : oc1 a5 = true) (hr : F.2.2.2.2.2.all (fun q => !(q.1 == 6) && !(q.1 + 1 == 6)) = true) (k : xV F (pc + 2) (a0 :: a1 :: a2 :: a3 :: a4 :: a5 :: some (.int x) :: tl) st n h ce sl) : xV F pc (a0 :: a1 :: a2 :: a3 :: a4 :: a5 :: b :: tl) (.int x :: st) n h ce sl := y_istore_w (i := 6) hd (Nat.le_of_ble_eq_true hn) (by simp) (fun w _ h1 => oc1_of hp w (Option.some.inj h1)) hr k
theorem x_astore6 {a0 a1 a2 a3 a4 a5 : Option Value} {tl : List (Option Value)} {b : Option Value} {x : Nat} (hd : decode F.2.1.2.1 pc = .ok (.astore 6, 2)) (hn : Nat.ble 7 F.2.1.2.2.1 = true) (hp : oc1 a5 = true) (hr : F.2.2.2.2.2.all (fun q => !(q.1 == 6) && !(q.1 + 1 == 6)) = true) (k : xV F (pc + 2) (a0 :: a1 :: a2 :: a3 :: a4 :: a5 :: some (.ref x) :: tl) st n h ce sl) : xV F pc (a0 :: a1 :: a2 :: a3 :: a4 :: a5 :: b :: tl) (.ref x :: st) n h ce sl := y_astore_w (i := 6) hd (Nat.le_of_ble_eq_true hn) (by simp) (fun w _ h1 => oc1_of hp w (Option.some.inj h1)) hr k
theorem x_astoreN6 {a0 a1 a2 a3 a4 a5 : Option Value} {tl : List (Option Value)} {b : Option Value} (hd : decode F.2.1.2.1 pc = .ok (.astore 6, 2)) (hn : Nat.ble 7 F.2.1.2.2.1 = true) (hp : oc1 a5 = true) (hr : F.2.2.2.2.2.all (fun q => !(q.1 == 6) && !(q.1 + 1 == 6)) = true) (k : xV F (pc + 2) (a0 :: a1 :: a2 :: a3 :: a4 :: a5 :: some (.null) :: tl) st n h ce sl) : xV F pc (a0 :: a1 :: a2 :: a3 :: a4 :: a5 :: b :: tl) (.null :: st) n h ce sl := y_astoreN_w (i := 6) hd (Nat.le_of_ble_eq_true hn) (by simp) (fun w _ h1 => oc1_of hp w (Option.some.inj h1)) hr k
theorem x_lstore6 {a0 a1 a2 a3 a4 a5 : Option Value} {tl : List (Option Value)} {b b2 : Option Value} {x : Int64} (hd : decode F.2.1.2.1 pc = .ok (.lstore 6, 2)) (hn : Nat.ble 8 F.2.1.2.2.1 = true) (hp : oc1 a5 = true) (hr : F.2.2.2.2.2.all (fun q => !(q.1 == 6) && !(q.1 + 1 == 6) && !(q.1 == 6 + 1)) = true) (k : xV F (pc + 2) (a0 :: a1 :: a2 :: a3 :: a4 :: a5 :: some (.long x) :: none :: tl) st n h ce sl) : xV F pc (a0 :: a1 :: a2 :: a3 :: a4 :: a5 :: b :: b2 :: tl) (.long x :: st) n h ce sl := y_lstore_w (i := 6) hd (Nat.le_of_ble_eq_true hn) (by simp) (fun w _ h1 => oc1_of hp w (Option.some.inj h1)) hr k
theorem x_iinc6 {a0 a1 a2 a3 a4 a5 : Option Value} {tl : List (Option Value)} {x : Int32} {z : Int} (v : Int32) (hd : decode F.2.1.2.1 pc = .ok (.iinc 6 z, 3)) (hv : x + Int32.ofInt z = v) (hn : Nat.ble 7 F.2.1.2.2.1 = true) (hp : oc1 a5 = true) (hr : F.2.2.2.2.2.all (fun q => !(q.1 == 6) && !(q.1 + 1 == 6)) = true) (k : xV F (pc + 3) (a0 :: a1 :: a2 :: a3 :: a4 :: a5 :: some (.int v) :: tl) st n h ce sl) : xV F pc (a0 :: a1 :: a2 :: a3 :: a4 :: a5 :: some (.int x) :: tl) st n h ce sl := y_iinc (i := 6) rfl hd hv (Nat.le_of_ble_eq_true hn) (fun w _ h1 => oc1_of hp w (Option.some.inj h1)) hr k
theorem x_iload7 {a0 a1 a2 a3 a4 a5 a6 : Option Value} {tl : List (Option Value)} {x : Int32} (hd : decode F.2.1.2.1 pc = .ok (.iload 7, 2)) (k : xV F (pc + 2) (a0 :: a1 :: a2 :: a3 :: a4 :: a5 :: a6 :: some (.int x) :: tl) (.int x :: st) n h ce sl) : xV F pc (a0 :: a1 :: a2 :: a3 :: a4 :: a5 :: a6 :: some (.int x) :: tl) st n h ce sl := y_iload_w (i := 7) rfl hd k
theorem x_lload7 {a0 a1 a2 a3 a4 a5 a6 : Option Value} {tl : List (Option Value)} {x : Int64} (hd : decode F.2.1.2.1 pc = .ok (.lload 7, 2)) (k : xV F (pc + 2) (a0 :: a1 :: a2 :: a3 :: a4 :: a5 :: a6 :: some (.long x) :: tl) (.long x :: st) n h ce sl) : xV F pc (a0 :: a1 :: a2 :: a3 :: a4 :: a5 :: a6 :: some (.long x) :: tl) st n h ce sl := y_lload_w (i := 7) rfl hd k
theorem x_aload7 {a0 a1 a2 a3 a4 a5 a6 : Option Value} {tl : List (Option Value)} {x : Nat} (hd : decode F.2.1.2.1 pc = .ok (.aload 7, 2)) (k : xV F (pc + 2) (a0 :: a1 :: a2 :: a3 :: a4 :: a5 :: a6 :: some (.ref x) :: tl) (.ref x :: st) n h ce sl) : xV F pc (a0 :: a1 :: a2 :: a3 :: a4 :: a5 :: a6 :: some (.ref x) :: tl) st n h ce sl := y_aload_w (i := 7) rfl hd k
theorem x_aloadN7 {a0 a1 a2 a3 a4 a5 a6 : Option Value} {tl : List (Option Value)} (hd : decode F.2.1.2.1 pc = .ok (.aload 7, 2)) (k : xV F (pc + 2) (a0 :: a1 :: a2 :: a3 :: a4 :: a5 :: a6 :: some .null :: tl) (.null :: st) n h ce sl) : xV F pc (a0 :: a1 :: a2 :: a3 :: a4 :: a5 :: a6 :: some .null :: tl) st n h ce sl := y_aloadN_w (i := 7) rfl hd k
theorem x_istore7 {a0 a1 a2 a3 a4 a5 a6 : Option Value} {tl : List (Option Value)} {b : Option Value} {x : Int32} (hd : decode F.2.1.2.1 pc = .ok (.istore 7, 2)) (hn : Nat.ble 8 F.2.1.2.2.1 = true) (hp : oc1 a6 = true) (hr : F.2.2.2.2.2.all (fun q => !(q.1 == 7) && !(q.1 + 1 == 7)) = true) (k : xV F (pc + 2) (a0 :: a1 :: a2 :: a3 :: a4 :: a5 :: a6 :: some (.int x) :: tl) st n h ce sl) : xV F pc (a0 :: a1 :: a2 :: a3 :: a4 :: a5 :: a6 :: b :: tl) (.int x :: st) n h ce sl := y_istore_w (i := 7) hd (Nat.le_of_ble_eq_true hn) (by simp) (fun w _ h1 => oc1_of hp w (Option.some.inj h1)) hr k
theorem x_astore7 {a0 a1 a2 a3 a4 a5 a6 : Option Value} {tl : List (Option Value)} {b : Option Value} {x : Nat} (hd : decode F.2.1.2.1 pc = .ok (.astore 7, 2)) (hn : Nat.ble 8 F.2.1.2.2.1 = true) (hp : oc1 a6 = true) (hr : F.2.2.2.2.2.all (fun q => !(q.1 == 7) && !(q.1 + 1 == 7)) = true) (k : xV F (pc + 2) (a0 :: a1 :: a2 :: a3 :: a4 :: a5 :: a6 :: some (.ref x) :: tl) st n h ce sl) : xV F pc (a0 :: a1 :: a2 :: a3 :: a4 :: a5 :: a6 :: b :: tl) (.ref x :: st) n h ce sl := y_astore_w (i := 7) hd (Nat.le_of_ble_eq_true hn) (by simp) (fun w _ h1 => oc1_of hp w (Option.some.inj h1)) hr k
theorem x_astoreN7 {a0 a1 a2 a3 a4 a5 a6 : Option Value} {tl : List (Option Value)} {b : Option Value} (hd : decode F.2.1.2.1 pc = .ok (.astore 7, 2)) (hn : Nat.ble 8 F.2.1.2.2.1 = true) (hp : oc1 a6 = true) (hr : F.2.2.2.2.2.all (fun q => !(q.1 == 7) && !(q.1 + 1 == 7)) = true) (k : xV F (pc + 2) (a0 :: a1 :: a2 :: a3 :: a4 :: a5 :: a6 :: some (.null) :: tl) st n h ce sl) : xV F pc (a0 :: a1 :: a2 :: a3 :: a4 :: a5 :: a6 :: b :: tl) (.null :: st) n h ce sl := y_astoreN_w (i := 7) hd (Nat.le_of_ble_eq_true hn) (by simp) (fun w _ h1 => oc1_of hp w (Option.some.inj h1)) hr k
theorem x_lstore7 {a0 a1 a2 a3 a4 a5 a6 : Option Value} {tl : List (Option Value)} {b b2 : Option Value} {x : Int64} (hd : decode F.2.1.2.1 pc = .ok (.lstore 7, 2)) (hn : Nat.ble 9 F.2.1.2.2.1 = true) (hp : oc1 a6 = true) (hr : F.2.2.2.2.2.all (fun q => !(q.1 == 7) && !(q.1 + 1 == 7) && !(q.1 == 7 + 1)) = true) (k : xV F (pc + 2) (a0 :: a1 :: a2 :: a3 :: a4 :: a5 :: a6 :: some (.long x) :: none :: tl) st n h ce sl) : xV F pc (a0 :: a1 :: a2 :: a3 :: a4 :: a5 :: a6 :: b :: b2 :: tl) (.long x :: st) n h ce sl := y_lstore_w (i := 7) hd (Nat.le_of_ble_eq_true hn) (by simp) (fun w _ h1 => oc1_of hp w (Option.some.inj h1)) hr k
theorem x_iinc7 {a0 a1 a2 a3 a4 a5 a6 : Option Value} {tl : List (Option Value)} {x : Int32} {z : Int} (v : Int32) (hd : decode F.2.1.2.1 pc = .ok (.iinc 7 z, 3)) (hv : x + Int32.ofInt z = v) (hn : Nat.ble 8 F.2.1.2.2.1 = true) (hp : oc1 a6 = true) (hr : F.2.2.2.2.2.all (fun q => !(q.1 == 7) && !(q.1 + 1 == 7)) = true) (k : xV F (pc + 3) (a0 :: a1 :: a2 :: a3 :: a4 :: a5 :: a6 :: some (.int v) :: tl) st n h ce sl) : xV F pc (a0 :: a1 :: a2 :: a3 :: a4 :: a5 :: a6 :: some (.int x) :: tl) st n h ce sl := y_iinc (i := 7) rfl hd hv (Nat.le_of_ble_eq_true hn) (fun w _ h1 => oc1_of hp w (Option.some.inj h1)) hr k
theorem x_iload8 {a0 a1 a2 a3 a4 a5 a6 a7 : Option Value} {tl : List (Option Value)} {x : Int32} (hd : decode F.2.1.2.1 pc = .ok (.iload 8, 2)) (k : xV F (pc + 2) (a0 :: a1 :: a2 :: a3 :: a4 :: a5 :: a6 :: a7 :: some (.int x) :: tl) (.int x :: st) n h ce sl) : xV F pc (a0 :: a1 :: a2 :: a3 :: a4 :: a5 :: a6 :: a7 :: some (.int x) :: tl) st n h ce sl := y_iload_w (i := 8) rfl hd k
theorem x_lload8 {a0 a1 a2 a3 a4 a5 a6 a7 : Option Value} {tl : List (Option Value)} {x : Int64} (hd : decode F.2.1.2.1 pc = .ok (.lload 8, 2)) (k : xV F (pc + 2) (a0 :: a1 :: a2 :: a3 :: a4 :: a5 :: a6 :: a7 :: some (.long x) :: tl) (.long x :: st) n h ce sl) : xV F pc (a0 :: a1 :: a2 :: a3 :: a4 :: a5 :: a6 :: a7 :: some (.long x) :: tl) st n h ce sl := y_lload_w (i := 8) rfl hd k
theorem x_aload8 {a0 a1 a2 a3 a4 a5 a6 a7 : Option Value} {tl : List (Option Value)} {x : Nat} (hd : decode F.2.1.2.1 pc = .ok (.aload 8, 2)) (k : xV F (pc + 2) (a0 :: a1 :: a2 :: a3 :: a4 :: a5 :: a6 :: a7 :: some (.ref x) :: tl) (.ref x :: st) n h ce sl) : xV F pc (a0 :: a1 :: a2 :: a3 :: a4 :: a5 :: a6 :: a7 :: some (.ref x) :: tl) st n h ce sl := y_aload_w (i := 8) rfl hd k
theorem x_aloadN8 {a0 a1 a2 a3 a4 a5 a6 a7 : Option Value} {tl : List (Option Value)} (hd : decode F.2.1.2.1 pc = .ok (.aload 8, 2)) (k : xV F (pc + 2) (a0 :: a1 :: a2 :: a3 :: a4 :: a5 :: a6 :: a7 :: some .null :: tl) (.null :: st) n h ce sl) : xV F pc (a0 :: a1 :: a2 :: a3 :: a4 :: a5 :: a6 :: a7 :: some .null :: tl) st n h ce sl := y_aloadN_w (i := 8) rfl hd k
theorem x_istore8 {a0 a1 a2 a3 a4 a5 a6 a7 : Option Value} {tl : List (Option Value)} {b : Option Value} {x : Int32} (hd : decode F.2.1.2.1 pc = .ok (.istore 8, 2)) (hn : Nat.ble 9 F.2.1.2.2.1 = true) (hp : oc1 a7 = true) (hr : F.2.2.2.2.2.all (fun q => !(q.1 == 8) && !(q.1 + 1 == 8)) = true) (k : xV F (pc + 2) (a0 :: a1 :: a2 :: a3 :: a4 :: a5 :: a6 :: a7 :: some (.int x) :: tl) st n h ce sl) : xV F pc (a0 :: a1 :: a2 :: a3 :: a4 :: a5 :: a6 :: a7 :: b :: tl) (.int x :: st) n h ce sl := y_istore_w (i := 8) hd (Nat.le_of_ble_eq_true hn) (by simp) (fun w _ h1 => oc1_of hp w (Option.some.inj h1)) hr k
theorem x_astore8 {a0 a1 a2 a3 a4 a5 a6 a7 : Option Value} {tl : List (Option Value)} {b : Option Value} {x : Nat} (hd : decode F.2.1.2.1 pc = .ok (.astore 8, 2)) (hn : Nat.ble 9 F.2.1.2.2.1 = true) (hp : oc1 a7 = true) (hr : F.2.2.2.2.2.all (fun q => !(q.1 == 8) && !(q.1 + 1 == 8)) = true) (k : xV F (pc + 2) (a0 :: a1 :: a2 :: a3 :: a4 :: a5 :: a6 :: a7 :: some (.ref x) :: tl) st n h ce sl) : xV F pc (a0 :: a1 :: a2 :: a3 :: a4 :: a5 :: a6 :: a7 :: b :: tl) (.ref x :: st) n h ce sl := y_astore_w (i := 8) hd (Nat.le_of_ble_eq_true hn) (by simp) (fun w _ h1 => oc1_of hp w (Option.some.inj h1)) hr k
theorem x_astoreN8 {a0 a1 a2 a3 a4 a5 a6 a7 : Option Value} {tl : List (Option Value)} {b : Option Value} (hd : decode F.2.1.2.1 pc = .ok (.astore 8, 2)) (hn : Nat.ble 9 F.2.1.2.2.1 = true) (hp : oc1 a7 = true) (hr : F.2.2.2.2.2.all (fun q => !(q.1 == 8) && !(q.1 + 1 == 8)) = true) (k : xV F (pc + 2) (a0 :: a1 :: a2 :: a3 :: a4 :: a5 :: a6 :: a7 :: some (.null) :: tl) st n h ce sl) : xV F pc (a0 :: a1 :: a2 :: a3 :: a4 :: a5 :: a6 :: a7 :: b :: tl) (.null :: st) n h ce sl := y_astoreN_w (i := 8) hd (Nat.le_of_ble_eq_true hn) (by simp) (fun w _ h1 => oc1_of hp w (Option.some.inj h1)) hr k
theorem x_lstore8 {a0 a1 a2 a3 a4 a5 a6 a7 : Option Value} {tl : List (Option Value)} {b b2 : Option Value} {x : Int64} (hd : decode F.2.1.2.1 pc = .ok (.lstore 8, 2)) (hn : Nat.ble 10 F.2.1.2.2.1 = true) (hp : oc1 a7 = true) (hr : F.2.2.2.2.2.all (fun q => !(q.1 == 8) && !(q.1 + 1 == 8) && !(q.1 == 8 + 1)) = true) (k : xV F (pc + 2) (a0 :: a1 :: a2 :: a3 :: a4 :: a5 :: a6 :: a7 :: some (.long x) :: none :: tl) st n h ce sl) : xV F pc (a0 :: a1 :: a2 :: a3 :: a4 :: a5 :: a6 :: a7 :: b :: b2 :: tl) (.long x :: st) n h ce sl := y_lstore_w (i := 8) hd (Nat.le_of_ble_eq_true hn) (by simp) (fun w _ h1 => oc1_of hp w (Option.some.inj h1)) hr k
theorem x_iinc8 {a0 a1 a2 a3 a4 a5 a6 a7 : Option Value} {tl : List (Option Value)} {x : Int32} {z : Int} (v : Int32) (hd : decode F.2.1.2.1 pc = .ok (.iinc 8 z, 3)) (hv : x + Int32.ofInt z = v) (hn : Nat.ble 9 F.2.1.2.2.1 = true) (hp : oc1 a7 = true) (hr : F.2.2.2.2.2.all (fun q => !(q.1 == 8) && !(q.1 + 1 == 8)) = true) (k : xV F (pc + 3) (a0 :: a1 :: a2 :: a3 :: a4 :: a5 :: a6 :: a7 :: some (.int v) :: tl) st n h ce sl) : xV F pc (a0 :: a1 :: a2 :: a3 :: a4 :: a5 :: a6 :: a7 :: some (.int x) :: tl) st n h ce sl := y_iinc (i := 8) rfl hd hv (Nat.le_of_ble_eq_true hn) (fun w _ h1 => oc1_of hp w (Option.some.inj h1)) hr k
theorem x_iload9 {a0 a1 a2 a3 a4 a5 a6 a7 a8 : Option Value} {tl : List (Option Value)} {x : Int32} (hd : decode F.2.1.2.1 pc = .ok (.iload 9, 2)) (k : xV F (pc + 2) (a0 :: a1 :: a2 :: a3 :: a4 :: a5 :: a6 :: a7 :: a8 :: some (.int x) :: tl) (.int x :: st) n h ce sl) : xV F pc (a0 :: a1 :: a2 :: a3 :: a4 :: a5 :: a6 :: a7 :: a8 :: some (.int x) :: tl) st n h ce sl := y_iload_w (i := 9) rfl hd k
theorem x_lload9 {a0 a1 a2 a3 a4 a5 a6 a7 a8 : Option Value} {tl : List (Option Value)} {x : Int64} (hd : decode F.2.1.2.1 pc = .ok (.lload 9, 2)) (k : xV F (pc + 2) (a0 :: a1 :: a2 :: a3 :: a4 :: a5 :: a6 :: a7 :: a8 :: some (.long x) :: tl) (.long x :: st) n h ce sl) : xV F pc (a0 :: a1 :: a2 :: a3 :: a4 :: a5 :: a6 :: a7 :: a8 :: some (.long x) :: tl) st n h ce sl := y_lload_w (i := 9) rfl hd k
theorem x_aload9 {a0 a1 a2 a3 a4 a5 a6 a7 a8 : Option Value} {tl : List (Option Value)} {x : Nat} (hd : decode F.2.1.2.1 pc = .ok (.aload 9, 2)) (k : xV F (pc + 2) (a0 :: a1 :: a2 :: a3 :: a4 :: a5 :: a6 :: a7 :: a8 :: some (.ref x) :: tl) (.ref x :: st) n h ce sl) : xV F pc (a0 :: a1 :: a2 :: a3 :: a4 :: a5 :: a6 :: a7 :: a8 :: some (.ref x) :: tl) st n h ce sl := y_aload_w (i := 9) rfl hd k
theorem x_aloadN9 {a0 a1 a2 a3 a4 a5 a6 a7 a8 : Option Value} {tl : List (Option Value)} (hd : decode F.2.1.2.1 pc = .ok (.aload 9, 2)) (k : xV F (pc + 2) (a0 :: a1 :: a2 :: a3 :: a4 :: a5 :: a6 :: a7 :: a8 :: some .null :: tl) (.null :: st) n h ce sl) : xV F pc (a0 :: a1 :: a2 :: a3 :: a4 :: a5 :: a6 :: a7 :: a8 :: some .null :: tl) st n h ce sl := y_aloadN_w (i := 9) rfl hd k
theorem x_istore9 {a0 a1 a2 a3 a4 a5 a6 a7 a8 : Option Value} {tl : List (Option Value)} {b : Option Value} {x : Int32} (hd : decode F.2.1.2.1 pc = .ok (.istore 9, 2)) (hn : Nat.ble 10 F.2.1.2.2.1 = true) (hp : oc1 a8 = true) (hr : F.2.2.2.2.2.all (fun q => !(q.1 == 9) && !(q.1 + 1 == 9)) = true) (k : xV F (pc + 2) (a0 :: a1 :: a2 :: a3 :: a4 :: a5 :: a6 :: a7 :: a8 :: some (.int x) :: tl) st n h ce sl) : xV F pc (a0 :: a1 :: a2 :: a3 :: a4 :: a5 :: a6 :: a7 :: a8 :: b :: tl) (.int x :: st) n h ce sl := y_istore_w (i := 9) hd (Nat.le_of_ble_eq_true hn) (by simp) (fun w _ h1 => oc1_of hp w (Option.some.inj h1)) hr k
theorem x_astore9 {a0 a1 a2 a3 a4 a5 a6 a7 a8 : Option Value} {tl : List (Option Value)} {b : Option Value} {x : Nat} (hd : decode F.2.1.2.1 pc = .ok (.astore 9, 2)) (hn : Nat.ble 10 F.2.1.2.2.1 = true) (hp : oc1 a8 = true) (hr : F.2.2.2.2.2.all (fun q => !(q.1 == 9) && !(q.1 + 1 == 9)) = true) (k : xV F (pc + 2) (a0 :: a1 :: a2 :: a3 :: a4 :: a5 :: a6 :: a7 :: a8 :: some (.ref x) :: tl) st n h ce sl) : xV F pc (a0 :: a1 :: a2 :: a3 :: a4 :: a5 :: a6 :: a7 :: a8 :: b :: tl) (.ref x :: st) n h ce sl := y_astore_w (i := 9) hd (Nat.le_of_ble_eq_true hn) (by simp) (fun w _ h1 => oc1_of hp w (Option.some.inj h1)) hr k
theorem x_astoreN9 {a0 a1 a2 a3 a4 a5 a6 a7 a8 : Option Value} {tl : List (Option Value)} {b : Option Value} (hd : decode F.2.1.2.1 pc = .ok (.astore 9, 2)) (hn : Nat.ble 10 F.2.1.2.2.1 = true) (hp : oc1 a8 = true) (hr : F.2.2.2.2.2.all (fun q => !(q.1 == 9) && !(q.1 + 1 == 9)) = true) (k : xV F (pc + 2) (a0 :: a1 :: a2 :: a3 :: a4 :: a5 :: a6 :: a7 :: a8 :: some (.null) :: tl) st n h ce sl) : xV F pc (a0 :: a1 :: a2 :: a3 :: a4 :: a5 :: a6 :: a7 :: a8 :: b :: tl) (.null :: st) n h ce sl := y_astoreN_w (i := 9) hd (Nat.le_of_ble_eq_true hn) (by simp) (fun w _ h1 => oc1_of hp w (Option.some.inj h1)) hr k
theorem x_lstore9 {a0 a1 a2 a3 a4 a5 a6 a7 a8 : Option Value} {tl : List (Option Value)} {b b2 : Option Value} {x : Int64} (hd : decode F.2.1.2.1 pc = .ok (.lstore 9, 2)) (hn : Nat.ble 11 F.2.1.2.2.1 = true) (hp : oc1 a8 = true) (hr : F.2.2.2.2.2.all (fun q => !(q.1 == 9) && !(q.1 + 1 == 9) && !(q.1 == 9 + 1)) = true) (k : xV F (pc + 2) (a0 :: a1 :: a2 :: a3 :: a4 :: a5 :: a6 :: a7 :: a8 :: some (.long x) :: none :: tl) st n h ce sl) : xV F pc (a0 :: a1 :: a2 :: a3 :: a4 :: a5 :: a6 :: a7 :: a8 :: b :: b2 :: tl) (.long x :: st) n h ce sl := y_lstore_w (i := 9) hd (Nat.le_of_ble_eq_true hn) (by simp) (fun w _ h1 => oc1_of hp w (Option.some.inj h1)) hr k
theorem x_iinc9 {a0 a1 a2 a3 a4 a5 a6 a7 a8 : Option Value} {tl : List (Option Value)} {x : Int32} {z : Int} (v : Int32) (hd : decode F.2.1.2.1 pc = .ok (.iinc 9 z, 3)) (hv : x + Int32.ofInt z = v) (hn : Nat.ble 10 F.2.1.2.2.1 = true) (hp : oc1 a8 = true) (hr : F.2.2.2.2.2.all (fun q => !(q.1 == 9) && !(q.1 + 1 == 9)) = true) (k : xV F (pc + 3) (a0 :: a1 :: a2 :: a3 :: a4 :: a5 :: a6 :: a7 :: a8 :: some (.int v) :: tl) st n h ce sl) : xV F pc (a0 :: a1 :: a2 :: a3 :: a4 :: a5 :: a6 :: a7 :: a8 :: some (.int x) :: tl) st n h ce sl := y_iinc (i := 9) rfl hd hv (Nat.le_of_ble_eq_true hn) (fun w _ h1 => oc1_of hp w (Option.some.inj h1)) hr k
theorem x_iload10 {a0 a1 a2 a3 a4 a5 a6 a7 a8 a9 : Option Value} {tl : List (Option Value)} {x : Int32} (hd : decode F.2.1.2.1 pc = .ok (.iload 10, 2)) (k : xV F (pc + 2) (a0 :: a1 :: a2 :: a3 :: a4 :: a5 :: a6 :: a7 :: a8 :: a9 :: some (.int x) :: tl) (.int x :: st) n h ce sl) : xV F pc (a0 :: a1 :: a2 :: a3 :: a4 :: a5 :: a6 :: a7 :: a8 :: a9 :: some (.int x) :: tl) st n h ce sl := y_iload_w (i := 10) rfl hd k
theorem x_lload10 {a0 a1 a2 a3 a4 a5 a6 a7 a8 a9 : Option Value} {tl : List (Option Value)} {x : Int64} (hd : decode F.2.1.2.1 pc = .ok (.lload 10, 2)) (k : xV F (pc + 2) (a0 :: a1 :: a2 :: a3 :: a4 :: a5 :: a6 :: a7 :: a8 :: a9 :: some (.long x) :: tl) (.long x :: st) n h ce sl) : xV F pc (a0 :: a1 :: a2 :: a3 :: a4 :: a5 :: a6 :: a7 :: a8 :: a9 :: some (.long x) :: tl) st n h ce sl := y_lload_w (i := 10) rfl hd k
theorem x_aload10 {a0 a1 a2 a3 a4 a5 a6 a7 a8 a9 : Option Value} {tl : List (Option Value)} {x : Nat} (hd : decode F.2.1.2.1 pc = .ok (.aload 10, 2)) (k : xV F (pc + 2) (a0 :: a1 :: a2 :: a3 :: a4 :: a5 :: a6 :: a7 :: a8 :: a9 :: some (.ref x) :: tl) (.ref x :: st) n h ce sl) : xV F pc (a0 :: a1 :: a2 :: a3 :: a4 :: a5 :: a6 :: a7 :: a8 :: a9 :: some (.ref x) :: tl) st n h ce sl := y_aload_w (i := 10) rfl hd k
theorem x_aloadN10 {a0 a1 a2 a3 a4 a5 a6 a7 a8 a9 : Option Value} {tl : List (Option Value)} (hd : decode F.2.1.2.1 pc = .ok (.aload 10, 2)) (k : xV F (pc + 2) (a0 :: a1 :: a2 :: a3 :: a4 :: a5 :: a6 :: a7 :: a8 :: a9 :: some .null :: tl) (.null :: st) n h ce sl) : xV F pc (a0 :: a1 :: a2 :: a3 :: a4 :: a5 :: a6 :: a7 :: a8 :: a9 :: some .null :: tl) st n h ce sl := y_aloadN_w (i := 10) rfl hd k
theorem x_istore10 {a0 a1 a2 a3 a4 a5 a6 a7 a8 a9 : Option Value} {tl : List (Option Value)} {b : Option Value} {x : Int32} (hd : decode F.2.1.2.1 pc = .ok (.istore 10, 2)) (hn : Nat.ble 11 F.2.1.2.2.1 = true) (hp : oc1 a9 = true) (hr : F.2.2.2.2.2.all (fun q => !(q.1 == 10) && !(q.1 + 1 == 10)) = true) (k : xV F (pc + 2) (a0 :: a1 :: a2 :: a3 :: a4 :: a5 :: a6 :: a7 :: a8 :: a9 :: some (.int x) :: tl) st n h ce sl) : xV F pc (a0 :: a1 :: a2 :: a3 :: a4 :: a5 :: a6 :: a7 :: a8 :: a9 :: b :: tl) (.int x :: st) n h ce sl := y_istore_w (i := 10) hd (Nat.le_of_ble_eq_true hn) (by simp) (fun w _ h1 => oc1_of hp w (Option.some.inj h1)) hr k
theorem x_astore10 {a0 a1 a2 a3 a4 a5 a6 a7 a8 a9 : Option Value} {tl : List (Option Value)} {b : Option Value} {x : Nat} (hd : decode F.2.1.2.1 pc = .ok (.astore 10, 2)) (hn : Nat.ble 11 F.2.1.2.2.1 = true) (hp : oc1 a9 = true) (hr : F.2.2.2.2.2.all (fun q => !(q.1 == 10) && !(q.1 + 1 == 10)) = true) (k : xV F (pc + 2) (a0 :: a1 :: a2 :: a3 :: a4 :: a5 :: a6 :: a7 :: a8 :: a9 :: some (.ref x) :: tl) st n h ce sl) : xV F pc (a0 :: a1 :: a2 :: a3 :: a4 :: a5 :: a6 :: a7 :: a8 :: a9 :: b :: tl) (.ref x :: st) n h ce sl := y_astore_w (i := 10) hd (Nat.le_of_ble_eq_true hn) (by simp) (fun w _ h1 => oc1_of hp w (Option.some.inj h1)) hr k
theorem x_astoreN10 {a0 a1 a2 a3 a4 a5 a6 a7 a8 a9 : Option Value} {tl : List (Option Value)} {b : Option Value} (hd : decode F.2.1.2.1 pc = .ok (.astore 10, 2)) (hn : Nat.ble 11 F.2.1.2.2.1 = true) (hp : oc1 a9 = true) (hr : F.2.2.2.2.2.all (fun q => !(q.1 == 10) && !(q.1 + 1 == 10)) = true) (k : xV F (pc + 2) (a0 :: a1 :: a2 :: a3 :: a4 :: a5 :: a6 :: a7 :: a8 :: a9 :: some (.null) :: tl) st n h ce sl) : xV F pc (a0 :: a1 :: a2 :: a3 :: a4 :: a5 :: a6 :: a7 :: a8 :: a9 :: b :: tl) (.null :: st) n h ce sl := y_astoreN_w (i := 10) hd (Nat.le_of_ble_eq_true hn) (by simp) (fun w _ h1 => oc1_of hp w (Option.some.inj h1)) hr k
theorem x_lstore10 {a0 a1 a2 a3 a4 a5 a6 a7 a8 a9 : Option Value} {tl : List (Option Value)} {b b2 : Option Value} {x : Int64} (hd : decode F.2.1.2.1 pc = .ok (.lstore 10, 2)) (hn : Nat.ble 12 F.2.1.2.2.1 = true) (hp : oc1 a9 = true) (hr : F.2.2.2.2.2.all (fun q => !(q.1 == 10) && !(q.1 + 1 == 10) && !(q.1 == 10 + 1)) = true) (k : xV F (pc + 2) (a0 :: a1 :: a2 :: a3 :: a4 :: a5 :: a6 :: a7 :: a8 :: a9 :: some (.long x) :: none :: tl) st n h ce sl) : xV F pc (a0 :: a1 :: a2 :: a3 :: a4 :: a5 :: a6 :: a7 :: a8 :: a9 :: b :: b2 :: tl) (.long x :: st) n h ce sl := y_lstore_w (i := 10) hd (Nat.le_of_ble_eq_true hn) (by simp) (fun w _ h1 => oc1_of hp w (Option.some.inj h1)) hr k
theorem x_iinc10 {a0 a1 a2 a3 a4 a5 a6 a7 a8 a9 : Option Value} {tl : List (Option Value)} {x : Int32} {z : Int} (v : Int32) (hd : decode F.2.1.2.1 pc = .ok (.iinc 10 z, 3)) (hv : x + Int32.ofInt z = v) (hn : Nat.ble 11 F.2.1.2.2.1 = true) (hp : oc1 a9 = true) (hr : F.2.2.2.2.2.all (fun q => !(q.1 == 10) && !(q.1 + 1 == 10)) = true) (k : xV F (pc + 3) (a0 :: a1 :: a2 :: a3 :: a4 :: a5 :: a6 :: a7 :: a8 :: a9 :: some (.int v) :: tl) st n h ce sl) : xV F pc (a0 :: a1 :: a2 :: a3 :: a4 :: a5 :: a6 :: a7 :: a8 :: a9 :: some (.int x) :: tl) st n h ce sl := y_iinc (i := 10) rfl hd hv (Nat.le_of_ble_eq_true hn) (fun w _ h1 => oc1_of hp w (Option.some.inj h1)) hr k
theorem x_iload11 {a0 a1 a2 a3 a4 a5 a6 a7 a8 a9 a10 : Option Value} {tl : List (Option Value)} {x : Int32} (hd : decode F.2.1.2.1 pc = .ok (.iload 11, 2)) (k : xV F (pc + 2) (a0 :: a1 :: a2 :: a3 :: a4 :: a5 :: a6 :: a7 :: a8 :: a9 :: a10 :: some (.int x) :: tl) (.int x :: st) n h ce sl) : xV F pc (a0 :: a1 :: a2 :: a3 :: a4 :: a5 :: a6 :: a7 :: a8 :: a9 :: a10 :: some (.int x) :: tl) st n h ce sl := y_iload_w (i := 11) rfl hd k
theorem x_lload11 {a0 a1 a2 a3 a4 a5 a6 a7 a8 a9 a10 : Option Value} {tl : List (Option Value)} {x : Int64} (hd : decode F.2.1.2.1 pc = .ok (.lload 11, 2)) (k : xV F (pc + 2) (a0 :: a1 :: a2 :: a3 :: a4 :: a5 :: a6 :: a7 :: a8 :: a9 :: a10 :: some (.long x) :: tl) (.long x :: st) n h ce sl) : xV F pc (a0 :: a1 :: a2 :: a3 :: a4 :: a5 :: a6 :: a7 :: a8 :: a9 :: a10 :: some (.long x) :: tl) st n h ce sl := y_lload_w (i := 11) rfl hd k
theorem x_aload11 {a0 a1 a2 a3 a4 a5 a6 a7 a8 a9 a10 : Option Value} {tl : List (Option Value)} {x : Nat} (hd : decode F.2.1.2.1 pc = .ok (.aload 11, 2)) (k : xV F (pc + 2) (a0 :: a1 :: a2 :: a3 :: a4 :: a5 :: a6 :: a7 :: a8 :: a9 :: a10 :: some (.ref x) :: tl) (.ref x :: st) n h ce sl) : xV F pc (a0 :: a1 :: a2 :: a3 :: a4 :: a5 :: a6 :: a7 :: a8 :: a9 :: a10 :: some (.ref x) :: tl) st n h ce sl := y_aload_w (i := 11) rfl hd k
theorem x_aloadN11 {a0 a1 a2 a3 a4 a5 a6 a7 a8 a9 a10 : Option Value} {tl : List (Option Value)} (hd : decode F.2.1.2.1 pc = .ok (.aload 11, 2)) (k : xV F (pc + 2) (a0 :: a1 :: a2 :: a3 :: a4 :: a5 :: a6 :: a7 :: a8 :: a9 :: a10 :: some .null :: tl) (.null :: st) n h ce sl) : xV F pc (a0 :: a1 :: a2 :: a3 :: a4 :: a5 :: a6 :: a7 :: a8 :: a9 :: a10 :: some .null :: tl) st n h ce sl := y_aloadN_w (i := 11) rfl hd k
theorem x_istore11 {a0 a1 a2 a3 a4 a5 a6 a7 a8 a9 a10 : Option Value} {tl : List (Option Value)} {b : Option Value} {x : Int32} (hd : decode F.2.1.2.1 pc = .ok (.istore 11, 2)) (hn : Nat.ble 12 F.2.1.2.2.1 = true) (hp : oc1 a10 = true) (hr : F.2.2.2.2.2.all (fun q => !(q.1 == 11) && !(q.1 + 1 == 11)) = true) (k : xV F (pc + 2) (a0 :: a1 :: a2 :: a3 :: a4 :: a5 :: a6 :: a7 :: a8 :: a9 :: a10 :: some (.int x) :: tl) st n h ce sl) : xV F pc (a0 :: a1 :: a2 :: a3 :: a4 :: a5 :: a6 :: a7 :: a8 :: a9 :: a10 :: b :: tl) (.int x :: st) n h ce sl := y_istore_w (i := 11) hd (Nat.le_of_ble_eq_true hn) (by simp) (fun w _ h1 => oc1_of hp w (Option.some.inj h1)) hr k
theorem x_astore11 {a0 a1 a2 a3 a4 a5 a6 a7 a8 a9 a10 : Option Value} {tl : List (Option Value)} {b : Option Value} {x : Nat} (hd : decode F.2.1.2.1 pc = .ok (.astore 11, 2)) (hn : Nat.ble 12 F.2.1.2.2.1 = true) (hp : oc1 a10 = true) (hr : F.2.2.2.2.2.all (fun q => !(q.1 == 11) && !(q.1 + 1 == 11)) = true) (k : xV F (pc + 2) (a0 :: a1 :: a2 :: a3 :: a4 :: a5 :: a6 :: a7 :: a8 :: a9 :: a10 :: some (.ref x) :: tl) st n h ce sl) : xV F pc (a0 :: a1 :: a2 :: a3 :: a4 :: a5 :: a6 :: a7 :: a8 :: a9 :: a10 :: b :: tl) (.ref x :: st) n h ce sl := y_astore_w (i := 11) hd (Nat.le_of_ble_eq_true hn) (by simp) (fun w _ h1 => oc1_of hp w (Option.some.inj h1)) hr k
theorem x_astoreN11 {a0 a1 a2 a3 a4 a5 a6 a7 a8 a9 a10 : Option Value} {tl : List (Option Value)} {b : Option Value} (hd : decode F.2.1.2.1 pc = .ok (.astore 11, 2)) (hn : Nat.ble 12 F.2.1.2.2.1 = true) (hp : oc1 a10 = true) (hr : F.2.2.2.2.2.all (fun q => !(q.1 == 11) && !(q.1 + 1 == 11)) = true) (k : xV F (pc + 2) (a0 :: a1 :: a2 :: a3 :: a4 :: a5 :: a6 :: a7 :: a8 :: a9 :: a10 :: some (.null) :: tl) st n h ce sl) : xV F pc (a0 :: a1 :: a2 :: a3 :: a4 :: a5 :: a6 :: a7 :: a8 :: a9 :: a10 :: b :: tl) (.null :: st) n h ce sl := y_astoreN_w (i := 11) hd (Nat.le_of_ble_eq_true hn) (by simp) (fun w _ h1 => oc1_of hp w (Option.some.inj h1)) hr k
theorem x_lstore11 {a0 a1 a2 a3 a4 a5 a6 a7 a8 a9 a10 : Option Value} {tl : List (Option Value)} {b b2 : Option Value} {x : Int64} (hd : decode F.2.1.2.1 pc = .ok (.lstore 11, 2)) (hn : Nat.ble 13 F.2.1.2.2.1 = true) (hp : oc1 a10 = true) (hr : F.2.2.2.2.2.all (fun q => !(q.1 == 11) && !(q.1 + 1 == 11) && !(q.1 == 11 + 1)) = true) (k : xV F (pc + 2) (a0 :: a1 :: a2 :: a3 :: a4 :: a5 :: a6 :: a7 :: a8 :: a9 :: a10 :: some (.long x) :: none :: tl) st n h ce sl) : xV F pc (a0 :: a1 :: a2 :: a3 :: a4 :: a5 :: a6 :: a7 :: a8 :: a9 :: a10 :: b :: b2 :: tl) (.long x :: st) n h ce sl := y_lstore_w (i := 11) hd (Nat.le_of_ble_eq_true hn) (by simp) (fun w _ h1 => oc1_of hp w (Option.some.inj h1)) hr k
theorem x_iinc11 {a0 a1 a2 a3 a4 a5 a6 a7 a8 a9 a10 : Option Value} {tl : List (Option Value)} {x : Int32} {z : Int} (v : Int32) (hd : decode F.2.1.2.1 pc = .ok (.iinc 11 z, 3)) (hv : x + Int32.ofInt z = v) (hn : Nat.ble 12 F.2.1.2.2.1 = true) (hp : oc1 a10 = true) (hr : F.2.2.2.2.2.all (fun q => !(q.1 == 11) && !(q.1 + 1 == 11)) = true) (k : xV F (pc + 3) (a0 :: a1 :: a2 :: a3 :: a4 :: a5 :: a6 :: a7 :: a8 :: a9 :: a10 :: some (.int v) :: tl) st n h ce sl) : xV F pc (a0 :: a1 :: a2 :: a3 :: a4 :: a5 :: a6 :: a7 :: a8 :: a9 :: a10 :: some (.int x) :: tl) st n h ce sl := y_iinc (i := 11) rfl hd hv (Nat.le_of_ble_eq_true hn) (fun w _ h1 => oc1_of hp w (Option.some.inj h1)) hr k
theorem x_iload12 {a0 a1 a2 a3 a4 a5 a6 a7 a8 a9 a10 a11 : Option Value} {tl : List (Option Value)} {x : Int32} (hd : decode F.2.1.2.1 pc = .ok (.iload 12, 2)) (k : xV F (pc + 2) (a0 :: a1 :: a2 :: a3 :: a4 :: a5 :: a6 :: a7 :: a8 :: a9 :: a10 :: a11 :: some (.int x) :: tl) (.int x :: st) n h ce sl) : xV F pc (a0 :: a1 :: a2 :: a3 :: a4 :: a5 :: a6 :: a7 :: a8 :: a9 :: a10 :: a11 :: some (.int x) :: tl) st n h ce sl := y_iload_w (i := 12) rfl hd k
theorem x_lload12 {a0 a1 a2 a3 a4 a5 a6 a7 a8 a9 a10 a11 : Option Value} {tl : List (Option Value)} {x : Int64} (hd : decode F.2.1.2.1 pc = .ok (.lload 12, 2)) (k : xV F (pc + 2) (a0 :: a1 :: a2 :: a3 :: a4 :: a5 :: a6 :: a7 :: a8 :: a9 :: a10 :: a11 :: some (.long x) :: tl) (.long x :: st) n h ce sl) : xV F pc (a0 :: a1 :: a2 :: a3 :: a4 :: a5 :: a6 :: a7 :: a8 :: a9 :: a10 :: a11 :: some (.long x) :: tl) st n h ce sl := y_lload_w (i := 12) rfl hd k
theorem x_aload12 {a0 a1 a2 a3 a4 a5 a6 a7 a8 a9 a10 a11 : Option Value} {tl : List (Option Value)} {x : Nat} (hd : decode F.2.1.2.1 pc = .ok (.aload 12, 2)) (k : xV F (pc + 2) (a0 :: a1 :: a2 :: a3 :: a4 :: a5 :: a6 :: a7 :: a8 :: a9 :: a10 :: a11 :: some (.ref x) :: tl) (.ref x :: st) n h ce sl) : xV F pc (a0 :: a1 :: a2 :: a3 :: a4 :: a5 :: a6 :: a7 :: a8 :: a9 :: a10 :: a11 :: some (.ref x) :: tl) st n h ce sl := y_aload_w (i := 12) rfl hd k
theorem x_aloadN12 {a0 a1 a2 a3 a4 a5 a6 a7 a8 a9 a10 a11 : Option Value} {tl : List (Option Value)} (hd : decode F.2.1.2.1 pc = .ok (.aload 12, 2)) (k : xV F (pc + 2) (a0 :: a1 :: a2 :: a3 :: a4 :: a5 :: a6 :: a7 :: a8 :: a9 :: a10 :: a11 :: some .null :: tl) (.null :: st) n h ce sl) : xV F pc (a0 :: a1 :: a2 :: a3 :: a4 :: a5 :: a6 :: a7 :: a8 :: a9 :: a10 :: a11 :: some .null :: tl) st n h ce sl := y_aloadN_w (i := 12) rfl hd k
theorem x_istore12 {a0 a1 a2 a3 a4 a5 a6 a7 a8 a9 a10 a11 : Option Value} {tl : List (Option Value)} {b : Option Value} {x : Int32} (hd : decode F.2.1.2.1 pc = .ok (.istore 12, 2)) (hn : Nat.ble 13 F.2.1.2.2.1 = true) (hp : oc1 a11 = true) (hr : F.2.2.2.2.2.all (fun q => !(q.1 == 12) && !(q.1 + 1 == 12)) = true) (k : xV F (pc + 2) (a0 :: a1 :: a2 :: a3 :: a4 :: a5 :: a6 :: a7 :: a8 :: a9 :: a10 :: a11 :: some (.int x) :: tl) st n h ce sl) : xV F pc (a0 :: a1 :: a2 :: a3 :: a4 :: a5 :: a6 :: a7 :: a8 :: a9 :: a10 :: a11 :: b :: tl) (.int x :: st) n h ce sl := y_istore_w (i := 12) hd (Nat.le_of_ble_eq_true hn) (by simp) (fun w _ h1 => oc1_of hp w (Option.some.inj h1)) hr k
theorem x_astore12 {a0 a1 a2 a3 a4 a5 a6 a7 a8 a9 a10 a11 : Option Value} {tl : List (Option Value)} {b : Option Value} {x : Nat} (hd : decode F.2.1.2.1 pc = .ok (.astore 12, 2)) (hn : Nat.ble 13 F.2.1.2.2.1 = true) (hp : oc1 a11 = true) (hr : F.2.2.2.2.2.all (fun q => !(q.1 == 12) && !(q.1 + 1 == 12)) = true) (k : xV F (pc + 2) (a0 :: a1 :: a2 :: a3 :: a4 :: a5 :: a6 :: a7 :: a8 :: a9 :: a10 :: a11 :: some (.ref x) :: tl) st n h ce sl) : xV F pc (a0 :: a1 :: a2 :: a3 :: a4 :: a5 :: a6 :: a7 :: a8 :: a9 :: a10 :: a11 :: b :: tl) (.ref x :: st) n h ce sl := y_astore_w (i := 12) hd (Nat.le_of_ble_eq_true hn) (by simp) (fun w _ h1 => oc1_of hp w (Option.some.inj h1)) hr k
theorem x_astoreN12 {a0 a1 a2 a3 a4 a5 a6 a7 a8 a9 a10 a11 : Option Value} {tl : List (Option Value)} {b : Option Value} (hd : decode F.2.1.2.1 pc = .ok (.astore 12, 2)) (hn : Nat.ble 13 F.2.1.2.2.1 = true) (hp : oc1 a11 = true) (hr : F.2.2.2.2.2.all (fun q => !(q.1 == 12) && !(q.1 + 1 == 12)) = true) (k : xV F (pc + 2) (a0 :: a1 :: a2 :: a3 :: a4 :: a5 :: a6 :: a7 :: a8 :: a9 :: a10 :: a11 :: some (.null) :: tl) st n h ce sl) : xV F pc (a0 :: a1 :: a2 :: a3 :: a4 :: a5 :: a6 :: a7 :: a8 :: a9 :: a10 :: a11 :: b :: tl) (.null :: st) n h ce sl := y_astoreN_w (i := 12) hd (Nat.le_of_ble_eq_true hn) (by simp) (fun w _ h1 => oc1_of hp w (Option.some.inj h1)) hr k
theorem x_lstore12 {a0 a1 a2 a3 a4 a5 a6 a7 a8 a9 a10 a11 : Option Value} {tl : List (Option Value)} {b b2 : Option Value} {x : Int64} (hd : decode F.2.1.2.1 pc = .ok (.lstore 12, 2)) (hn : Nat.ble 14 F.2.1.2.2.1 = true) (hp : oc1 a11 = true) (hr : F.2.2.2.2.2.all (fun q => !(q.1 == 12) && !(q.1 + 1 == 12) && !(q.1 == 12 + 1)) = true) (k : xV F (pc + 2) (a0 :: a1 :: a2 :: a3 :: a4 :: a5 :: a6 :: a7 :: a8 :: a9 :: a10 :: a11 :: some (.long x) :: none :: tl) st n h ce sl) : xV F pc (a0 :: a1 :: a2 :: a3 :: a4 :: a5 :: a6 :: a7 :: a8 :: a9 :: a10 :: a11 :: b :: b2 :: tl) (.long x :: st) n h ce sl := y_lstore_w (i := 12) hd (Nat.le_of_ble_eq_true hn) (by simp) (fun w _ h1 => oc1_of hp w (Option.some.inj h1)) hr k
theorem x_iinc12 {a0 a1 a2 a3 a4 a5 a6 a7 a8 a9 a10 a11 : Option Value} {tl : List (Option Value)} {x : Int32} {z : Int} (v : Int32) (hd : decode F.2.1.2.1 pc = .ok (.iinc 12 z, 3)) (hv : x + Int32.ofInt z = v) (hn : Nat.ble 13 F.2.1.2.2.1 = true) (hp : oc1 a11 = true) (hr : F.2.2.2.2.2.all (fun q => !(q.1 == 12) && !(q.1 + 1 == 12)) = true) (k : xV F (pc + 3) (a0 :: a1 :: a2 :: a3 :: a4 :: a5 :: a6 :: a7 :: a8 :: a9 :: a10 :: a11 :: some (.int v) :: tl) st n h ce sl) : xV F pc (a0 :: a1 :: a2 :: a3 :: a4 :: a5 :: a6 :: a7 :: a8 :: a9 :: a10 :: a11 :: some (.int x) :: tl) st n h ce sl := y_iinc (i := 12) rfl hd hv (Nat.le_of_ble_eq_true hn) (fun w _ h1 => oc1_of hp w (Option.some.inj h1)) hr k
end XP
end
section
/-! ===== contracts over xV, and the rules of the heap and of calls ===== -/
def vx_ws (mt : vx_M) : List Cond := .code mt.1 mt.2.1 mt.2.2.1 mt.2.2.2 :: lw_ok
def vx_rm (d mc ms : Nat) : Room := { frames := d, cells := mc, slots := ms, locals := 64 * d }
def vx_Qc (G : vx_G) (Q : Option Value → Nat → vx_H → Prop) : Array Value → State → Outcome → State → Prop := fun _ st oc t => (∃ (v : Option Value) (n : Nat) (h : vx_H), oc = .returned (v.map (rv G.2.2.2)) ∧ Q v n h ∧ HR G n h t.heap) ∧ va_F (fun q => G.2.2.2 ≤ q) st t
def vx_Pc (G : vx_G) (av : List Value) (n : Nat) (h : vx_H) : Array Value → State → Prop := va_Pc (av.map (rv G.2.2.2)) (fun U => HR G n h U.heap ∧ va_K G.2.1 vwCl (vx_ty G) U ∧ xN U)
/-- the contract of a method: from these arguments and this heap, at this depth, it ends with Q -/
def xK (G : vx_G) (mt : vx_M) (d : Nat) (av : List Value) (n : Nat) (h : vx_H) (mc ms : Nat) (Q : Option Value → Nat → vx_H → Prop) : Prop :=
  Met G.1 mt.1 (vx_ws mt) (vx_rm d mc ms) (vx_Pc G av n h) (vx_Qc G Q) mc ms (fun q => G.2.2.2 ≤ q)
theorem vx_blind (G : vx_G) (av : List Value) (n : Nat) (h : vx_H) : FrameBlind (vx_Pc G av n h) := by
  intro a U g mk q
  obtain ⟨q0, q1, q2, q3⟩ := q
  exact ⟨q0, q1, va_K.moved (u := U) (U := U.calling g mk a) (Vm.Alike.refl U.vm) q2, q3.blind⟩
/-- a method's own frame -/
abbrev mF (G : vx_G) (mt : vx_M) (d mc ms : Nat) (Q : Option Value → Nat → vx_H → Prop) : vx_F :=
  (G, mt, vx_rm d mc ms, fun below args s => MQ below (vx_Qc G Q) args s mc ms (fun q => G.2.2.2 ≤ q), fun _ => True, [])
/-- the locals at a method's entry -/
def lvI : List Value → List (Option Value)
  | [] => []
  | v :: vs => if v.category = 2 then some v :: none :: lvI vs else some v :: lvI vs
theorem lvI_args (b : Nat) : ∀ (i : Nat) (vs : List Value) (k : Nat), lvE b i (lvI vs ++ List.replicate k none) = lv_args i (vs.map (rv b))
  | i, [], k => by
    show lvE b i (List.replicate k none) = []
    induction k generalizing i with
    | zero => rfl
    | succ k ih => exact ih (i + 1)
  | i, v :: vs, k => by
    show lvE b i ((if v.category = 2 then some v :: none :: lvI vs else some v :: lvI vs) ++ _) = (i, rv b v) :: lv_args (if (rv b v).category = 2 then i + 2 else i + 1) (vs.map (rv b))
    rw [rv_cat]
    by_cases hc : v.category = 2
    · rw [if_pos hc, if_pos hc]
      exact congrArg _ (lvI_args b (i + 2) vs k)
    · rw [if_neg hc, if_neg hc]
      exact congrArg _ (lvI_args b (i + 1) vs k)
theorem lg_rv (b : Nat) : ∀ vs : List Value, (lg_sl (vs.map (rv b))).length = (lvI vs).length
  | [] => rfl
  | v :: vs => by
    have ih := lg_rv b vs
    simp only [lg_sl] at ih
    by_cases hc : v.category = 2
    · simp [lg_sl, lvI, rv_cat, hc, ih]
    · simp [lg_sl, lvI, rv_cat, hc, ih]
theorem xK.ofV {G : vx_G} {mt : vx_M} {d : Nat} {av : List Value} {n : Nat} {h : vx_H} {mc ms : Nat} {Q : Option Value → Nat → vx_H → Prop} (hp : plainName mt.1.cls = true) (ha : (lvI av).length ≤ mt.2.2.1)
    (k : xV (mF G mt d mc ms Q) 0 (lvI av ++ List.replicate (mt.2.2.1 - (lvI av).length) none) [] n h 0 0) : xK G mt d av n h mc ms Q := by
  refine Met.ofW (cc := mt.2.1) (maxL := mt.2.2.1) (ret := mt.2.2.2) hp rfl ?_
  intro p e s m args below meth c s₁ B hml hv
  obtain ⟨rfl, hH, hK, hN⟩ := hv
  have hts := atoms_spec (ws := vx_ws mt) B.pre
  have hown : s.vm.findClass mt.1.cls = some m.cls := findClass_of_methodNamed B.named
  have hl := lv_entry (av.map (rv G.2.2.2)) (n := mt.2.2.1) (by rw [lg_rv]; exact ha)
  rw [lg_entry_eq]
  refine k p e s m _ below meth c ⟨B.exec, B.bytes, B.returns, hml, hown, fun w hw => hts w (List.mem_cons_of_mem _ hw), B.notSynchronized, hK, ?_, (name_of_methodNamed B.named B.method).1, hN, trivial⟩ s.heap [] _ hH va_S.rf ?_
  · rw [hH.2]; exact Nat.le_add_right _ _
  · show lv_has _ mt.2.2.1 ([] ++ lvE G.2.2.2 0 (lvI av ++ _))
    rw [lvI_args]
    exact hl
section XH
variable {F : vx_F} {pc : Nat} {L : List (Option Value)} {st : List Value} {n : Nat} {h : vx_H} {ce sl : Nat}
theorem rv_narrow {b : Nat} {ty : FieldType} {v : Value} (hn : narrow ty v = v) : narrow ty (rv b v) = rv b v := by
  cases v with
  | ref a => cases ty <;> rfl
  | _ => exact hn
theorem rv_fits {b : Nat} {ty : FieldType} {v : Value} (hn : fits ty v = true) : fits ty (rv b v) = true := by
  cases v with
  | ref a => cases ty <;> first | exact hn | simp [fits] at hn
  | _ => exact hn
end XH
end
section
/-! ===== the heap's rules ===== -/
section XH
variable {F : vx_F} {pc : Nat} {L : List (Option Value)} {st : List Value} {n : Nat} {h : vx_H} {ce sl : Nat}
theorem HR.upd {G : vx_G} {a : Nat} {e : va_E} {H H1 : Heap} (hH : HR G n h H) (ha : a < n) (he : va_at G.2.1 vwCl (G.2.2.2 + a, cvE G e) H1) (hz : H1.size = H.size) (oq : ∀ q : Nat, q ≠ G.2.2.2 + a → H1[q]? = H[q]?) : HR G n (va_up h a e) H1 :=
  ⟨by rw [← wl_set]; exact hH.1.set (wl_D G n h) (wl_get ha) he oq, hz.trans hH.2⟩
theorem HR.lt {G : vx_G} {a : Nat} {H : Heap} (hH : HR G n h H) (ha : a < n) : G.2.2.2 + a < H.size := by rw [hH.2]; omega
theorem HR.cell {G : vx_G} {a : Nat} {H : Heap} (hH : HR G n h H) (ha : a < n) : va_at G.2.1 vwCl (G.2.2.2 + a, cvE G (h a)) H := hH.1 a _ (wl_get ha)
theorem HR.put {G : vx_G} {a k : Nat} {H0 H H1 : Heap} {locs : List Loc} (hS : va_S (fun q => G.2.2.2 ≤ q) H0 H locs) (z : H1.size = H.size) (oq : ∀ q : Nat, q ≠ G.2.2.2 + a → H1[q]? = H[q]?) : va_S (fun q => G.2.2.2 ≤ q) H0 H1 (locs ++ [⟨G.2.2.2 + a, k⟩]) := hS.put z oq (Nat.le_add_right _ _)
/-- fields -/
def xFG (own : String) (idx ci k : Nat) : Prop := ∃ (C : String) (T : u_T) (N : Nat), vwCl[ci]? = some (C, T, N) ∧ k < N ∧ Cond.fieldLink own idx (T k).1 (T k).2.1 (T k).2.2.1 ∈ lw_ok ∧ ∀ w ∈ u_ws C T N, w ∈ lw_ok
def xFP (own : String) (idx ci k : Nat) (ty : FieldType) (fin : Bool) : Prop := ∃ (C : String) (T : u_T) (N : Nat) (ty0 : Nat → FieldType), vwCl[ci]? = some (C, T, N) ∧ k < N ∧ Cond.fieldLink own idx (T k).1 (T k).2.1 (T k).2.2.1 ∈ lw_ok ∧ (∀ w ∈ u_ws C T N, w ∈ lw_ok) ∧ (∀ k, k < N → parseFieldDescriptor (T k).2.2.1 = some (ty0 k)) ∧ (∀ a, a < N → ∀ b, b < N → a ≠ b → (T a).2.1 ≠ (T b).2.1) ∧ (T k).2.2.2 = fin ∧ parseFieldDescriptor (T k).2.2.1 = some ty ∧ (fin = true → (T k).1 = own)
theorem x_getf {idx ci k : Nat} (hf : xFG F.2.1.1.cls idx ci k) {a : Nat} (ha : a < n) {fs : List Value} (he : h a = .inr (ci, fs)) {v : Value} (hv : fs[k]? = some v) (hd : decode F.2.1.2.1 pc = .ok (.getfield idx, 3))
    (kk : xV F (pc + 3) L (v :: st) n h ce sl) : xV F pc L (.ref a :: st) n h ce sl := by
  intro p e s m args below meth c X H locs ls hH hS hl
  obtain ⟨C, T, N, h1, h2, h3, h4⟩ := hf
  exact va_get (D := F.1.2.1) (cl := vwCl) (tys := vx_ty F.1) (ws := wl F.1 n h) (a := F.1.2.2.2 + a) (ref := (T k).1) X.1 X.2.1 X.2.2.2.2.2.1 h4 X.2.2.2.2.1 X.2.2.2.2.2.2.2.1 hH.1 a (fs := fs.map (rv F.1.2.2.2)) (by rw [wl_get ha, he]; rfl) h1 k h2 (X.2.2.2.2.2.1 _ h3) (fun _ h9 => h9) (v := rv F.1.2.2.2 v) (by rw [List.getElem?_map, hv]; rfl) hd (kk p e s m args below meth c X H locs ls hH hS hl)
theorem rv_set (b : Nat) (fs : List Value) (k : Nat) (v : Value) : (fs.set k v).map (rv b) = (fs.map (rv b)).set k (rv b v) := by rw [List.map_set]
theorem x_putf {idx ci k : Nat} {ty : FieldType} (hf : xFP F.2.1.1.cls idx ci k ty false) {a : Nat} (ha : a < n) {fs : List Value} (he : h a = .inr (ci, fs)) {v : Value} (hn : narrow ty v = v) (hfit : fits ty v = true) (hl0 : k < fs.length) (hd : decode F.2.1.2.1 pc = .ok (.putfield idx, 3))
    (kk : xV F (pc + 3) L st n (va_up h a (.inr (ci, fs.set k v))) ce sl) : xV F pc L (v :: .ref a :: st) n h ce sl := by
  intro p e s m args below meth c X H locs ls hH hS hl
  obtain ⟨C, T, N, ty0, hc, hk, hw, hin, hty, hnm, hfin, hd0, -⟩ := hf
  have hts := X.2.2.2.2.2.1
  have hown := X.2.2.2.2.1
  have hK := X.2.2.2.2.2.2.2.1
  have hap := va_apart (own := F.2.1.1.cls) hts hin ty0 hty hnm hK hc
  have hcell := hH.cell ha
  rw [he] at hcell
  obtain ⟨r, h1, cell, q1, q2, q3, q4⟩ := hcell
  have hr : r = (C, T, N) := Option.some.inj (h1.symm.trans hc)
  subst hr
  obtain ⟨hSl, hfc, kC, hkC, hkind⟩ := hK.1 ci _ hc
  obtain ⟨cf, kf, fi, f, hi, hsl⟩ := hSl k hk
  have hlay := hts _ (hin _ (u_in_lay hk))
  unfold u_lay at hlay
  rw [if_neg (by rw [hfin]; decide)] at hlay
  have hst := (u_facts hfc hkC (u_lays hts hin hk) hi).1
  have h6 := u_store hfc hkC hkind hlay hi hd0 (rv_narrow (b := F.1.2.2.2) hn) (rv_fits (b := F.1.2.2.2) hfit)
  refine W.putK X.1 X.2.1 (f := f) ⟨hown, hts _ hw, ⟨_, _, _, hi⟩, hst⟩ (by rw [q2]; exact h6) q1 q3 (by rw [hsl]; exact k2_hasslot (q4 k hk)) rfl rfl hd fun H' e1 e2 e3 => ?_
  rw [hsl] at e1 ⊢
  refine kk p e s m args below meth c X H' _ ls (hH.upd ha ⟨_, hc, t_OB.to (V := updV (vp_V (fs.map (rv F.1.2.2.2))) k (rv F.1.2.2.2 v)) ⟨_, e1, q2, q3, t_set q4 hap hk _⟩ (fun j _ => ?_)⟩ e2 e3) (HR.put hS e2 e3) hl
  rw [rv_set]
  exact vp_updV_set (by rw [List.length_map]; exact hl0) _ j
theorem x_putF {idx ci k : Nat} {ty : FieldType} (hf : xFP F.2.1.1.cls idx ci k ty true) {a : Nat} (ha : a < n) {fs : List Value} (he : h a = .inr (ci, fs)) {v : Value} (hini : F.2.1.1.name = "<init>") (hn : narrow ty v = v) (hfit : fits ty v = true) (hl0 : k < fs.length) (hd : decode F.2.1.2.1 pc = .ok (.putfield idx, 3))
    (kk : xV F (pc + 3) L st n (va_up h a (.inr (ci, fs.set k v))) ce sl) : xV F pc L (v :: .ref a :: st) n h ce sl := by
  intro p e s m args below meth c X H locs ls hH hS hl
  obtain ⟨C, T, N, ty0, hc, hk, hw, hin, hty, hnm, hfin, hd0, hdecl⟩ := hf
  have hts := X.2.2.2.2.2.1
  have hown := X.2.2.2.2.1
  have hK := X.2.2.2.2.2.2.2.1
  have hin2 : meth.name = "<init>" := X.2.2.2.2.2.2.2.2.2.1.trans hini
  have hap := va_apart (own := F.2.1.1.cls) hts hin ty0 hty hnm hK hc
  have hcell := hH.cell ha
  rw [he] at hcell
  obtain ⟨r, h1, cell, q1, q2, q3, q4⟩ := hcell
  have hr : r = (C, T, N) := Option.some.inj (h1.symm.trans hc)
  subst hr
  obtain ⟨hSl, hfc, kC, hkC, hkind⟩ := hK.1 ci _ hc
  obtain ⟨cf, kf, fi, f, hi, hsl⟩ := hSl k hk
  have hlay := hts _ (hin _ (u_in_lay hk))
  unfold u_lay at hlay
  rw [if_pos hfin] at hlay
  have hst := (u_facts hfc hkC (u_lays hts hin hk) hi).1
  have hcf : m.cls = cf := by
    obtain ⟨_, _, c', _, _, _, -, -, hf', -, -, -, hown2, -⟩ := Cond.laysFinal_spec hlay
    have e1 : c' = cf := by have := hi.symm.trans hf'; simp at this; exact this.1.symm
    rw [hdecl rfl] at hown2
    rw [← e1]; exact Option.some.inj (hown.symm.trans hown2)
  have h6 := u_fits hfc hkC hkind (Or.inr hlay) hi hd0 (rv_narrow (b := F.1.2.2.2) hn) (rv_fits (b := F.1.2.2.2) hfit)
  refine W.putFinK X.1 X.2.1 hown (hts _ hw) hi hst hcf hin2 (by rw [q2]; exact h6) q1 q3 (by rw [hsl]; exact k2_hasslot (q4 k hk)) rfl rfl hd fun H' e1 e2 e3 => ?_
  rw [hsl] at e1 ⊢
  refine kk p e s m args below meth c X H' _ ls (hH.upd ha ⟨_, hc, t_OB.to (V := updV (vp_V (fs.map (rv F.1.2.2.2))) k (rv F.1.2.2.2 v)) ⟨_, e1, q2, q3, t_set q4 hap hk _⟩ (fun j _ => ?_)⟩ e2 e3) (HR.put hS e2 e3) hl
  rw [rv_set]
  exact vp_updV_set (by rw [List.length_map]; exact hl0) _ j

theorem x_iald {a : Nat} (ha : a < n) {N : Nat} {f : Nat → Int32} (he : h a = .inl (0, N, .inl f)) {i : Int32} (hin : vp_in i N) (hd : decode F.2.1.2.1 pc = .ok (.iaload, 1))
    (kk : xV F (pc + 1) L (.int (f i.toNatClampNeg) :: st) n h ce sl) : xV F pc L (.int i :: .ref a :: st) n h ce sl := by
  intro p e s m args below meth c X H locs ls hH hS hl
  exact va_iald (D := F.1.2.1) (cl := vwCl) (tys := vx_ty F.1) (ws := wl F.1 n h) (a := F.1.2.2.2 + a) X.1 X.2.1 X.2.2.2.2.2.2.2.1 hH.1 a 0 (by rw [wl_get ha, he]; rfl) rfl hin hd (kk p e s m args below meth c X H locs ls hH hS hl)
theorem x_zald {a : Nat} (ha : a < n) {N : Nat} {f : Nat → Int32} (he : h a = .inl (1, N, .inl f)) {i : Int32} (hin : vp_in i N) (hd : decode F.2.1.2.1 pc = .ok (.baload, 1))
    (kk : xV F (pc + 1) L (.int (f i.toNatClampNeg) :: st) n h ce sl) : xV F pc L (.int i :: .ref a :: st) n h ce sl := by
  intro p e s m args below meth c X H locs ls hH hS hl
  exact va_zald (D := F.1.2.1) (cl := vwCl) (tys := vx_ty F.1) (ws := wl F.1 n h) (a := F.1.2.2.2 + a) X.1 X.2.1 X.2.2.2.2.2.2.2.1 hH.1 a 1 (by rw [wl_get ha, he]; rfl) rfl hin hd (kk p e s m args below meth c X H locs ls hH hS hl)
theorem x_lald {a : Nat} (ha : a < n) {N : Nat} {f : Nat → Int64} (he : h a = .inl (2, N, .inr (.inl f))) {i : Int32} (hin : vp_in i N) (hd : decode F.2.1.2.1 pc = .ok (.laload, 1))
    (kk : xV F (pc + 1) L (.long (f i.toNatClampNeg) :: st) n h ce sl) : xV F pc L (.int i :: .ref a :: st) n h ce sl := by
  intro p e s m args below meth c X H locs ls hH hS hl
  exact va_lald (D := F.1.2.1) (cl := vwCl) (tys := vx_ty F.1) (ws := wl F.1 n h) (a := F.1.2.2.2 + a) X.1 X.2.1 X.2.2.2.2.2.2.2.1 hH.1 a 2 (by rw [wl_get ha, he]; rfl) rfl hin hd (kk p e s m args below meth c X H locs ls hH hS hl)
theorem rv_rf (b : Nat) (r : Option Nat) : rv b (va_rf r) = va_rf (r.map (fun a => b + a)) := by cases r <;> rfl
theorem x_aald {t : Nat} (ht : t = 3 ∨ t = 4 ∨ t = 5 ∨ t = 6) {a : Nat} (ha : a < n) {N : Nat} {f : Nat → Option Nat} (he : h a = .inl (t, N, .inr (.inr (.inr (.inr f))))) {i : Int32} (hin : vp_in i N) (hd : decode F.2.1.2.1 pc = .ok (.aaload, 1))
    (kk : xV F (pc + 1) L (va_rf (f i.toNatClampNeg) :: st) n h ce sl) : xV F pc L (.int i :: .ref a :: st) n h ce sl := by
  intro p e s m args below meth c X H locs ls hH hS hl
  have k1 := kk p e s m args below meth c X H locs ls hH hS hl
  rw [List.map_cons, rv_rf] at k1
  have hcell := hH.cell ha
  rw [he] at hcell
  have hcell : H[F.1.2.2.2 + a]? = some (vp_cell (F.1.2.2.1 t) (N, .inr (.inr (.inr (.inr (fun i => (f i).map (fun a => F.1.2.2.2 + a))))))) := hcell
  have hlt : i.toNatClampNeg < N := Nat.not_le.mp fun q => hin (Or.inr q)
  have hK := X.2.2.2.2.2.2.2.1
  obtain ⟨ty, hty, harr⟩ : ∃ ty : FieldType, ty.isReference = true ∧ ArrOfT s (F.1.2.2.1 t) ty := by
    rcases ht with rfl | rfl | rfl | rfl
    · exact ⟨_, rfl, (hK.2 3 _ rfl).1⟩
    · exact ⟨_, rfl, (hK.2 4 _ rfl).1⟩
    · exact ⟨_, rfl, (hK.2 5 _ rfl).1⟩
    · exact ⟨_, rfl, (hK.2 6 _ rfl).1⟩
  exact W.aald (v := va_rf ((f i.toNatClampNeg).map (fun a => F.1.2.2.2 + a))) (ty := ty) X.1 X.2.1 hcell (harr N (fun j => va_rf ((f j).map (fun a => F.1.2.2.2 + a)))) hty (fun q => by cases q) (by show ¬ (i < 0 ∨ (arrV _ _ _).slots.size ≤ _); rw [arrV_size]; exact hin) (by show (arrV _ _ _).slots[_]? = _; rw [arrV_read _ _ hlt]) rfl rfl hd k1
theorem x_alen {t : Nat} (ht : t < 7) {a : Nat} (ha : a < n) {z : vp_A} (he : h a = .inl (t, z)) {v : Int32} (hv : Int32.ofNat z.1 = v) (hd : decode F.2.1.2.1 pc = .ok (.arraylength, 1))
    (kk : xV F (pc + 1) L (.int v :: st) n h ce sl) : xV F pc L (.ref a :: st) n h ce sl := by
  intro p e s m args below meth c X H locs ls hH hS hl
  have k1 := kk p e s m args below meth c X H locs ls hH hS hl
  have hz : (cvA F.1.2.2.2 z).1 = z.1 := by
    obtain ⟨N, f | f | f | f | f⟩ := z <;> rfl
  obtain ⟨ty, hty⟩ : ∃ ty : FieldType, (vx_ty F.1)[t]? = some (F.1.2.2.1 t, ty) := by
    rcases (show t = 0 ∨ t = 1 ∨ t = 2 ∨ t = 3 ∨ t = 4 ∨ t = 5 ∨ t = 6 by omega) with rfl | rfl | rfl | rfl | rfl | rfl | rfl <;> exact ⟨_, rfl⟩
  exact va_alen (D := F.1.2.1) (cl := vwCl) (tys := vx_ty F.1) (ws := wl F.1 n h) (a := F.1.2.2.2 + a) X.1 X.2.1 X.2.2.2.2.2.2.2.1 hH.1 a t (x := cvA F.1.2.2.2 z) (by rw [wl_get ha, he]; rfl) hty (by rw [hz]; exact hv) hd k1

theorem x_iast {a : Nat} (ha : a < n) {N : Nat} {f : Nat → Int32} (he : h a = .inl (0, N, .inl f)) {i : Int32} {x : Int32} (hin : vp_in i N) (hd : decode F.2.1.2.1 pc = .ok (.iastore, 1))
    (kk : xV F (pc + 1) L st n (va_up h a (.inl (0, N, .inl (upd f i.toNatClampNeg x)))) ce sl) : xV F pc L (.int x :: .int i :: .ref a :: st) n h ce sl := by
  intro p e s m args below meth c X H locs ls hH hS hl
  have hcell := hH.cell ha
  rw [he] at hcell
  have hK := X.2.2.2.2.2.2.2.1
  refine W.iast X.1 X.2.1 hcell ((hK.2 0 _ rfl).1 N (fun j => .int (f j))) (fun q => by cases q) (by show ¬ (i < 0 ∨ (arrV _ _ _).slots.size ≤ _); rw [arrV_size]; exact hin) rfl rfl hd fun H1 e1 z oq => ?_
  refine kk p e s m args below meth c X H1 _ ls (hH.upd ha ?_ z oq) (HR.put hS z oq) hl
  show H1[F.1.2.2.2 + a]? = some (vp_cell _ _)
  rw [e1]
  show some (Cell.setSlot (vp_cell _ (N, .inl f)) _ _) = some (vp_cell _ (N, .inl (upd f i.toNatClampNeg x)))
  rw [vp_cell_i, vp_cell_i, arrV_store]
  congr 2
  funext q
  by_cases hq : q = i.toNatClampNeg
  · subst hq
    simp [updV, upd]
    try rfl
  · simp [updV, upd, hq]
theorem x_zast {a : Nat} (ha : a < n) {N : Nat} {f : Nat → Int32} (he : h a = .inl (1, N, .inl f)) {i : Int32} {x : Int32} (hin : vp_in i N) (hd : decode F.2.1.2.1 pc = .ok (.bastore, 1))
    (kk : xV F (pc + 1) L st n (va_up h a (.inl (1, N, .inl (upd f i.toNatClampNeg (vp_nar .boolean x))))) ce sl) : xV F pc L (.int x :: .int i :: .ref a :: st) n h ce sl := by
  intro p e s m args below meth c X H locs ls hH hS hl
  have hcell := hH.cell ha
  rw [he] at hcell
  have hK := X.2.2.2.2.2.2.2.1
  refine W.zast X.1 X.2.1 hcell ((hK.2 1 _ rfl).1 N (fun j => .int (f j))) (fun q => by cases q) (by show ¬ (i < 0 ∨ (arrV _ _ _).slots.size ≤ _); rw [arrV_size]; exact hin) rfl rfl hd fun H1 e1 z oq => ?_
  refine kk p e s m args below meth c X H1 _ ls (hH.upd ha ?_ z oq) (HR.put hS z oq) hl
  show H1[F.1.2.2.2 + a]? = some (vp_cell _ _)
  rw [e1]
  show some (Cell.setSlot (vp_cell _ (N, .inl f)) _ _) = some (vp_cell _ (N, .inl (upd f i.toNatClampNeg (vp_nar .boolean x))))
  rw [vp_cell_i, vp_cell_i, arrV_store]
  congr 2
  funext q
  by_cases hq : q = i.toNatClampNeg
  · subst hq
    simp [updV, upd, vp_nar]
    try rfl
  · simp [updV, upd, vp_nar, hq]
theorem x_last {a : Nat} (ha : a < n) {N : Nat} {f : Nat → Int64} (he : h a = .inl (2, N, .inr (.inl f))) {i : Int32} {x : Int64} (hin : vp_in i N) (hd : decode F.2.1.2.1 pc = .ok (.lastore, 1))
    (kk : xV F (pc + 1) L st n (va_up h a (.inl (2, N, .inr (.inl (vp_updL f i.toNatClampNeg x))))) ce sl) : xV F pc L (.long x :: .int i :: .ref a :: st) n h ce sl := by
  intro p e s m args below meth c X H locs ls hH hS hl
  have hcell := hH.cell ha
  rw [he] at hcell
  have hK := X.2.2.2.2.2.2.2.1
  refine W.last X.1 X.2.1 hcell ((hK.2 2 _ rfl).1 N (fun j => .long (f j))) (fun q => by cases q) (by show ¬ (i < 0 ∨ (arrV _ _ _).slots.size ≤ _); rw [arrV_size]; exact hin) rfl rfl hd fun H1 e1 z oq => ?_
  refine kk p e s m args below meth c X H1 _ ls (hH.upd ha ?_ z oq) (HR.put hS z oq) hl
  show H1[F.1.2.2.2 + a]? = some (vp_cell _ _)
  rw [e1]
  show some (Cell.setSlot (vp_cell _ (N, .inr (.inl f))) _ _) = some (vp_cell _ (N, .inr (.inl (vp_updL f i.toNatClampNeg x))))
  rw [vp_cell_l, vp_cell_l, arrV_store]
  congr 2
  funext q
  by_cases hq : q = i.toNatClampNeg
  · subst hq
    simp [updV, vp_updL]
    try rfl
  · simp [updV, vp_updL, hq]
theorem x_aast {t ci : Nat} {C : String} {T : u_T} {M : Nat} (hc : vwCl[ci]? = some (C, T, M)) (ht : (vx_ty F.1)[t]? = some (F.1.2.2.1 t, .object C)) {a b : Nat} (ha : a < n) (hb : b < n) {N : Nat} {f : Nat → Option Nat} (he : h a = .inl (t, N, .inr (.inr (.inr (.inr f))))) {vs : List Value} (hv : h b = .inr (ci, vs)) {i : Int32} (hin : vp_in i N) (hd : decode F.2.1.2.1 pc = .ok (.aastore, 1))
    (kk : xV F (pc + 1) L st n (va_up h a (.inl (t, N, .inr (.inr (.inr (.inr (va_up f i.toNatClampNeg (some b)))))))) ce sl) : xV F pc L (.ref b :: .int i :: .ref a :: st) n h ce sl := by
  intro p e s m args below meth c X H locs ls hH hS hl
  have hcell := hH.cell ha
  rw [he] at hcell
  have hcell : H[F.1.2.2.2 + a]? = some (vp_cell (F.1.2.2.1 t) (N, .inr (.inr (.inr (.inr (fun i => (f i).map (fun a => F.1.2.2.2 + a))))))) := hcell
  have hcv := hH.cell hb
  rw [hv] at hcv
  obtain ⟨r', hr', cellV, g1, g2, g3, -⟩ := hcv
  have hK := X.2.2.2.2.2.2.2.1
  have hlt : i.toNatClampNeg < N := Nat.not_le.mp fun q => hin (Or.inr q)
  have h0 : ¬ i < 0 := fun q => hin (Or.inl q)
  have hcls := (hK.1 ci _ hc).2
  obtain ⟨kA, comp, k1, k2, k3, -⟩ := (hK.2 t _ ht).2
  have hcomp : comp = F.1.2.1.1 ci := Option.some.inj (k3.symm.trans hcls.1)
  subst hcomp
  obtain ⟨kC, hkC, -⟩ := hcls.2
  refine W.aast X.1 X.2.1 hcell (fun q h => by cases h) (fun h => by cases h) k1 k2 rfl hkC ⟨h0, by show _ < (arrV _ _ _).slots.size; rw [arrV_size]; exact hlt⟩ g1 (fun q h => by rw [g3] at h; cases h) (by rw [g2]; exact hkC) (by rw [g2]; exact va_assign hcls) rfl rfl hd fun H1 e1 z oq => ?_
  refine kk p e s m args below meth c X H1 _ ls (hH.upd ha ?_ z oq) (HR.put hS z oq) hl
  show H1[F.1.2.2.2 + a]? = some (vp_cell _ _)
  rw [e1]
  show some (Cell.setSlot (vp_cell _ (N, .inr (.inr (.inr (.inr (fun i => (f i).map (fun a => F.1.2.2.2 + a))))))) _ _) = some (vp_cell _ (N, .inr (.inr (.inr (.inr (fun j => ((va_up f i.toNatClampNeg (some b)) j).map (fun a => F.1.2.2.2 + a)))))))
  rw [vp_cell_q, vp_cell_q, arrV_store]
  congr 2
  funext q
  by_cases hq : q = i.toNatClampNeg
  · subst hq
    simp [updV, va_up, va_rf]
  · simp [updV, va_up, hq]
theorem x_aastN {t : Nat} {C : String} (ht : (vx_ty F.1)[t]? = some (F.1.2.2.1 t, .object C)) {a : Nat} (ha : a < n) {N : Nat} {f : Nat → Option Nat} (he : h a = .inl (t, N, .inr (.inr (.inr (.inr f))))) {i : Int32} (hin : vp_in i N) (hd : decode F.2.1.2.1 pc = .ok (.aastore, 1))
    (kk : xV F (pc + 1) L st n (va_up h a (.inl (t, N, .inr (.inr (.inr (.inr (va_up f i.toNatClampNeg none))))))) ce sl) : xV F pc L (.null :: .int i :: .ref a :: st) n h ce sl := by
  intro p e s m args below meth c X H locs ls hH hS hl
  have hcell := hH.cell ha
  rw [he] at hcell
  have hcell : H[F.1.2.2.2 + a]? = some (vp_cell (F.1.2.2.1 t) (N, .inr (.inr (.inr (.inr (fun i => (f i).map (fun a => F.1.2.2.2 + a))))))) := hcell
  have hK := X.2.2.2.2.2.2.2.1
  refine va_WaastN (C := C) X.1 X.2.1 hcell ((hK.2 t _ ht).1 N (fun j => va_rf ((f j).map (fun a => F.1.2.2.2 + a)))) (fun h => by cases h) (by show ¬ (i < 0 ∨ (arrV _ _ _).slots.size ≤ _); rw [arrV_size]; exact hin) rfl rfl hd fun H1 e1 z oq => ?_
  refine kk p e s m args below meth c X H1 _ ls (hH.upd ha ?_ z oq) (HR.put hS z oq) hl
  show H1[F.1.2.2.2 + a]? = some (vp_cell _ _)
  rw [e1]
  show some (Cell.setSlot (vp_cell _ (N, .inr (.inr (.inr (.inr (fun i => (f i).map (fun a => F.1.2.2.2 + a))))))) _ _) = some (vp_cell _ (N, .inr (.inr (.inr (.inr (fun j => ((va_up f i.toNatClampNeg none) j).map (fun a => F.1.2.2.2 + a)))))))
  rw [vp_cell_q, vp_cell_q, arrV_store]
  congr 2
  funext q
  by_cases hq : q = i.toNatClampNeg
  · subst hq
    simp [updV, va_up, va_rf]
  · simp [updV, va_up, hq]
end XH
end
section
/-! ===== returns and calls ===== -/
abbrev QI (P : Int32 → Nat → vx_H → Prop) : Option Value → Nat → vx_H → Prop := fun v n h => ∃ r : Int32, v = some (.int r) ∧ P r n h
abbrev QJ (P : Int64 → Nat → vx_H → Prop) : Option Value → Nat → vx_H → Prop := fun v n h => ∃ r : Int64, v = some (.long r) ∧ P r n h
abbrev QA (P : Option Nat → Nat → vx_H → Prop) : Option Value → Nat → vx_H → Prop := fun v n h => ∃ r : Option Nat, v = some (va_rf r) ∧ P r n h
abbrev QV (P : Nat → vx_H → Prop) : Option Value → Nat → vx_H → Prop := fun v n h => v = none ∧ P n h
section XR
variable {G : vx_G} {mt : vx_M} {d mc ms : Nat} {pc : Nat} {L : List (Option Value)} {n : Nat} {h : vx_H} {ce sl : Nat}
theorem x_iret {P : Int32 → Nat → vx_H → Prop} {v : Int32} (hd : decode mt.2.1 pc = .ok (.ireturn, 1)) (hr : mt.2.2.2 = some .int) (hq : P v n h) (h1 : ce ≤ mc) (h2 : sl ≤ ms) : xV (mF G mt d mc ms (QI P)) pc L [.int v] n h ce sl := by
  intro p e s m args below meth c X H locs ls hH hS hl
  refine W.widen h1 h2 ?_
  exact W.iret (v := v) X.1 X.2.1 (X.2.2.1.trans hr) (fun t ht hW => ⟨⟨some (.int v), n, h, rfl, ⟨v, rfl, hq⟩, by rw [ht]; exact hH⟩, hS.F ht⟩) hS.2.2 hd X.2.2.2.2.2.2.1
theorem x_zret {P : Int32 → Nat → vx_H → Prop} {v : Int32} (hd : decode mt.2.1 pc = .ok (.ireturn, 1)) (hr : mt.2.2.2 = some .boolean) (hn : v = 0 ∨ v = 1) (hq : P v n h) (h1 : ce ≤ mc) (h2 : sl ≤ ms) : xV (mF G mt d mc ms (QI P)) pc L [.int v] n h ce sl := by
  intro p e s m args below meth c X H locs ls hH hS hl
  refine W.widen h1 h2 ?_
  exact W.zret (v := v) (ty := .boolean) X.1 X.2.1 (X.2.2.1.trans hr) (by rcases hn with rfl | rfl <;> decide) (fun t ht hW => ⟨⟨some (.int v), n, h, rfl, ⟨v, rfl, hq⟩, by rw [ht]; exact hH⟩, hS.F ht⟩) hS.2.2 hd X.2.2.2.2.2.2.1
theorem x_lret {P : Int64 → Nat → vx_H → Prop} {v : Int64} (hd : decode mt.2.1 pc = .ok (.lreturn, 1)) (hr : mt.2.2.2 = some .long) (hq : P v n h) (h1 : ce ≤ mc) (h2 : sl ≤ ms) : xV (mF G mt d mc ms (QJ P)) pc L [.long v] n h ce sl := by
  intro p e s m args below meth c X H locs ls hH hS hl
  refine W.widen h1 h2 ?_
  exact W.lret (v := v) X.1 X.2.1 (X.2.2.1.trans hr) (fun t ht hW => ⟨⟨some (.long v), n, h, rfl, ⟨v, rfl, hq⟩, by rw [ht]; exact hH⟩, hS.F ht⟩) hS.2.2 hd X.2.2.2.2.2.2.1
theorem x_vret {P : Nat → vx_H → Prop} (hd : decode mt.2.1 pc = .ok (.return_, 1)) (hr : mt.2.2.2 = none) (hq : P n h) (h1 : ce ≤ mc) (h2 : sl ≤ ms) : xV (mF G mt d mc ms (QV P)) pc L [] n h ce sl := by
  intro p e s m args below meth c X H locs ls hH hS hl
  refine W.widen h1 h2 ?_
  exact W.vret X.1 X.2.1 (X.2.2.1.trans hr) (fun t ht hW => ⟨⟨none, n, h, rfl, ⟨rfl, hq⟩, by rw [ht]; exact hH⟩, hS.F ht⟩) hS.2.2 hd X.2.2.2.2.2.2.1
theorem x_aret {P : Option Nat → Nat → vx_H → Prop} {r : Option Nat} {C : String} (hd : decode mt.2.1 pc = .ok (.areturn, 1)) (hr : mt.2.2.2 = some (.object C)) (hq : P r n h) (h1 : ce ≤ mc) (h2 : sl ≤ ms) : xV (mF G mt d mc ms (QA P)) pc L [va_rf r] n h ce sl := by
  intro p e s m args below meth c X H locs ls hH hS hl
  refine W.widen h1 h2 ?_
  exact W.aret (v := rv G.2.2.2 (va_rf r)) X.1 X.2.1 (X.2.2.1.trans hr) (Or.inl ⟨C, rfl⟩) (by cases r <;> first | exact Or.inl rfl | exact Or.inr ⟨_, rfl⟩) (fun t ht hW => ⟨⟨some (va_rf r), n, h, rfl, ⟨r, rfl, hq⟩, by rw [ht]; exact hH⟩, hS.F ht⟩) hS.2.2 hd X.2.2.2.2.2.2.1
end XR
section XCALL
variable {F : vx_F} {pc : Nat} {L : List (Option Value)} {st : List Value} {n : Nat} {h : vx_H} {ce sl : Nat}
/-- what a call needs of the tables -/
def xMB (mt : vx_M) (na : Nat) : Prop := Cond.code mt.1 mt.2.1 mt.2.2.1 mt.2.2.2 ∈ lw_ok ∧ Cond.initialized mt.1.cls ∈ lw_ok ∧ (mt.1.cls ≠ "java/lang/invoke/MethodHandle" ∧ mt.1.cls ≠ "java/lang/invoke/VarHandle" ∧ (parseMethodDescriptor mt.1.desc).map (fun d => d.parameters.length) = some na)
def xMV (own : String) (idx : Nat) (mt : vx_M) (na ci : Nat) : Prop := xMB mt na ∧ Cond.methodLink own idx mt.1 ∈ lw_ok ∧ Cond.instanceMethod mt.1 ∈ lw_ok ∧ Cond.selects mt.1.cls mt.1 mt.1 ∈ lw_ok ∧ ∃ q : vw_C, vwCl[ci]? = some q ∧ q.1 = mt.1.cls
def xMS (own : String) (idx : Nat) (mt : vx_M) (na : Nat) : Prop := xMB mt na ∧ Cond.methodLink own idx mt.1 ∈ lw_ok ∧ Cond.static mt.1 ∈ lw_ok
def xMI (own : String) (idx : Nat) (mt : vx_M) (na : Nat) : Prop := xMB mt na ∧ Cond.methodLink own idx mt.1 ∈ lw_ok ∧ Cond.instanceMethod mt.1 ∈ lw_ok ∧ mt.1.name = "<init>" ∧ mt.2.2.2 = none
def xMN (own : String) (idx : Nat) (mt : vx_M) (na : Nat) (host : String) : Prop := xMB mt na ∧ Cond.methodLinkNest own idx mt.1 host ∈ lw_tbl ∧ Cond.instanceMethod mt.1 ∈ lw_ok ∧ mt.1.name = "<init>" ∧ mt.2.2.2 = none
def xRoom (R : Room) (mt : vx_M) (d mc ms ce sl : Nat) : Prop := (d + 1 ≤ R.frames ∧ 8 + (mt.2.2.1 + 11) + 64 * d ≤ R.locals) ∧ ce + mc ≤ R.cells ∧ sl + ms ≤ R.slots
theorem vx_good (mt : vx_M) {na : Nat} (hm : xMB mt na) : GoodIn lw_ok (vx_ws mt) := lw_ok_good (fun w hw => by
  rcases List.mem_cons.mp hw with rfl | hw
  · exact hm.1
  · exact hw)
/-- behind a call -/
theorem x_after {p : Program} {e : Env} {s : State} {m : MethodId} {args : Array Value} {below : List Frame} {meth : Method} {c : Code} {H : Heap} {locs : List Loc} {ls : Array Slot} {mc ms : Nat} {Q : Option Value → Nat → vx_H → Prop} {a : Array Value} {st0 : List Value} {rest : List Value}
    (X : xC F p s m args meth c) (hS : va_S (fun q => F.1.2.2.2 ≤ q) s.heap H locs) (hl : xL F ls L)
    (hr : va_Run p F.1.1 e F.2.2.1 s m args below meth c H locs ce sl mc ms (F0 m pc ls st0) (rest.map (rv F.1.2.2.2)) (vx_Qc F.1 Q a) (fun q => F.1.2.2.2 ≤ q))
    (kk : ∀ (v : Option Value) (n' : Nat) (h' : vx_H), Q v n' h' → xV F (pc + 3) L (v.toList ++ rest) n' h' (ce + mc) (sl + ms)) : W p F.1.1 e F.2.2.1 s m args below meth c H locs ce sl (F.2.2.2.1 below args s) (F0 m pc ls st0) := by
  intro T hT Y
  obtain ⟨v, st₀, t, T', LL, h0, Y', hL, e1, e2, ⟨⟨v', n', h', hv, hQ, hH'⟩, hz, hk⟩, go⟩ := hr T hT Y
  cases hv
  rw [h0] at hz hk
  have hS' : va_S (fun q => F.1.2.2.2 ≤ q) s.heap T'.heap (locs ++ LL) := ⟨Nat.le_trans hS.1 (by rw [e1]; exact hz), fun q h1 h2 => by rw [e1, hk q (Nat.lt_of_lt_of_le h1 hS.1) h2]; exact hS.2.1 q h1 h2, fun q hq => by
      rcases List.mem_append.mp hq with h | h
      · exact hS.2.2 q h
      · exact hL q h⟩
  have k1 := kk v' n' h' hQ p e s m args below meth c X T'.heap (locs ++ LL) ls (by rw [e1]; exact hH') hS' hl
  obtain ⟨t2, a1, b1⟩ := k1 T' rfl Y'
  refine ⟨t2, go t2 ?_, b1⟩
  have e3 : (v'.map (rv F.1.2.2.2)).toList ++ rest.map (rv F.1.2.2.2) = (v'.toList ++ rest).map (rv F.1.2.2.2) := by cases v' <;> simp
  rw [show ({ (F0 m pc ls st0) with pc := (F0 m pc ls st0).pc + 3, stack := (v'.map (rv F.1.2.2.2)).toList ++ rest.map (rv F.1.2.2.2) } : JFrame) = F0 m (pc + 3) ls ((v'.toList ++ rest).map (rv F.1.2.2.2)) from by rw [e3]]
  exact a1
theorem x_mr {m : MethodId} {ls : Array Slot} {st0 rest : List Value} {b : Nat} (h : (rest.map fun v => v.category).sum ≤ 8) : 2 * (F0 m pc ls st0).monitorRoom + ((rest.map (rv b)).map fun v => v.category).sum ≤ 8 := by
  have e : (rest.map (rv b)).map (fun v => v.category) = rest.map (fun v => v.category) := by
    rw [List.map_map]
    exact List.map_congr_left (fun v _ => rv_cat b v)
  rw [e]
  show 2 * 0 + _ ≤ 8
  omega
theorem x_callV {idx : Nat} {mt : vx_M} {na ci : Nat} (hm : xMV F.2.1.1.cls idx mt na ci) {d mc ms : Nat} {Q : Option Value → Nat → vx_H → Prop} {a : Nat} (As rest : List Value) (hK : xK F.1 mt d (.ref a :: As) n h mc ms Q) (ha : a < n) {fs : List Value} (he : h a = .inr (ci, fs)) (hn : As.length = na) (hst : st = As.reverse ++ .ref a :: rest)
    (hR : xRoom F.2.2.1 mt d mc ms ce sl) (hW : (rest.map fun v => v.category).sum ≤ 8) (hd : decode F.2.1.2.1 pc = .ok (.invokevirtual idx, 3)) (kk : ∀ (v : Option Value) (n' : Nat) (h' : vx_H), Q v n' h' → xV F (pc + 3) L (v.toList ++ rest) n' h' (ce + mc) (sl + ms)) : xV F pc L st n h ce sl := by
  intro p e s m args below meth c X H locs ls hH hS hl
  obtain ⟨hB, m1, m2, m3, q, hq, hqc⟩ := hm
  have hts := X.2.2.2.2.2.1
  have hK0 := X.2.2.2.2.2.2.2.1
  refine x_after (a := (Value.ref (F.1.2.2.2 + a) :: As.map (rv F.1.2.2.2)).toArray) (rest := rest) X hS hl ?_ kk
  refine va_runV (As := As.map (rv F.1.2.2.2)) (b := F.1.2.2.2 + a) (Ts := lw_ok) (own := F.2.1.1.cls) (C := mt.1.cls) (n := na) (bytes := mt.2.1) (maxL := mt.2.2.1) (ret := mt.2.2.2) (ws := vx_ws mt) (rm := vx_rm d mc ms) ⟨X.1, X.2.1, X.2.2.2.1, X.2.2.2.2.1, hts⟩ hK ?_ ⟨vx_blind _ _ _ _, ?_, ?_⟩ rfl (by rw [List.length_map]; exact hn) hl.1 ?_ (x_mr hW) hd hR.2
  · exact ⟨callB_of na hts (vx_good mt hB) rfl rfl rfl (hts _ hB.2.1) (hts _ m1) hB.2.2 hR.1, hts _ m2, hts _ m3⟩
  · rw [← hqc]
    exact va_recv hK0 hH.1 hq (q0 := a) (fs := fs.map (rv F.1.2.2.2)) (by rw [wl_get ha, he]; rfl)
  · intro U hU hWm
    exact ⟨rfl, by rw [hU]; exact hH, va_K.moved hWm.alike hK0, X.2.2.2.2.2.2.2.2.2.2.1.warm hWm⟩
  · show st.map (rv F.1.2.2.2) = (As.map (rv F.1.2.2.2)).reverse ++ Value.ref (F.1.2.2.2 + a) :: rest.map (rv F.1.2.2.2)
    rw [hst]
    simp [rv]
theorem x_callS {idx : Nat} {mt : vx_M} {na : Nat} (hm : xMS F.2.1.1.cls idx mt na) {d mc ms : Nat} {Q : Option Value → Nat → vx_H → Prop} (As rest : List Value) (hK : xK F.1 mt d As n h mc ms Q) (hn : As.length = na) (hst : st = As.reverse ++ rest)
    (hR : xRoom F.2.2.1 mt d mc ms ce sl) (hW : (rest.map fun v => v.category).sum ≤ 8) (hd : decode F.2.1.2.1 pc = .ok (.invokestatic idx, 3)) (kk : ∀ (v : Option Value) (n' : Nat) (h' : vx_H), Q v n' h' → xV F (pc + 3) L (v.toList ++ rest) n' h' (ce + mc) (sl + ms)) : xV F pc L st n h ce sl := by
  intro p e s m args below meth c X H locs ls hH hS hl
  obtain ⟨hB, m1, m2⟩ := hm
  have hts := X.2.2.2.2.2.1
  have hK0 := X.2.2.2.2.2.2.2.1
  refine x_after (a := (As.map (rv F.1.2.2.2)).toArray) (rest := rest) X hS hl ?_ kk
  refine va_runS (As := As.map (rv F.1.2.2.2)) (Ts := lw_ok) (own := F.2.1.1.cls) (n := na) (bytes := mt.2.1) (maxL := mt.2.2.1) (ret := mt.2.2.2) (ws := vx_ws mt) (rm := vx_rm d mc ms) ⟨X.1, X.2.1, X.2.2.2.1, X.2.2.2.2.1, hts⟩ hK ?_ ⟨vx_blind _ _ _ _, ?_⟩ rfl (by rw [List.length_map]; exact hn) hl.1 ?_ (x_mr hW) hd hR.2
  · exact ⟨callB_of na hts (vx_good mt hB) rfl rfl rfl (hts _ hB.2.1) (hts _ m1) hB.2.2 hR.1, hts _ m2⟩
  · intro U hU hWm
    exact ⟨rfl, by rw [hU]; exact hH, va_K.moved hWm.alike hK0, X.2.2.2.2.2.2.2.2.2.2.1.warm hWm⟩
  · show st.map (rv F.1.2.2.2) = (As.map (rv F.1.2.2.2)).reverse ++ rest.map (rv F.1.2.2.2)
    rw [hst]
    simp
theorem x_callI {idx : Nat} {mt : vx_M} {na : Nat} (hm : xMI F.2.1.1.cls idx mt na) {d mc ms : Nat} {Q : Option Value → Nat → vx_H → Prop} {a : Nat} (As rest : List Value) (hK : xK F.1 mt d (.ref a :: As) n h mc ms Q) (hn : As.length = na) (hst : st = As.reverse ++ .ref a :: rest)
    (hR : xRoom F.2.2.1 mt d mc ms ce sl) (hW : (rest.map fun v => v.category).sum ≤ 8) (hd : decode F.2.1.2.1 pc = .ok (.invokespecial idx, 3)) (kk : ∀ (v : Option Value) (n' : Nat) (h' : vx_H), Q v n' h' → xV F (pc + 3) L (v.toList ++ rest) n' h' (ce + mc) (sl + ms)) : xV F pc L st n h ce sl := by
  intro p e s m args below meth c X H locs ls hH hS hl
  obtain ⟨hB, m1, m2, m3, m4⟩ := hm
  have hts := X.2.2.2.2.2.1
  have hK0 := X.2.2.2.2.2.2.2.1
  refine x_after (a := (Value.ref (F.1.2.2.2 + a) :: As.map (rv F.1.2.2.2)).toArray) (rest := rest) X hS hl ?_ kk
  refine va_runI (As := As.map (rv F.1.2.2.2)) (b := F.1.2.2.2 + a) (Ts := lw_ok) (own := F.2.1.1.cls) (n := na) (bytes := mt.2.1) (maxL := mt.2.2.1) (ws := vx_ws mt) (rm := vx_rm d mc ms) ⟨X.1, X.2.1, X.2.2.2.1, X.2.2.2.2.1, hts⟩ hK ⟨?_, m3, hts _ m2⟩ ⟨vx_blind _ _ _ _, ?_⟩ rfl (by rw [List.length_map]; exact hn) hl.1 ?_ (x_mr hW) hd hR.2
  · exact callB_of na hts (vx_good mt hB) (by show vx_ws mt = _; unfold vx_ws; rw [m4]) rfl rfl (hts _ hB.2.1) (hts _ m1) hB.2.2 hR.1
  · intro U hU hWm
    exact ⟨rfl, by rw [hU]; exact hH, va_K.moved hWm.alike hK0, X.2.2.2.2.2.2.2.2.2.2.1.warm hWm⟩
  · show st.map (rv F.1.2.2.2) = (As.map (rv F.1.2.2.2)).reverse ++ Value.ref (F.1.2.2.2 + a) :: rest.map (rv F.1.2.2.2)
    rw [hst]
    simp [rv]
theorem x_callN {idx : Nat} {mt : vx_M} {na : Nat} {host : String} (hm : xMN F.2.1.1.cls idx mt na host) {d mc ms : Nat} {Q : Option Value → Nat → vx_H → Prop} {a : Nat} (As rest : List Value) (hK : xK F.1 mt d (.ref a :: As) n h mc ms Q) (hn : As.length = na) (hst : st = As.reverse ++ .ref a :: rest)
    (hR : xRoom F.2.2.1 mt d mc ms ce sl) (hW : (rest.map fun v => v.category).sum ≤ 8) (hd : decode F.2.1.2.1 pc = .ok (.invokespecial idx, 3)) (kk : ∀ (v : Option Value) (n' : Nat) (h' : vx_H), Q v n' h' → xV F (pc + 3) L (v.toList ++ rest) n' h' (ce + mc) (sl + ms)) : xV F pc L st n h ce sl := by
  intro p e s m args below meth c X H locs ls hH hS hl
  obtain ⟨hB, m1, m2, m3, m4⟩ := hm
  have hts := X.2.2.2.2.2.1
  have hK0 := X.2.2.2.2.2.2.2.1
  refine x_after (a := (Value.ref (F.1.2.2.2 + a) :: As.map (rv F.1.2.2.2)).toArray) (rest := rest) X hS hl ?_ kk
  refine va_runIN (As := As.map (rv F.1.2.2.2)) (b := F.1.2.2.2 + a) (Ts := lw_ok) (own := F.2.1.1.cls) (host := host) (n := na) (bytes := mt.2.1) (maxL := mt.2.2.1) (ws := vx_ws mt) (rm := vx_rm d mc ms) ⟨X.1, X.2.1, X.2.2.2.1, X.2.2.2.2.1, hts⟩ hK ⟨?_, m3, hts _ m2⟩ ⟨vx_blind _ _ _ _, ?_⟩ rfl (by rw [List.length_map]; exact hn) hl.1 ?_ (x_mr hW) hd hR.2
  · exact va_cnB na hts (vx_good mt hB) (by show vx_ws mt = _; unfold vx_ws; rw [m4]) rfl rfl (X.2.2.2.2.2.2.2.2.2.2.1 _ m1 rfl) (hts _ hB.2.1) hB.2.2 hR.1
  · intro U hU hWm
    exact ⟨rfl, by rw [hU]; exact hH, va_K.moved hWm.alike hK0, X.2.2.2.2.2.2.2.2.2.2.1.warm hWm⟩
  · show st.map (rv F.1.2.2.2) = (As.map (rv F.1.2.2.2)).reverse ++ Value.ref (F.1.2.2.2 + a) :: rest.map (rv F.1.2.2.2)
    rw [hst]
    simp [rv]

theorem x_callV0i {idx : Nat} {mt : vx_M} {ci : Nat} (hm : xMV F.2.1.1.cls idx mt 0 ci) {d mc ms : Nat} {P : Int32 → Nat → vx_H → Prop} {a : Nat} {rest : List Value} (hK : xK F.1 mt d (.ref a :: []) n h mc ms (QI P)) (ha : a < n) {fs : List Value} (he : h a = .inr (ci, fs)) (hR : xRoom F.2.2.1 mt d mc ms ce sl) (hW : (rest.map fun v => v.category).sum ≤ 8) (hd : decode F.2.1.2.1 pc = .ok (.invokevirtual idx, 3)) (kk : ∀ (r : Int32) (n' : Nat) (h' : vx_H), P r n' h' → xV F (pc + 3) L (.int r :: rest) n' h' (ce + mc) (sl + ms)) : xV F pc L (.ref a :: rest) n h ce sl := x_callV hm [] rest hK ha he rfl rfl hR hW hd (fun v n' h' hq => by obtain ⟨r, rfl, hq⟩ := hq; exact kk r n' h' hq)
theorem x_callV0l {idx : Nat} {mt : vx_M} {ci : Nat} (hm : xMV F.2.1.1.cls idx mt 0 ci) {d mc ms : Nat} {P : Int64 → Nat → vx_H → Prop} {a : Nat} {rest : List Value} (hK : xK F.1 mt d (.ref a :: []) n h mc ms (QJ P)) (ha : a < n) {fs : List Value} (he : h a = .inr (ci, fs)) (hR : xRoom F.2.2.1 mt d mc ms ce sl) (hW : (rest.map fun v => v.category).sum ≤ 8) (hd : decode F.2.1.2.1 pc = .ok (.invokevirtual idx, 3)) (kk : ∀ (r : Int64) (n' : Nat) (h' : vx_H), P r n' h' → xV F (pc + 3) L (.long r :: rest) n' h' (ce + mc) (sl + ms)) : xV F pc L (.ref a :: rest) n h ce sl := x_callV hm [] rest hK ha he rfl rfl hR hW hd (fun v n' h' hq => by obtain ⟨r, rfl, hq⟩ := hq; exact kk r n' h' hq)
theorem x_callV0a {idx : Nat} {mt : vx_M} {ci : Nat} (hm : xMV F.2.1.1.cls idx mt 0 ci) {d mc ms : Nat} {P : Option Nat → Nat → vx_H → Prop} {a : Nat} {rest : List Value} (hK : xK F.1 mt d (.ref a :: []) n h mc ms (QA P)) (ha : a < n) {fs : List Value} (he : h a = .inr (ci, fs)) (hR : xRoom F.2.2.1 mt d mc ms ce sl) (hW : (rest.map fun v => v.category).sum ≤ 8) (hd : decode F.2.1.2.1 pc = .ok (.invokevirtual idx, 3)) (kk : ∀ (r : Option Nat) (n' : Nat) (h' : vx_H), P r n' h' → xV F (pc + 3) L (va_rf r :: rest) n' h' (ce + mc) (sl + ms)) : xV F pc L (.ref a :: rest) n h ce sl := x_callV hm [] rest hK ha he rfl rfl hR hW hd (fun v n' h' hq => by obtain ⟨r, rfl, hq⟩ := hq; exact kk r n' h' hq)
theorem x_callV0v {idx : Nat} {mt : vx_M} {ci : Nat} (hm : xMV F.2.1.1.cls idx mt 0 ci) {d mc ms : Nat} {P : Nat → vx_H → Prop} {a : Nat} {rest : List Value} (hK : xK F.1 mt d (.ref a :: []) n h mc ms (QV P)) (ha : a < n) {fs : List Value} (he : h a = .inr (ci, fs)) (hR : xRoom F.2.2.1 mt d mc ms ce sl) (hW : (rest.map fun v => v.category).sum ≤ 8) (hd : decode F.2.1.2.1 pc = .ok (.invokevirtual idx, 3)) (kk : ∀ (n' : Nat) (h' : vx_H), P n' h' → xV F (pc + 3) L (rest) n' h' (ce + mc) (sl + ms)) : xV F pc L (.ref a :: rest) n h ce sl := x_callV hm [] rest hK ha he rfl rfl hR hW hd (fun v n' h' hq => by obtain ⟨rfl, hq⟩ := hq; exact kk n' h' hq)
theorem x_callV1i {idx : Nat} {mt : vx_M} {ci : Nat} (hm : xMV F.2.1.1.cls idx mt 1 ci) {d mc ms : Nat} {P : Int32 → Nat → vx_H → Prop} {a : Nat} {v1 : Value} {rest : List Value} (hK : xK F.1 mt d (.ref a :: [v1]) n h mc ms (QI P)) (ha : a < n) {fs : List Value} (he : h a = .inr (ci, fs)) (hR : xRoom F.2.2.1 mt d mc ms ce sl) (hW : (rest.map fun v => v.category).sum ≤ 8) (hd : decode F.2.1.2.1 pc = .ok (.invokevirtual idx, 3)) (kk : ∀ (r : Int32) (n' : Nat) (h' : vx_H), P r n' h' → xV F (pc + 3) L (.int r :: rest) n' h' (ce + mc) (sl + ms)) : xV F pc L (v1 :: .ref a :: rest) n h ce sl := x_callV hm [v1] rest hK ha he rfl rfl hR hW hd (fun v n' h' hq => by obtain ⟨r, rfl, hq⟩ := hq; exact kk r n' h' hq)
theorem x_callV1l {idx : Nat} {mt : vx_M} {ci : Nat} (hm : xMV F.2.1.1.cls idx mt 1 ci) {d mc ms : Nat} {P : Int64 → Nat → vx_H → Prop} {a : Nat} {v1 : Value} {rest : List Value} (hK : xK F.1 mt d (.ref a :: [v1]) n h mc ms (QJ P)) (ha : a < n) {fs : List Value} (he : h a = .inr (ci, fs)) (hR : xRoom F.2.2.1 mt d mc ms ce sl) (hW : (rest.map fun v => v.category).sum ≤ 8) (hd : decode F.2.1.2.1 pc = .ok (.invokevirtual idx, 3)) (kk : ∀ (r : Int64) (n' : Nat) (h' : vx_H), P r n' h' → xV F (pc + 3) L (.long r :: rest) n' h' (ce + mc) (sl + ms)) : xV F pc L (v1 :: .ref a :: rest) n h ce sl := x_callV hm [v1] rest hK ha he rfl rfl hR hW hd (fun v n' h' hq => by obtain ⟨r, rfl, hq⟩ := hq; exact kk r n' h' hq)
theorem x_callV1a {idx : Nat} {mt : vx_M} {ci : Nat} (hm : xMV F.2.1.1.cls idx mt 1 ci) {d mc ms : Nat} {P : Option Nat → Nat → vx_H → Prop} {a : Nat} {v1 : Value} {rest : List Value} (hK : xK F.1 mt d (.ref a :: [v1]) n h mc ms (QA P)) (ha : a < n) {fs : List Value} (he : h a = .inr (ci, fs)) (hR : xRoom F.2.2.1 mt d mc ms ce sl) (hW : (rest.map fun v => v.category).sum ≤ 8) (hd : decode F.2.1.2.1 pc = .ok (.invokevirtual idx, 3)) (kk : ∀ (r : Option Nat) (n' : Nat) (h' : vx_H), P r n' h' → xV F (pc + 3) L (va_rf r :: rest) n' h' (ce + mc) (sl + ms)) : xV F pc L (v1 :: .ref a :: rest) n h ce sl := x_callV hm [v1] rest hK ha he rfl rfl hR hW hd (fun v n' h' hq => by obtain ⟨r, rfl, hq⟩ := hq; exact kk r n' h' hq)
theorem x_callV1v {idx : Nat} {mt : vx_M} {ci : Nat} (hm : xMV F.2.1.1.cls idx mt 1 ci) {d mc ms : Nat} {P : Nat → vx_H → Prop} {a : Nat} {v1 : Value} {rest : List Value} (hK : xK F.1 mt d (.ref a :: [v1]) n h mc ms (QV P)) (ha : a < n) {fs : List Value} (he : h a = .inr (ci, fs)) (hR : xRoom F.2.2.1 mt d mc ms ce sl) (hW : (rest.map fun v => v.category).sum ≤ 8) (hd : decode F.2.1.2.1 pc = .ok (.invokevirtual idx, 3)) (kk : ∀ (n' : Nat) (h' : vx_H), P n' h' → xV F (pc + 3) L (rest) n' h' (ce + mc) (sl + ms)) : xV F pc L (v1 :: .ref a :: rest) n h ce sl := x_callV hm [v1] rest hK ha he rfl rfl hR hW hd (fun v n' h' hq => by obtain ⟨rfl, hq⟩ := hq; exact kk n' h' hq)
theorem x_callV2i {idx : Nat} {mt : vx_M} {ci : Nat} (hm : xMV F.2.1.1.cls idx mt 2 ci) {d mc ms : Nat} {P : Int32 → Nat → vx_H → Prop} {a : Nat} {v1 v2 : Value} {rest : List Value} (hK : xK F.1 mt d (.ref a :: [v1, v2]) n h mc ms (QI P)) (ha : a < n) {fs : List Value} (he : h a = .inr (ci, fs)) (hR : xRoom F.2.2.1 mt d mc ms ce sl) (hW : (rest.map fun v => v.category).sum ≤ 8) (hd : decode F.2.1.2.1 pc = .ok (.invokevirtual idx, 3)) (kk : ∀ (r : Int32) (n' : Nat) (h' : vx_H), P r n' h' → xV F (pc + 3) L (.int r :: rest) n' h' (ce + mc) (sl + ms)) : xV F pc L (v2 :: v1 :: .ref a :: rest) n h ce sl := x_callV hm [v1, v2] rest hK ha he rfl rfl hR hW hd (fun v n' h' hq => by obtain ⟨r, rfl, hq⟩ := hq; exact kk r n' h' hq)
theorem x_callV2l {idx : Nat} {mt : vx_M} {ci : Nat} (hm : xMV F.2.1.1.cls idx mt 2 ci) {d mc ms : Nat} {P : Int64 → Nat → vx_H → Prop} {a : Nat} {v1 v2 : Value} {rest : List Value} (hK : xK F.1 mt d (.ref a :: [v1, v2]) n h mc ms (QJ P)) (ha : a < n) {fs : List Value} (he : h a = .inr (ci, fs)) (hR : xRoom F.2.2.1 mt d mc ms ce sl) (hW : (rest.map fun v => v.category).sum ≤ 8) (hd : decode F.2.1.2.1 pc = .ok (.invokevirtual idx, 3)) (kk : ∀ (r : Int64) (n' : Nat) (h' : vx_H), P r n' h' → xV F (pc + 3) L (.long r :: rest) n' h' (ce + mc) (sl + ms)) : xV F pc L (v2 :: v1 :: .ref a :: rest) n h ce sl := x_callV hm [v1, v2] rest hK ha he rfl rfl hR hW hd (fun v n' h' hq => by obtain ⟨r, rfl, hq⟩ := hq; exact kk r n' h' hq)
theorem x_callV2a {idx : Nat} {mt : vx_M} {ci : Nat} (hm : xMV F.2.1.1.cls idx mt 2 ci) {d mc ms : Nat} {P : Option Nat → Nat → vx_H → Prop} {a : Nat} {v1 v2 : Value} {rest : List Value} (hK : xK F.1 mt d (.ref a :: [v1, v2]) n h mc ms (QA P)) (ha : a < n) {fs : List Value} (he : h a = .inr (ci, fs)) (hR : xRoom F.2.2.1 mt d mc ms ce sl) (hW : (rest.map fun v => v.category).sum ≤ 8) (hd : decode F.2.1.2.1 pc = .ok (.invokevirtual idx, 3)) (kk : ∀ (r : Option Nat) (n' : Nat) (h' : vx_H), P r n' h' → xV F (pc + 3) L (va_rf r :: rest) n' h' (ce + mc) (sl + ms)) : xV F pc L (v2 :: v1 :: .ref a :: rest) n h ce sl := x_callV hm [v1, v2] rest hK ha he rfl rfl hR hW hd (fun v n' h' hq => by obtain ⟨r, rfl, hq⟩ := hq; exact kk r n' h' hq)
theorem x_callV2v {idx : Nat} {mt : vx_M} {ci : Nat} (hm : xMV F.2.1.1.cls idx mt 2 ci) {d mc ms : Nat} {P : Nat → vx_H → Prop} {a : Nat} {v1 v2 : Value} {rest : List Value} (hK : xK F.1 mt d (.ref a :: [v1, v2]) n h mc ms (QV P)) (ha : a < n) {fs : List Value} (he : h a = .inr (ci, fs)) (hR : xRoom F.2.2.1 mt d mc ms ce sl) (hW : (rest.map fun v => v.category).sum ≤ 8) (hd : decode F.2.1.2.1 pc = .ok (.invokevirtual idx, 3)) (kk : ∀ (n' : Nat) (h' : vx_H), P n' h' → xV F (pc + 3) L (rest) n' h' (ce + mc) (sl + ms)) : xV F pc L (v2 :: v1 :: .ref a :: rest) n h ce sl := x_callV hm [v1, v2] rest hK ha he rfl rfl hR hW hd (fun v n' h' hq => by obtain ⟨rfl, hq⟩ := hq; exact kk n' h' hq)
theorem x_callV3i {idx : Nat} {mt : vx_M} {ci : Nat} (hm : xMV F.2.1.1.cls idx mt 3 ci) {d mc ms : Nat} {P : Int32 → Nat → vx_H → Prop} {a : Nat} {v1 v2 v3 : Value} {rest : List Value} (hK : xK F.1 mt d (.ref a :: [v1, v2, v3]) n h mc ms (QI P)) (ha : a < n) {fs : List Value} (he : h a = .inr (ci, fs)) (hR : xRoom F.2.2.1 mt d mc ms ce sl) (hW : (rest.map fun v => v.category).sum ≤ 8) (hd : decode F.2.1.2.1 pc = .ok (.invokevirtual idx, 3)) (kk : ∀ (r : Int32) (n' : Nat) (h' : vx_H), P r n' h' → xV F (pc + 3) L (.int r :: rest) n' h' (ce + mc) (sl + ms)) : xV F pc L (v3 :: v2 :: v1 :: .ref a :: rest) n h ce sl := x_callV hm [v1, v2, v3] rest hK ha he rfl rfl hR hW hd (fun v n' h' hq => by obtain ⟨r, rfl, hq⟩ := hq; exact kk r n' h' hq)
theorem x_callV3l {idx : Nat} {mt : vx_M} {ci : Nat} (hm : xMV F.2.1.1.cls idx mt 3 ci) {d mc ms : Nat} {P : Int64 → Nat → vx_H → Prop} {a : Nat} {v1 v2 v3 : Value} {rest : List Value} (hK : xK F.1 mt d (.ref a :: [v1, v2, v3]) n h mc ms (QJ P)) (ha : a < n) {fs : List Value} (he : h a = .inr (ci, fs)) (hR : xRoom F.2.2.1 mt d mc ms ce sl) (hW : (rest.map fun v => v.category).sum ≤ 8) (hd : decode F.2.1.2.1 pc = .ok (.invokevirtual idx, 3)) (kk : ∀ (r : Int64) (n' : Nat) (h' : vx_H), P r n' h' → xV F (pc + 3) L (.long r :: rest) n' h' (ce + mc) (sl + ms)) : xV F pc L (v3 :: v2 :: v1 :: .ref a :: rest) n h ce sl := x_callV hm [v1, v2, v3] rest hK ha he rfl rfl hR hW hd (fun v n' h' hq => by obtain ⟨r, rfl, hq⟩ := hq; exact kk r n' h' hq)
theorem x_callV3a {idx : Nat} {mt : vx_M} {ci : Nat} (hm : xMV F.2.1.1.cls idx mt 3 ci) {d mc ms : Nat} {P : Option Nat → Nat → vx_H → Prop} {a : Nat} {v1 v2 v3 : Value} {rest : List Value} (hK : xK F.1 mt d (.ref a :: [v1, v2, v3]) n h mc ms (QA P)) (ha : a < n) {fs : List Value} (he : h a = .inr (ci, fs)) (hR : xRoom F.2.2.1 mt d mc ms ce sl) (hW : (rest.map fun v => v.category).sum ≤ 8) (hd : decode F.2.1.2.1 pc = .ok (.invokevirtual idx, 3)) (kk : ∀ (r : Option Nat) (n' : Nat) (h' : vx_H), P r n' h' → xV F (pc + 3) L (va_rf r :: rest) n' h' (ce + mc) (sl + ms)) : xV F pc L (v3 :: v2 :: v1 :: .ref a :: rest) n h ce sl := x_callV hm [v1, v2, v3] rest hK ha he rfl rfl hR hW hd (fun v n' h' hq => by obtain ⟨r, rfl, hq⟩ := hq; exact kk r n' h' hq)
theorem x_callV3v {idx : Nat} {mt : vx_M} {ci : Nat} (hm : xMV F.2.1.1.cls idx mt 3 ci) {d mc ms : Nat} {P : Nat → vx_H → Prop} {a : Nat} {v1 v2 v3 : Value} {rest : List Value} (hK : xK F.1 mt d (.ref a :: [v1, v2, v3]) n h mc ms (QV P)) (ha : a < n) {fs : List Value} (he : h a = .inr (ci, fs)) (hR : xRoom F.2.2.1 mt d mc ms ce sl) (hW : (rest.map fun v => v.category).sum ≤ 8) (hd : decode F.2.1.2.1 pc = .ok (.invokevirtual idx, 3)) (kk : ∀ (n' : Nat) (h' : vx_H), P n' h' → xV F (pc + 3) L (rest) n' h' (ce + mc) (sl + ms)) : xV F pc L (v3 :: v2 :: v1 :: .ref a :: rest) n h ce sl := x_callV hm [v1, v2, v3] rest hK ha he rfl rfl hR hW hd (fun v n' h' hq => by obtain ⟨rfl, hq⟩ := hq; exact kk n' h' hq)
theorem x_callV4i {idx : Nat} {mt : vx_M} {ci : Nat} (hm : xMV F.2.1.1.cls idx mt 4 ci) {d mc ms : Nat} {P : Int32 → Nat → vx_H → Prop} {a : Nat} {v1 v2 v3 v4 : Value} {rest : List Value} (hK : xK F.1 mt d (.ref a :: [v1, v2, v3, v4]) n h mc ms (QI P)) (ha : a < n) {fs : List Value} (he : h a = .inr (ci, fs)) (hR : xRoom F.2.2.1 mt d mc ms ce sl) (hW : (rest.map fun v => v.category).sum ≤ 8) (hd : decode F.2.1.2.1 pc = .ok (.invokevirtual idx, 3)) (kk : ∀ (r : Int32) (n' : Nat) (h' : vx_H), P r n' h' → xV F (pc + 3) L (.int r :: rest) n' h' (ce + mc) (sl + ms)) : xV F pc L (v4 :: v3 :: v2 :: v1 :: .ref a :: rest) n h ce sl := x_callV hm [v1, v2, v3, v4] rest hK ha he rfl rfl hR hW hd (fun v n' h' hq => by obtain ⟨r, rfl, hq⟩ := hq; exact kk r n' h' hq)
theorem x_callV4l {idx : Nat} {mt : vx_M} {ci : Nat} (hm : xMV F.2.1.1.cls idx mt 4 ci) {d mc ms : Nat} {P : Int64 → Nat → vx_H → Prop} {a : Nat} {v1 v2 v3 v4 : Value} {rest : List Value} (hK : xK F.1 mt d (.ref a :: [v1, v2, v3, v4]) n h mc ms (QJ P)) (ha : a < n) {fs : List Value} (he : h a = .inr (ci, fs)) (hR : xRoom F.2.2.1 mt d mc ms ce sl) (hW : (rest.map fun v => v.category).sum ≤ 8) (hd : decode F.2.1.2.1 pc = .ok (.invokevirtual idx, 3)) (kk : ∀ (r : Int64) (n' : Nat) (h' : vx_H), P r n' h' → xV F (pc + 3) L (.long r :: rest) n' h' (ce + mc) (sl + ms)) : xV F pc L (v4 :: v3 :: v2 :: v1 :: .ref a :: rest) n h ce sl := x_callV hm [v1, v2, v3, v4] rest hK ha he rfl rfl hR hW hd (fun v n' h' hq => by obtain ⟨r, rfl, hq⟩ := hq; exact kk r n' h' hq)
theorem x_callV4a {idx : Nat} {mt : vx_M} {ci : Nat} (hm : xMV F.2.1.1.cls idx mt 4 ci) {d mc ms : Nat} {P : Option Nat → Nat → vx_H → Prop} {a : Nat} {v1 v2 v3 v4 : Value} {rest : List Value} (hK : xK F.1 mt d (.ref a :: [v1, v2, v3, v4]) n h mc ms (QA P)) (ha : a < n) {fs : List Value} (he : h a = .inr (ci, fs)) (hR : xRoom F.2.2.1 mt d mc ms ce sl) (hW : (rest.map fun v => v.category).sum ≤ 8) (hd : decode F.2.1.2.1 pc = .ok (.invokevirtual idx, 3)) (kk : ∀ (r : Option Nat) (n' : Nat) (h' : vx_H), P r n' h' → xV F (pc + 3) L (va_rf r :: rest) n' h' (ce + mc) (sl + ms)) : xV F pc L (v4 :: v3 :: v2 :: v1 :: .ref a :: rest) n h ce sl := x_callV hm [v1, v2, v3, v4] rest hK ha he rfl rfl hR hW hd (fun v n' h' hq => by obtain ⟨r, rfl, hq⟩ := hq; exact kk r n' h' hq)
theorem x_callV4v {idx : Nat} {mt : vx_M} {ci : Nat} (hm : xMV F.2.1.1.cls idx mt 4 ci) {d mc ms : Nat} {P : Nat → vx_H → Prop} {a : Nat} {v1 v2 v3 v4 : Value} {rest : List Value} (hK : xK F.1 mt d (.ref a :: [v1, v2, v3, v4]) n h mc ms (QV P)) (ha : a < n) {fs : List Value} (he : h a = .inr (ci, fs)) (hR : xRoom F.2.2.1 mt d mc ms ce sl) (hW : (rest.map fun v => v.category).sum ≤ 8) (hd : decode F.2.1.2.1 pc = .ok (.invokevirtual idx, 3)) (kk : ∀ (n' : Nat) (h' : vx_H), P n' h' → xV F (pc + 3) L (rest) n' h' (ce + mc) (sl + ms)) : xV F pc L (v4 :: v3 :: v2 :: v1 :: .ref a :: rest) n h ce sl := x_callV hm [v1, v2, v3, v4] rest hK ha he rfl rfl hR hW hd (fun v n' h' hq => by obtain ⟨rfl, hq⟩ := hq; exact kk n' h' hq)
theorem x_callV5i {idx : Nat} {mt : vx_M} {ci : Nat} (hm : xMV F.2.1.1.cls idx mt 5 ci) {d mc ms : Nat} {P : Int32 → Nat → vx_H → Prop} {a : Nat} {v1 v2 v3 v4 v5 : Value} {rest : List Value} (hK : xK F.1 mt d (.ref a :: [v1, v2, v3, v4, v5]) n h mc ms (QI P)) (ha : a < n) {fs : List Value} (he : h a = .inr (ci, fs)) (hR : xRoom F.2.2.1 mt d mc ms ce sl) (hW : (rest.map fun v => v.category).sum ≤ 8) (hd : decode F.2.1.2.1 pc = .ok (.invokevirtual idx, 3)) (kk : ∀ (r : Int32) (n' : Nat) (h' : vx_H), P r n' h' → xV F (pc + 3) L (.int r :: rest) n' h' (ce + mc) (sl + ms)) : xV F pc L (v5 :: v4 :: v3 :: v2 :: v1 :: .ref a :: rest) n h ce sl := x_callV hm [v1, v2, v3, v4, v5] rest hK ha he rfl rfl hR hW hd (fun v n' h' hq => by obtain ⟨r, rfl, hq⟩ := hq; exact kk r n' h' hq)
theorem x_callV5l {idx : Nat} {mt : vx_M} {ci : Nat} (hm : xMV F.2.1.1.cls idx mt 5 ci) {d mc ms : Nat} {P : Int64 → Nat → vx_H → Prop} {a : Nat} {v1 v2 v3 v4 v5 : Value} {rest : List Value} (hK : xK F.1 mt d (.ref a :: [v1, v2, v3, v4, v5]) n h mc ms (QJ P)) (ha : a < n) {fs : List Value} (he : h a = .inr (ci, fs)) (hR : xRoom F.2.2.1 mt d mc ms ce sl) (hW : (rest.map fun v => v.category).sum ≤ 8) (hd : decode F.2.1.2.1 pc = .ok (.invokevirtual idx, 3)) (kk : ∀ (r : Int64) (n' : Nat) (h' : vx_H), P r n' h' → xV F (pc + 3) L (.long r :: rest) n' h' (ce + mc) (sl + ms)) : xV F pc L (v5 :: v4 :: v3 :: v2 :: v1 :: .ref a :: rest) n h ce sl := x_callV hm [v1, v2, v3, v4, v5] rest hK ha he rfl rfl hR hW hd (fun v n' h' hq => by obtain ⟨r, rfl, hq⟩ := hq; exact kk r n' h' hq)
theorem x_callV5a {idx : Nat} {mt : vx_M} {ci : Nat} (hm : xMV F.2.1.1.cls idx mt 5 ci) {d mc ms : Nat} {P : Option Nat → Nat → vx_H → Prop} {a : Nat} {v1 v2 v3 v4 v5 : Value} {rest : List Value} (hK : xK F.1 mt d (.ref a :: [v1, v2, v3, v4, v5]) n h mc ms (QA P)) (ha : a < n) {fs : List Value} (he : h a = .inr (ci, fs)) (hR : xRoom F.2.2.1 mt d mc ms ce sl) (hW : (rest.map fun v => v.category).sum ≤ 8) (hd : decode F.2.1.2.1 pc = .ok (.invokevirtual idx, 3)) (kk : ∀ (r : Option Nat) (n' : Nat) (h' : vx_H), P r n' h' → xV F (pc + 3) L (va_rf r :: rest) n' h' (ce + mc) (sl + ms)) : xV F pc L (v5 :: v4 :: v3 :: v2 :: v1 :: .ref a :: rest) n h ce sl := x_callV hm [v1, v2, v3, v4, v5] rest hK ha he rfl rfl hR hW hd (fun v n' h' hq => by obtain ⟨r, rfl, hq⟩ := hq; exact kk r n' h' hq)
theorem x_callV5v {idx : Nat} {mt : vx_M} {ci : Nat} (hm : xMV F.2.1.1.cls idx mt 5 ci) {d mc ms : Nat} {P : Nat → vx_H → Prop} {a : Nat} {v1 v2 v3 v4 v5 : Value} {rest : List Value} (hK : xK F.1 mt d (.ref a :: [v1, v2, v3, v4, v5]) n h mc ms (QV P)) (ha : a < n) {fs : List Value} (he : h a = .inr (ci, fs)) (hR : xRoom F.2.2.1 mt d mc ms ce sl) (hW : (rest.map fun v => v.category).sum ≤ 8) (hd : decode F.2.1.2.1 pc = .ok (.invokevirtual idx, 3)) (kk : ∀ (n' : Nat) (h' : vx_H), P n' h' → xV F (pc + 3) L (rest) n' h' (ce + mc) (sl + ms)) : xV F pc L (v5 :: v4 :: v3 :: v2 :: v1 :: .ref a :: rest) n h ce sl := x_callV hm [v1, v2, v3, v4, v5] rest hK ha he rfl rfl hR hW hd (fun v n' h' hq => by obtain ⟨rfl, hq⟩ := hq; exact kk n' h' hq)
theorem x_callV6i {idx : Nat} {mt : vx_M} {ci : Nat} (hm : xMV F.2.1.1.cls idx mt 6 ci) {d mc ms : Nat} {P : Int32 → Nat → vx_H → Prop} {a : Nat} {v1 v2 v3 v4 v5 v6 : Value} {rest : List Value} (hK : xK F.1 mt d (.ref a :: [v1, v2, v3, v4, v5, v6]) n h mc ms (QI P)) (ha : a < n) {fs : List Value} (he : h a = .inr (ci, fs)) (hR : xRoom F.2.2.1 mt d mc ms ce sl) (hW : (rest.map fun v => v.category).sum ≤ 8) (hd : decode F.2.1.2.1 pc = .ok (.invokevirtual idx, 3)) (kk : ∀ (r : Int32) (n' : Nat) (h' : vx_H), P r n' h' → xV F (pc + 3) L (.int r :: rest) n' h' (ce + mc) (sl + ms)) : xV F pc L (v6 :: v5 :: v4 :: v3 :: v2 :: v1 :: .ref a :: rest) n h ce sl := x_callV hm [v1, v2, v3, v4, v5, v6] rest hK ha he rfl rfl hR hW hd (fun v n' h' hq => by obtain ⟨r, rfl, hq⟩ := hq; exact kk r n' h' hq)
theorem x_callV6l {idx : Nat} {mt : vx_M} {ci : Nat} (hm : xMV F.2.1.1.cls idx mt 6 ci) {d mc ms : Nat} {P : Int64 → Nat → vx_H → Prop} {a : Nat} {v1 v2 v3 v4 v5 v6 : Value} {rest : List Value} (hK : xK F.1 mt d (.ref a :: [v1, v2, v3, v4, v5, v6]) n h mc ms (QJ P)) (ha : a < n) {fs : List Value} (he : h a = .inr (ci, fs)) (hR : xRoom F.2.2.1 mt d mc ms ce sl) (hW : (rest.map fun v => v.category).sum ≤ 8) (hd : decode F.2.1.2.1 pc = .ok (.invokevirtual idx, 3)) (kk : ∀ (r : Int64) (n' : Nat) (h' : vx_H), P r n' h' → xV F (pc + 3) L (.long r :: rest) n' h' (ce + mc) (sl + ms)) : xV F pc L (v6 :: v5 :: v4 :: v3 :: v2 :: v1 :: .ref a :: rest) n h ce sl := x_callV hm [v1, v2, v3, v4, v5, v6] rest hK ha he rfl rfl hR hW hd (fun v n' h' hq => by obtain ⟨r, rfl, hq⟩ := hq; exact kk r n' h' hq)
theorem x_callV6a {idx : Nat} {mt : vx_M} {ci : Nat} (hm : xMV F.2.1.1.cls idx mt 6 ci) {d mc ms : Nat} {P : Option Nat → Nat → vx_H → Prop} {a : Nat} {v1 v2 v3 v4 v5 v6 : Value} {rest : List Value} (hK : xK F.1 mt d (.ref a :: [v1, v2, v3, v4, v5, v6]) n h mc ms (QA P)) (ha : a < n) {fs : List Value} (he : h a = .inr (ci, fs)) (hR : xRoom F.2.2.1 mt d mc ms ce sl) (hW : (rest.map fun v => v.category).sum ≤ 8) (hd : decode F.2.1.2.1 pc = .ok (.invokevirtual idx, 3)) (kk : ∀ (r : Option Nat) (n' : Nat) (h' : vx_H), P r n' h' → xV F (pc + 3) L (va_rf r :: rest) n' h' (ce + mc) (sl + ms)) : xV F pc L (v6 :: v5 :: v4 :: v3 :: v2 :: v1 :: .ref a :: rest) n h ce sl := x_callV hm [v1, v2, v3, v4, v5, v6] rest hK ha he rfl rfl hR hW hd (fun v n' h' hq => by obtain ⟨r, rfl, hq⟩ := hq; exact kk r n' h' hq)
theorem x_callV6v {idx : Nat} {mt : vx_M} {ci : Nat} (hm : xMV F.2.1.1.cls idx mt 6 ci) {d mc ms : Nat} {P : Nat → vx_H → Prop} {a : Nat} {v1 v2 v3 v4 v5 v6 : Value} {rest : List Value} (hK : xK F.1 mt d (.ref a :: [v1, v2, v3, v4, v5, v6]) n h mc ms (QV P)) (ha : a < n) {fs : List Value} (he : h a = .inr (ci, fs)) (hR : xRoom F.2.2.1 mt d mc ms ce sl) (hW : (rest.map fun v => v.category).sum ≤ 8) (hd : decode F.2.1.2.1 pc = .ok (.invokevirtual idx, 3)) (kk : ∀ (n' : Nat) (h' : vx_H), P n' h' → xV F (pc + 3) L (rest) n' h' (ce + mc) (sl + ms)) : xV F pc L (v6 :: v5 :: v4 :: v3 :: v2 :: v1 :: .ref a :: rest) n h ce sl := x_callV hm [v1, v2, v3, v4, v5, v6] rest hK ha he rfl rfl hR hW hd (fun v n' h' hq => by obtain ⟨rfl, hq⟩ := hq; exact kk n' h' hq)
theorem x_callS0i {idx : Nat} {mt : vx_M} (hm : xMS F.2.1.1.cls idx mt 0) {d mc ms : Nat} {P : Int32 → Nat → vx_H → Prop} {rest : List Value} (hK : xK F.1 mt d [] n h mc ms (QI P)) (hR : xRoom F.2.2.1 mt d mc ms ce sl) (hW : (rest.map fun v => v.category).sum ≤ 8) (hd : decode F.2.1.2.1 pc = .ok (.invokestatic idx, 3)) (kk : ∀ (r : Int32) (n' : Nat) (h' : vx_H), P r n' h' → xV F (pc + 3) L (.int r :: rest) n' h' (ce + mc) (sl + ms)) : xV F pc L (rest) n h ce sl := x_callS hm [] rest hK rfl rfl hR hW hd (fun v n' h' hq => by obtain ⟨r, rfl, hq⟩ := hq; exact kk r n' h' hq)
theorem x_callS0l {idx : Nat} {mt : vx_M} (hm : xMS F.2.1.1.cls idx mt 0) {d mc ms : Nat} {P : Int64 → Nat → vx_H → Prop} {rest : List Value} (hK : xK F.1 mt d [] n h mc ms (QJ P)) (hR : xRoom F.2.2.1 mt d mc ms ce sl) (hW : (rest.map fun v => v.category).sum ≤ 8) (hd : decode F.2.1.2.1 pc = .ok (.invokestatic idx, 3)) (kk : ∀ (r : Int64) (n' : Nat) (h' : vx_H), P r n' h' → xV F (pc + 3) L (.long r :: rest) n' h' (ce + mc) (sl + ms)) : xV F pc L (rest) n h ce sl := x_callS hm [] rest hK rfl rfl hR hW hd (fun v n' h' hq => by obtain ⟨r, rfl, hq⟩ := hq; exact kk r n' h' hq)
theorem x_callS0a {idx : Nat} {mt : vx_M} (hm : xMS F.2.1.1.cls idx mt 0) {d mc ms : Nat} {P : Option Nat → Nat → vx_H → Prop} {rest : List Value} (hK : xK F.1 mt d [] n h mc ms (QA P)) (hR : xRoom F.2.2.1 mt d mc ms ce sl) (hW : (rest.map fun v => v.category).sum ≤ 8) (hd : decode F.2.1.2.1 pc = .ok (.invokestatic idx, 3)) (kk : ∀ (r : Option Nat) (n' : Nat) (h' : vx_H), P r n' h' → xV F (pc + 3) L (va_rf r :: rest) n' h' (ce + mc) (sl + ms)) : xV F pc L (rest) n h ce sl := x_callS hm [] rest hK rfl rfl hR hW hd (fun v n' h' hq => by obtain ⟨r, rfl, hq⟩ := hq; exact kk r n' h' hq)
theorem x_callS0v {idx : Nat} {mt : vx_M} (hm : xMS F.2.1.1.cls idx mt 0) {d mc ms : Nat} {P : Nat → vx_H → Prop} {rest : List Value} (hK : xK F.1 mt d [] n h mc ms (QV P)) (hR : xRoom F.2.2.1 mt d mc ms ce sl) (hW : (rest.map fun v => v.category).sum ≤ 8) (hd : decode F.2.1.2.1 pc = .ok (.invokestatic idx, 3)) (kk : ∀ (n' : Nat) (h' : vx_H), P n' h' → xV F (pc + 3) L (rest) n' h' (ce + mc) (sl + ms)) : xV F pc L (rest) n h ce sl := x_callS hm [] rest hK rfl rfl hR hW hd (fun v n' h' hq => by obtain ⟨rfl, hq⟩ := hq; exact kk n' h' hq)
theorem x_callS1i {idx : Nat} {mt : vx_M} (hm : xMS F.2.1.1.cls idx mt 1) {d mc ms : Nat} {P : Int32 → Nat → vx_H → Prop} {v1 : Value} {rest : List Value} (hK : xK F.1 mt d [v1] n h mc ms (QI P)) (hR : xRoom F.2.2.1 mt d mc ms ce sl) (hW : (rest.map fun v => v.category).sum ≤ 8) (hd : decode F.2.1.2.1 pc = .ok (.invokestatic idx, 3)) (kk : ∀ (r : Int32) (n' : Nat) (h' : vx_H), P r n' h' → xV F (pc + 3) L (.int r :: rest) n' h' (ce + mc) (sl + ms)) : xV F pc L (v1 :: rest) n h ce sl := x_callS hm [v1] rest hK rfl rfl hR hW hd (fun v n' h' hq => by obtain ⟨r, rfl, hq⟩ := hq; exact kk r n' h' hq)
theorem x_callS1l {idx : Nat} {mt : vx_M} (hm : xMS F.2.1.1.cls idx mt 1) {d mc ms : Nat} {P : Int64 → Nat → vx_H → Prop} {v1 : Value} {rest : List Value} (hK : xK F.1 mt d [v1] n h mc ms (QJ P)) (hR : xRoom F.2.2.1 mt d mc ms ce sl) (hW : (rest.map fun v => v.category).sum ≤ 8) (hd : decode F.2.1.2.1 pc = .ok (.invokestatic idx, 3)) (kk : ∀ (r : Int64) (n' : Nat) (h' : vx_H), P r n' h' → xV F (pc + 3) L (.long r :: rest) n' h' (ce + mc) (sl + ms)) : xV F pc L (v1 :: rest) n h ce sl := x_callS hm [v1] rest hK rfl rfl hR hW hd (fun v n' h' hq => by obtain ⟨r, rfl, hq⟩ := hq; exact kk r n' h' hq)
theorem x_callS1a {idx : Nat} {mt : vx_M} (hm : xMS F.2.1.1.cls idx mt 1) {d mc ms : Nat} {P : Option Nat → Nat → vx_H → Prop} {v1 : Value} {rest : List Value} (hK : xK F.1 mt d [v1] n h mc ms (QA P)) (hR : xRoom F.2.2.1 mt d mc ms ce sl) (hW : (rest.map fun v => v.category).sum ≤ 8) (hd : decode F.2.1.2.1 pc = .ok (.invokestatic idx, 3)) (kk : ∀ (r : Option Nat) (n' : Nat) (h' : vx_H), P r n' h' → xV F (pc + 3) L (va_rf r :: rest) n' h' (ce + mc) (sl + ms)) : xV F pc L (v1 :: rest) n h ce sl := x_callS hm [v1] rest hK rfl rfl hR hW hd (fun v n' h' hq => by obtain ⟨r, rfl, hq⟩ := hq; exact kk r n' h' hq)
theorem x_callS1v {idx : Nat} {mt : vx_M} (hm : xMS F.2.1.1.cls idx mt 1) {d mc ms : Nat} {P : Nat → vx_H → Prop} {v1 : Value} {rest : List Value} (hK : xK F.1 mt d [v1] n h mc ms (QV P)) (hR : xRoom F.2.2.1 mt d mc ms ce sl) (hW : (rest.map fun v => v.category).sum ≤ 8) (hd : decode F.2.1.2.1 pc = .ok (.invokestatic idx, 3)) (kk : ∀ (n' : Nat) (h' : vx_H), P n' h' → xV F (pc + 3) L (rest) n' h' (ce + mc) (sl + ms)) : xV F pc L (v1 :: rest) n h ce sl := x_callS hm [v1] rest hK rfl rfl hR hW hd (fun v n' h' hq => by obtain ⟨rfl, hq⟩ := hq; exact kk n' h' hq)
theorem x_callS2i {idx : Nat} {mt : vx_M} (hm : xMS F.2.1.1.cls idx mt 2) {d mc ms : Nat} {P : Int32 → Nat → vx_H → Prop} {v1 v2 : Value} {rest : List Value} (hK : xK F.1 mt d [v1, v2] n h mc ms (QI P)) (hR : xRoom F.2.2.1 mt d mc ms ce sl) (hW : (rest.map fun v => v.category).sum ≤ 8) (hd : decode F.2.1.2.1 pc = .ok (.invokestatic idx, 3)) (kk : ∀ (r : Int32) (n' : Nat) (h' : vx_H), P r n' h' → xV F (pc + 3) L (.int r :: rest) n' h' (ce + mc) (sl + ms)) : xV F pc L (v2 :: v1 :: rest) n h ce sl := x_callS hm [v1, v2] rest hK rfl rfl hR hW hd (fun v n' h' hq => by obtain ⟨r, rfl, hq⟩ := hq; exact kk r n' h' hq)
theorem x_callS2l {idx : Nat} {mt : vx_M} (hm : xMS F.2.1.1.cls idx mt 2) {d mc ms : Nat} {P : Int64 → Nat → vx_H → Prop} {v1 v2 : Value} {rest : List Value} (hK : xK F.1 mt d [v1, v2] n h mc ms (QJ P)) (hR : xRoom F.2.2.1 mt d mc ms ce sl) (hW : (rest.map fun v => v.category).sum ≤ 8) (hd : decode F.2.1.2.1 pc = .ok (.invokestatic idx, 3)) (kk : ∀ (r : Int64) (n' : Nat) (h' : vx_H), P r n' h' → xV F (pc + 3) L (.long r :: rest) n' h' (ce + mc) (sl + ms)) : xV F pc L (v2 :: v1 :: rest) n h ce sl := x_callS hm [v1, v2] rest hK rfl rfl hR hW hd (fun v n' h' hq => by obtain ⟨r, rfl, hq⟩ := hq; exact kk r n' h' hq)
theorem x_callS2a {idx : Nat} {mt : vx_M} (hm : xMS F.2.1.1.cls idx mt 2) {d mc ms : Nat} {P : Option Nat → Nat → vx_H → Prop} {v1 v2 : Value} {rest : List Value} (hK : xK F.1 mt d [v1, v2] n h mc ms (QA P)) (hR : xRoom F.2.2.1 mt d mc ms ce sl) (hW : (rest.map fun v => v.category).sum ≤ 8) (hd : decode F.2.1.2.1 pc = .ok (.invokestatic idx, 3)) (kk : ∀ (r : Option Nat) (n' : Nat) (h' : vx_H), P r n' h' → xV F (pc + 3) L (va_rf r :: rest) n' h' (ce + mc) (sl + ms)) : xV F pc L (v2 :: v1 :: rest) n h ce sl := x_callS hm [v1, v2] rest hK rfl rfl hR hW hd (fun v n' h' hq => by obtain ⟨r, rfl, hq⟩ := hq; exact kk r n' h' hq)
theorem x_callS2v {idx : Nat} {mt : vx_M} (hm : xMS F.2.1.1.cls idx mt 2) {d mc ms : Nat} {P : Nat → vx_H → Prop} {v1 v2 : Value} {rest : List Value} (hK : xK F.1 mt d [v1, v2] n h mc ms (QV P)) (hR : xRoom F.2.2.1 mt d mc ms ce sl) (hW : (rest.map fun v => v.category).sum ≤ 8) (hd : decode F.2.1.2.1 pc = .ok (.invokestatic idx, 3)) (kk : ∀ (n' : Nat) (h' : vx_H), P n' h' → xV F (pc + 3) L (rest) n' h' (ce + mc) (sl + ms)) : xV F pc L (v2 :: v1 :: rest) n h ce sl := x_callS hm [v1, v2] rest hK rfl rfl hR hW hd (fun v n' h' hq => by obtain ⟨rfl, hq⟩ := hq; exact kk n' h' hq)
theorem x_callS3i {idx : Nat} {mt : vx_M} (hm : xMS F.2.1.1.cls idx mt 3) {d mc ms : Nat} {P : Int32 → Nat → vx_H → Prop} {v1 v2 v3 : Value} {rest : List Value} (hK : xK F.1 mt d [v1, v2, v3] n h mc ms (QI P)) (hR : xRoom F.2.2.1 mt d mc ms ce sl) (hW : (rest.map fun v => v.category).sum ≤ 8) (hd : decode F.2.1.2.1 pc = .ok (.invokestatic idx, 3)) (kk : ∀ (r : Int32) (n' : Nat) (h' : vx_H), P r n' h' → xV F (pc + 3) L (.int r :: rest) n' h' (ce + mc) (sl + ms)) : xV F pc L (v3 :: v2 :: v1 :: rest) n h ce sl := x_callS hm [v1, v2, v3] rest hK rfl rfl hR hW hd (fun v n' h' hq => by obtain ⟨r, rfl, hq⟩ := hq; exact kk r n' h' hq)
theorem x_callS3l {idx : Nat} {mt : vx_M} (hm : xMS F.2.1.1.cls idx mt 3) {d mc ms : Nat} {P : Int64 → Nat → vx_H → Prop} {v1 v2 v3 : Value} {rest : List Value} (hK : xK F.1 mt d [v1, v2, v3] n h mc ms (QJ P)) (hR : xRoom F.2.2.1 mt d mc ms ce sl) (hW : (rest.map fun v => v.category).sum ≤ 8) (hd : decode F.2.1.2.1 pc = .ok (.invokestatic idx, 3)) (kk : ∀ (r : Int64) (n' : Nat) (h' : vx_H), P r n' h' → xV F (pc + 3) L (.long r :: rest) n' h' (ce + mc) (sl + ms)) : xV F pc L (v3 :: v2 :: v1 :: rest) n h ce sl := x_callS hm [v1, v2, v3] rest hK rfl rfl hR hW hd (fun v n' h' hq => by obtain ⟨r, rfl, hq⟩ := hq; exact kk r n' h' hq)
theorem x_callS3a {idx : Nat} {mt : vx_M} (hm : xMS F.2.1.1.cls idx mt 3) {d mc ms : Nat} {P : Option Nat → Nat → vx_H → Prop} {v1 v2 v3 : Value} {rest : List Value} (hK : xK F.1 mt d [v1, v2, v3] n h mc ms (QA P)) (hR : xRoom F.2.2.1 mt d mc ms ce sl) (hW : (rest.map fun v => v.category).sum ≤ 8) (hd : decode F.2.1.2.1 pc = .ok (.invokestatic idx, 3)) (kk : ∀ (r : Option Nat) (n' : Nat) (h' : vx_H), P r n' h' → xV F (pc + 3) L (va_rf r :: rest) n' h' (ce + mc) (sl + ms)) : xV F pc L (v3 :: v2 :: v1 :: rest) n h ce sl := x_callS hm [v1, v2, v3] rest hK rfl rfl hR hW hd (fun v n' h' hq => by obtain ⟨r, rfl, hq⟩ := hq; exact kk r n' h' hq)
theorem x_callS3v {idx : Nat} {mt : vx_M} (hm : xMS F.2.1.1.cls idx mt 3) {d mc ms : Nat} {P : Nat → vx_H → Prop} {v1 v2 v3 : Value} {rest : List Value} (hK : xK F.1 mt d [v1, v2, v3] n h mc ms (QV P)) (hR : xRoom F.2.2.1 mt d mc ms ce sl) (hW : (rest.map fun v => v.category).sum ≤ 8) (hd : decode F.2.1.2.1 pc = .ok (.invokestatic idx, 3)) (kk : ∀ (n' : Nat) (h' : vx_H), P n' h' → xV F (pc + 3) L (rest) n' h' (ce + mc) (sl + ms)) : xV F pc L (v3 :: v2 :: v1 :: rest) n h ce sl := x_callS hm [v1, v2, v3] rest hK rfl rfl hR hW hd (fun v n' h' hq => by obtain ⟨rfl, hq⟩ := hq; exact kk n' h' hq)
theorem x_callS4i {idx : Nat} {mt : vx_M} (hm : xMS F.2.1.1.cls idx mt 4) {d mc ms : Nat} {P : Int32 → Nat → vx_H → Prop} {v1 v2 v3 v4 : Value} {rest : List Value} (hK : xK F.1 mt d [v1, v2, v3, v4] n h mc ms (QI P)) (hR : xRoom F.2.2.1 mt d mc ms ce sl) (hW : (rest.map fun v => v.category).sum ≤ 8) (hd : decode F.2.1.2.1 pc = .ok (.invokestatic idx, 3)) (kk : ∀ (r : Int32) (n' : Nat) (h' : vx_H), P r n' h' → xV F (pc + 3) L (.int r :: rest) n' h' (ce + mc) (sl + ms)) : xV F pc L (v4 :: v3 :: v2 :: v1 :: rest) n h ce sl := x_callS hm [v1, v2, v3, v4] rest hK rfl rfl hR hW hd (fun v n' h' hq => by obtain ⟨r, rfl, hq⟩ := hq; exact kk r n' h' hq)
theorem x_callS4l {idx : Nat} {mt : vx_M} (hm : xMS F.2.1.1.cls idx mt 4) {d mc ms : Nat} {P : Int64 → Nat → vx_H → Prop} {v1 v2 v3 v4 : Value} {rest : List Value} (hK : xK F.1 mt d [v1, v2, v3, v4] n h mc ms (QJ P)) (hR : xRoom F.2.2.1 mt d mc ms ce sl) (hW : (rest.map fun v => v.category).sum ≤ 8) (hd : decode F.2.1.2.1 pc = .ok (.invokestatic idx, 3)) (kk : ∀ (r : Int64) (n' : Nat) (h' : vx_H), P r n' h' → xV F (pc + 3) L (.long r :: rest) n' h' (ce + mc) (sl + ms)) : xV F pc L (v4 :: v3 :: v2 :: v1 :: rest) n h ce sl := x_callS hm [v1, v2, v3, v4] rest hK rfl rfl hR hW hd (fun v n' h' hq => by obtain ⟨r, rfl, hq⟩ := hq; exact kk r n' h' hq)
theorem x_callS4a {idx : Nat} {mt : vx_M} (hm : xMS F.2.1.1.cls idx mt 4) {d mc ms : Nat} {P : Option Nat → Nat → vx_H → Prop} {v1 v2 v3 v4 : Value} {rest : List Value} (hK : xK F.1 mt d [v1, v2, v3, v4] n h mc ms (QA P)) (hR : xRoom F.2.2.1 mt d mc ms ce sl) (hW : (rest.map fun v => v.category).sum ≤ 8) (hd : decode F.2.1.2.1 pc = .ok (.invokestatic idx, 3)) (kk : ∀ (r : Option Nat) (n' : Nat) (h' : vx_H), P r n' h' → xV F (pc + 3) L (va_rf r :: rest) n' h' (ce + mc) (sl + ms)) : xV F pc L (v4 :: v3 :: v2 :: v1 :: rest) n h ce sl := x_callS hm [v1, v2, v3, v4] rest hK rfl rfl hR hW hd (fun v n' h' hq => by obtain ⟨r, rfl, hq⟩ := hq; exact kk r n' h' hq)
theorem x_callS4v {idx : Nat} {mt : vx_M} (hm : xMS F.2.1.1.cls idx mt 4) {d mc ms : Nat} {P : Nat → vx_H → Prop} {v1 v2 v3 v4 : Value} {rest : List Value} (hK : xK F.1 mt d [v1, v2, v3, v4] n h mc ms (QV P)) (hR : xRoom F.2.2.1 mt d mc ms ce sl) (hW : (rest.map fun v => v.category).sum ≤ 8) (hd : decode F.2.1.2.1 pc = .ok (.invokestatic idx, 3)) (kk : ∀ (n' : Nat) (h' : vx_H), P n' h' → xV F (pc + 3) L (rest) n' h' (ce + mc) (sl + ms)) : xV F pc L (v4 :: v3 :: v2 :: v1 :: rest) n h ce sl := x_callS hm [v1, v2, v3, v4] rest hK rfl rfl hR hW hd (fun v n' h' hq => by obtain ⟨rfl, hq⟩ := hq; exact kk n' h' hq)
theorem x_callS5i {idx : Nat} {mt : vx_M} (hm : xMS F.2.1.1.cls idx mt 5) {d mc ms : Nat} {P : Int32 → Nat → vx_H → Prop} {v1 v2 v3 v4 v5 : Value} {rest : List Value} (hK : xK F.1 mt d [v1, v2, v3, v4, v5] n h mc ms (QI P)) (hR : xRoom F.2.2.1 mt d mc ms ce sl) (hW : (rest.map fun v => v.category).sum ≤ 8) (hd : decode F.2.1.2.1 pc = .ok (.invokestatic idx, 3)) (kk : ∀ (r : Int32) (n' : Nat) (h' : vx_H), P r n' h' → xV F (pc + 3) L (.int r :: rest) n' h' (ce + mc) (sl + ms)) : xV F pc L (v5 :: v4 :: v3 :: v2 :: v1 :: rest) n h ce sl := x_callS hm [v1, v2, v3, v4, v5] rest hK rfl rfl hR hW hd (fun v n' h' hq => by obtain ⟨r, rfl, hq⟩ := hq; exact kk r n' h' hq)
theorem x_callS5l {idx : Nat} {mt : vx_M} (hm : xMS F.2.1.1.cls idx mt 5) {d mc ms : Nat} {P : Int64 → Nat → vx_H → Prop} {v1 v2 v3 v4 v5 : Value} {rest : List Value} (hK : xK F.1 mt d [v1, v2, v3, v4, v5] n h mc ms (QJ P)) (hR : xRoom F.2.2.1 mt d mc ms ce sl) (hW : (rest.map fun v => v.category).sum ≤ 8) (hd : decode F.2.1.2.1 pc = .ok (.invokestatic idx, 3)) (kk : ∀ (r : Int64) (n' : Nat) (h' : vx_H), P r n' h' → xV F (pc + 3) L (.long r :: rest) n' h' (ce + mc) (sl + ms)) : xV F pc L (v5 :: v4 :: v3 :: v2 :: v1 :: rest) n h ce sl := x_callS hm [v1, v2, v3, v4, v5] rest hK rfl rfl hR hW hd (fun v n' h' hq => by obtain ⟨r, rfl, hq⟩ := hq; exact kk r n' h' hq)
theorem x_callS5a {idx : Nat} {mt : vx_M} (hm : xMS F.2.1.1.cls idx mt 5) {d mc ms : Nat} {P : Option Nat → Nat → vx_H → Prop} {v1 v2 v3 v4 v5 : Value} {rest : List Value} (hK : xK F.1 mt d [v1, v2, v3, v4, v5] n h mc ms (QA P)) (hR : xRoom F.2.2.1 mt d mc ms ce sl) (hW : (rest.map fun v => v.category).sum ≤ 8) (hd : decode F.2.1.2.1 pc = .ok (.invokestatic idx, 3)) (kk : ∀ (r : Option Nat) (n' : Nat) (h' : vx_H), P r n' h' → xV F (pc + 3) L (va_rf r :: rest) n' h' (ce + mc) (sl + ms)) : xV F pc L (v5 :: v4 :: v3 :: v2 :: v1 :: rest) n h ce sl := x_callS hm [v1, v2, v3, v4, v5] rest hK rfl rfl hR hW hd (fun v n' h' hq => by obtain ⟨r, rfl, hq⟩ := hq; exact kk r n' h' hq)
theorem x_callS5v {idx : Nat} {mt : vx_M} (hm : xMS F.2.1.1.cls idx mt 5) {d mc ms : Nat} {P : Nat → vx_H → Prop} {v1 v2 v3 v4 v5 : Value} {rest : List Value} (hK : xK F.1 mt d [v1, v2, v3, v4, v5] n h mc ms (QV P)) (hR : xRoom F.2.2.1 mt d mc ms ce sl) (hW : (rest.map fun v => v.category).sum ≤ 8) (hd : decode F.2.1.2.1 pc = .ok (.invokestatic idx, 3)) (kk : ∀ (n' : Nat) (h' : vx_H), P n' h' → xV F (pc + 3) L (rest) n' h' (ce + mc) (sl + ms)) : xV F pc L (v5 :: v4 :: v3 :: v2 :: v1 :: rest) n h ce sl := x_callS hm [v1, v2, v3, v4, v5] rest hK rfl rfl hR hW hd (fun v n' h' hq => by obtain ⟨rfl, hq⟩ := hq; exact kk n' h' hq)
theorem x_callS6i {idx : Nat} {mt : vx_M} (hm : xMS F.2.1.1.cls idx mt 6) {d mc ms : Nat} {P : Int32 → Nat → vx_H → Prop} {v1 v2 v3 v4 v5 v6 : Value} {rest : List Value} (hK : xK F.1 mt d [v1, v2, v3, v4, v5, v6] n h mc ms (QI P)) (hR : xRoom F.2.2.1 mt d mc ms ce sl) (hW : (rest.map fun v => v.category).sum ≤ 8) (hd : decode F.2.1.2.1 pc = .ok (.invokestatic idx, 3)) (kk : ∀ (r : Int32) (n' : Nat) (h' : vx_H), P r n' h' → xV F (pc + 3) L (.int r :: rest) n' h' (ce + mc) (sl + ms)) : xV F pc L (v6 :: v5 :: v4 :: v3 :: v2 :: v1 :: rest) n h ce sl := x_callS hm [v1, v2, v3, v4, v5, v6] rest hK rfl rfl hR hW hd (fun v n' h' hq => by obtain ⟨r, rfl, hq⟩ := hq; exact kk r n' h' hq)
theorem x_callS6l {idx : Nat} {mt : vx_M} (hm : xMS F.2.1.1.cls idx mt 6) {d mc ms : Nat} {P : Int64 → Nat → vx_H → Prop} {v1 v2 v3 v4 v5 v6 : Value} {rest : List Value} (hK : xK F.1 mt d [v1, v2, v3, v4, v5, v6] n h mc ms (QJ P)) (hR : xRoom F.2.2.1 mt d mc ms ce sl) (hW : (rest.map fun v => v.category).sum ≤ 8) (hd : decode F.2.1.2.1 pc = .ok (.invokestatic idx, 3)) (kk : ∀ (r : Int64) (n' : Nat) (h' : vx_H), P r n' h' → xV F (pc + 3) L (.long r :: rest) n' h' (ce + mc) (sl + ms)) : xV F pc L (v6 :: v5 :: v4 :: v3 :: v2 :: v1 :: rest) n h ce sl := x_callS hm [v1, v2, v3, v4, v5, v6] rest hK rfl rfl hR hW hd (fun v n' h' hq => by obtain ⟨r, rfl, hq⟩ := hq; exact kk r n' h' hq)
theorem x_callS6a {idx : Nat} {mt : vx_M} (hm : xMS F.2.1.1.cls idx mt 6) {d mc ms : Nat} {P : Option Nat → Nat → vx_H → Prop} {v1 v2 v3 v4 v5 v6 : Value} {rest : List Value} (hK : xK F.1 mt d [v1, v2, v3, v4, v5, v6] n h mc ms (QA P)) (hR : xRoom F.2.2.1 mt d mc ms ce sl) (hW : (rest.map fun v => v.category).sum ≤ 8) (hd : decode F.2.1.2.1 pc = .ok (.invokestatic idx, 3)) (kk : ∀ (r : Option Nat) (n' : Nat) (h' : vx_H), P r n' h' → xV F (pc + 3) L (va_rf r :: rest) n' h' (ce + mc) (sl + ms)) : xV F pc L (v6 :: v5 :: v4 :: v3 :: v2 :: v1 :: rest) n h ce sl := x_callS hm [v1, v2, v3, v4, v5, v6] rest hK rfl rfl hR hW hd (fun v n' h' hq => by obtain ⟨r, rfl, hq⟩ := hq; exact kk r n' h' hq)
theorem x_callS6v {idx : Nat} {mt : vx_M} (hm : xMS F.2.1.1.cls idx mt 6) {d mc ms : Nat} {P : Nat → vx_H → Prop} {v1 v2 v3 v4 v5 v6 : Value} {rest : List Value} (hK : xK F.1 mt d [v1, v2, v3, v4, v5, v6] n h mc ms (QV P)) (hR : xRoom F.2.2.1 mt d mc ms ce sl) (hW : (rest.map fun v => v.category).sum ≤ 8) (hd : decode F.2.1.2.1 pc = .ok (.invokestatic idx, 3)) (kk : ∀ (n' : Nat) (h' : vx_H), P n' h' → xV F (pc + 3) L (rest) n' h' (ce + mc) (sl + ms)) : xV F pc L (v6 :: v5 :: v4 :: v3 :: v2 :: v1 :: rest) n h ce sl := x_callS hm [v1, v2, v3, v4, v5, v6] rest hK rfl rfl hR hW hd (fun v n' h' hq => by obtain ⟨rfl, hq⟩ := hq; exact kk n' h' hq)
theorem x_callI0v {idx : Nat} {mt : vx_M} (hm : xMI F.2.1.1.cls idx mt 0) {d mc ms : Nat} {P : Nat → vx_H → Prop} {a : Nat} {rest : List Value} (hK : xK F.1 mt d (.ref a :: []) n h mc ms (QV P)) (hR : xRoom F.2.2.1 mt d mc ms ce sl) (hW : (rest.map fun v => v.category).sum ≤ 8) (hd : decode F.2.1.2.1 pc = .ok (.invokespecial idx, 3)) (kk : ∀ (n' : Nat) (h' : vx_H), P n' h' → xV F (pc + 3) L (rest) n' h' (ce + mc) (sl + ms)) : xV F pc L (.ref a :: rest) n h ce sl := x_callI hm [] rest hK rfl rfl hR hW hd (fun v n' h' hq => by obtain ⟨rfl, hq⟩ := hq; exact kk n' h' hq)
theorem x_callI1v {idx : Nat} {mt : vx_M} (hm : xMI F.2.1.1.cls idx mt 1) {d mc ms : Nat} {P : Nat → vx_H → Prop} {a : Nat} {v1 : Value} {rest : List Value} (hK : xK F.1 mt d (.ref a :: [v1]) n h mc ms (QV P)) (hR : xRoom F.2.2.1 mt d mc ms ce sl) (hW : (rest.map fun v => v.category).sum ≤ 8) (hd : decode F.2.1.2.1 pc = .ok (.invokespecial idx, 3)) (kk : ∀ (n' : Nat) (h' : vx_H), P n' h' → xV F (pc + 3) L (rest) n' h' (ce + mc) (sl + ms)) : xV F pc L (v1 :: .ref a :: rest) n h ce sl := x_callI hm [v1] rest hK rfl rfl hR hW hd (fun v n' h' hq => by obtain ⟨rfl, hq⟩ := hq; exact kk n' h' hq)
theorem x_callI2v {idx : Nat} {mt : vx_M} (hm : xMI F.2.1.1.cls idx mt 2) {d mc ms : Nat} {P : Nat → vx_H → Prop} {a : Nat} {v1 v2 : Value} {rest : List Value} (hK : xK F.1 mt d (.ref a :: [v1, v2]) n h mc ms (QV P)) (hR : xRoom F.2.2.1 mt d mc ms ce sl) (hW : (rest.map fun v => v.category).sum ≤ 8) (hd : decode F.2.1.2.1 pc = .ok (.invokespecial idx, 3)) (kk : ∀ (n' : Nat) (h' : vx_H), P n' h' → xV F (pc + 3) L (rest) n' h' (ce + mc) (sl + ms)) : xV F pc L (v2 :: v1 :: .ref a :: rest) n h ce sl := x_callI hm [v1, v2] rest hK rfl rfl hR hW hd (fun v n' h' hq => by obtain ⟨rfl, hq⟩ := hq; exact kk n' h' hq)
theorem x_callI3v {idx : Nat} {mt : vx_M} (hm : xMI F.2.1.1.cls idx mt 3) {d mc ms : Nat} {P : Nat → vx_H → Prop} {a : Nat} {v1 v2 v3 : Value} {rest : List Value} (hK : xK F.1 mt d (.ref a :: [v1, v2, v3]) n h mc ms (QV P)) (hR : xRoom F.2.2.1 mt d mc ms ce sl) (hW : (rest.map fun v => v.category).sum ≤ 8) (hd : decode F.2.1.2.1 pc = .ok (.invokespecial idx, 3)) (kk : ∀ (n' : Nat) (h' : vx_H), P n' h' → xV F (pc + 3) L (rest) n' h' (ce + mc) (sl + ms)) : xV F pc L (v3 :: v2 :: v1 :: .ref a :: rest) n h ce sl := x_callI hm [v1, v2, v3] rest hK rfl rfl hR hW hd (fun v n' h' hq => by obtain ⟨rfl, hq⟩ := hq; exact kk n' h' hq)
theorem x_callI4v {idx : Nat} {mt : vx_M} (hm : xMI F.2.1.1.cls idx mt 4) {d mc ms : Nat} {P : Nat → vx_H → Prop} {a : Nat} {v1 v2 v3 v4 : Value} {rest : List Value} (hK : xK F.1 mt d (.ref a :: [v1, v2, v3, v4]) n h mc ms (QV P)) (hR : xRoom F.2.2.1 mt d mc ms ce sl) (hW : (rest.map fun v => v.category).sum ≤ 8) (hd : decode F.2.1.2.1 pc = .ok (.invokespecial idx, 3)) (kk : ∀ (n' : Nat) (h' : vx_H), P n' h' → xV F (pc + 3) L (rest) n' h' (ce + mc) (sl + ms)) : xV F pc L (v4 :: v3 :: v2 :: v1 :: .ref a :: rest) n h ce sl := x_callI hm [v1, v2, v3, v4] rest hK rfl rfl hR hW hd (fun v n' h' hq => by obtain ⟨rfl, hq⟩ := hq; exact kk n' h' hq)
theorem x_callI5v {idx : Nat} {mt : vx_M} (hm : xMI F.2.1.1.cls idx mt 5) {d mc ms : Nat} {P : Nat → vx_H → Prop} {a : Nat} {v1 v2 v3 v4 v5 : Value} {rest : List Value} (hK : xK F.1 mt d (.ref a :: [v1, v2, v3, v4, v5]) n h mc ms (QV P)) (hR : xRoom F.2.2.1 mt d mc ms ce sl) (hW : (rest.map fun v => v.category).sum ≤ 8) (hd : decode F.2.1.2.1 pc = .ok (.invokespecial idx, 3)) (kk : ∀ (n' : Nat) (h' : vx_H), P n' h' → xV F (pc + 3) L (rest) n' h' (ce + mc) (sl + ms)) : xV F pc L (v5 :: v4 :: v3 :: v2 :: v1 :: .ref a :: rest) n h ce sl := x_callI hm [v1, v2, v3, v4, v5] rest hK rfl rfl hR hW hd (fun v n' h' hq => by obtain ⟨rfl, hq⟩ := hq; exact kk n' h' hq)
theorem x_callI6v {idx : Nat} {mt : vx_M} (hm : xMI F.2.1.1.cls idx mt 6) {d mc ms : Nat} {P : Nat → vx_H → Prop} {a : Nat} {v1 v2 v3 v4 v5 v6 : Value} {rest : List Value} (hK : xK F.1 mt d (.ref a :: [v1, v2, v3, v4, v5, v6]) n h mc ms (QV P)) (hR : xRoom F.2.2.1 mt d mc ms ce sl) (hW : (rest.map fun v => v.category).sum ≤ 8) (hd : decode F.2.1.2.1 pc = .ok (.invokespecial idx, 3)) (kk : ∀ (n' : Nat) (h' : vx_H), P n' h' → xV F (pc + 3) L (rest) n' h' (ce + mc) (sl + ms)) : xV F pc L (v6 :: v5 :: v4 :: v3 :: v2 :: v1 :: .ref a :: rest) n h ce sl := x_callI hm [v1, v2, v3, v4, v5, v6] rest hK rfl rfl hR hW hd (fun v n' h' hq => by obtain ⟨rfl, hq⟩ := hq; exact kk n' h' hq)
theorem x_callN0v {idx : Nat} {mt : vx_M} {host : String} (hm : xMN F.2.1.1.cls idx mt 0 host) {d mc ms : Nat} {P : Nat → vx_H → Prop} {a : Nat} {rest : List Value} (hK : xK F.1 mt d (.ref a :: []) n h mc ms (QV P)) (hR : xRoom F.2.2.1 mt d mc ms ce sl) (hW : (rest.map fun v => v.category).sum ≤ 8) (hd : decode F.2.1.2.1 pc = .ok (.invokespecial idx, 3)) (kk : ∀ (n' : Nat) (h' : vx_H), P n' h' → xV F (pc + 3) L (rest) n' h' (ce + mc) (sl + ms)) : xV F pc L (.ref a :: rest) n h ce sl := x_callN hm [] rest hK rfl rfl hR hW hd (fun v n' h' hq => by obtain ⟨rfl, hq⟩ := hq; exact kk n' h' hq)
theorem x_callN1v {idx : Nat} {mt : vx_M} {host : String} (hm : xMN F.2.1.1.cls idx mt 1 host) {d mc ms : Nat} {P : Nat → vx_H → Prop} {a : Nat} {v1 : Value} {rest : List Value} (hK : xK F.1 mt d (.ref a :: [v1]) n h mc ms (QV P)) (hR : xRoom F.2.2.1 mt d mc ms ce sl) (hW : (rest.map fun v => v.category).sum ≤ 8) (hd : decode F.2.1.2.1 pc = .ok (.invokespecial idx, 3)) (kk : ∀ (n' : Nat) (h' : vx_H), P n' h' → xV F (pc + 3) L (rest) n' h' (ce + mc) (sl + ms)) : xV F pc L (v1 :: .ref a :: rest) n h ce sl := x_callN hm [v1] rest hK rfl rfl hR hW hd (fun v n' h' hq => by obtain ⟨rfl, hq⟩ := hq; exact kk n' h' hq)
theorem x_callN2v {idx : Nat} {mt : vx_M} {host : String} (hm : xMN F.2.1.1.cls idx mt 2 host) {d mc ms : Nat} {P : Nat → vx_H → Prop} {a : Nat} {v1 v2 : Value} {rest : List Value} (hK : xK F.1 mt d (.ref a :: [v1, v2]) n h mc ms (QV P)) (hR : xRoom F.2.2.1 mt d mc ms ce sl) (hW : (rest.map fun v => v.category).sum ≤ 8) (hd : decode F.2.1.2.1 pc = .ok (.invokespecial idx, 3)) (kk : ∀ (n' : Nat) (h' : vx_H), P n' h' → xV F (pc + 3) L (rest) n' h' (ce + mc) (sl + ms)) : xV F pc L (v2 :: v1 :: .ref a :: rest) n h ce sl := x_callN hm [v1, v2] rest hK rfl rfl hR hW hd (fun v n' h' hq => by obtain ⟨rfl, hq⟩ := hq; exact kk n' h' hq)
theorem x_callN3v {idx : Nat} {mt : vx_M} {host : String} (hm : xMN F.2.1.1.cls idx mt 3 host) {d mc ms : Nat} {P : Nat → vx_H → Prop} {a : Nat} {v1 v2 v3 : Value} {rest : List Value} (hK : xK F.1 mt d (.ref a :: [v1, v2, v3]) n h mc ms (QV P)) (hR : xRoom F.2.2.1 mt d mc ms ce sl) (hW : (rest.map fun v => v.category).sum ≤ 8) (hd : decode F.2.1.2.1 pc = .ok (.invokespecial idx, 3)) (kk : ∀ (n' : Nat) (h' : vx_H), P n' h' → xV F (pc + 3) L (rest) n' h' (ce + mc) (sl + ms)) : xV F pc L (v3 :: v2 :: v1 :: .ref a :: rest) n h ce sl := x_callN hm [v1, v2, v3] rest hK rfl rfl hR hW hd (fun v n' h' hq => by obtain ⟨rfl, hq⟩ := hq; exact kk n' h' hq)
theorem x_callN4v {idx : Nat} {mt : vx_M} {host : String} (hm : xMN F.2.1.1.cls idx mt 4 host) {d mc ms : Nat} {P : Nat → vx_H → Prop} {a : Nat} {v1 v2 v3 v4 : Value} {rest : List Value} (hK : xK F.1 mt d (.ref a :: [v1, v2, v3, v4]) n h mc ms (QV P)) (hR : xRoom F.2.2.1 mt d mc ms ce sl) (hW : (rest.map fun v => v.category).sum ≤ 8) (hd : decode F.2.1.2.1 pc = .ok (.invokespecial idx, 3)) (kk : ∀ (n' : Nat) (h' : vx_H), P n' h' → xV F (pc + 3) L (rest) n' h' (ce + mc) (sl + ms)) : xV F pc L (v4 :: v3 :: v2 :: v1 :: .ref a :: rest) n h ce sl := x_callN hm [v1, v2, v3, v4] rest hK rfl rfl hR hW hd (fun v n' h' hq => by obtain ⟨rfl, hq⟩ := hq; exact kk n' h' hq)
theorem x_callN5v {idx : Nat} {mt : vx_M} {host : String} (hm : xMN F.2.1.1.cls idx mt 5 host) {d mc ms : Nat} {P : Nat → vx_H → Prop} {a : Nat} {v1 v2 v3 v4 v5 : Value} {rest : List Value} (hK : xK F.1 mt d (.ref a :: [v1, v2, v3, v4, v5]) n h mc ms (QV P)) (hR : xRoom F.2.2.1 mt d mc ms ce sl) (hW : (rest.map fun v => v.category).sum ≤ 8) (hd : decode F.2.1.2.1 pc = .ok (.invokespecial idx, 3)) (kk : ∀ (n' : Nat) (h' : vx_H), P n' h' → xV F (pc + 3) L (rest) n' h' (ce + mc) (sl + ms)) : xV F pc L (v5 :: v4 :: v3 :: v2 :: v1 :: .ref a :: rest) n h ce sl := x_callN hm [v1, v2, v3, v4, v5] rest hK rfl rfl hR hW hd (fun v n' h' hq => by obtain ⟨rfl, hq⟩ := hq; exact kk n' h' hq)
theorem x_callN6v {idx : Nat} {mt : vx_M} {host : String} (hm : xMN F.2.1.1.cls idx mt 6 host) {d mc ms : Nat} {P : Nat → vx_H → Prop} {a : Nat} {v1 v2 v3 v4 v5 v6 : Value} {rest : List Value} (hK : xK F.1 mt d (.ref a :: [v1, v2, v3, v4, v5, v6]) n h mc ms (QV P)) (hR : xRoom F.2.2.1 mt d mc ms ce sl) (hW : (rest.map fun v => v.category).sum ≤ 8) (hd : decode F.2.1.2.1 pc = .ok (.invokespecial idx, 3)) (kk : ∀ (n' : Nat) (h' : vx_H), P n' h' → xV F (pc + 3) L (rest) n' h' (ce + mc) (sl + ms)) : xV F pc L (v6 :: v5 :: v4 :: v3 :: v2 :: v1 :: .ref a :: rest) n h ce sl := x_callN hm [v1, v2, v3, v4, v5, v6] rest hK rfl rfl hR hW hd (fun v n' h' hq => by obtain ⟨rfl, hq⟩ := hq; exact kk n' h' hq)
end XCALL
end
section
/-! ===== making cells; members of the JDK ===== -/
section XM
variable {F : vx_F} {pc : Nat} {L : List (Option Value)} {st : List Value} {n : Nat} {h : vx_H} {ce sl : Nat}
theorem HR.grow {G : vx_G} {e : va_E} {H H1 : Heap} (hH : HR G n h H) (he : va_at G.2.1 vwCl (G.2.2.2 + n, cvE G e) H1) (hz : H1.size = H.size + 1) (oq : ∀ q : Nat, q < H.size → H1[q]? = H[q]?) : HR G (n + 1) (va_up h n e) H1 := by
  refine ⟨?_, by rw [hz, hH.2]; omega⟩
  rw [← wl_push]
  refine (hH.1.kept (fun k x hx => oq x.1 ((hH.1 k x hx).lt))).app (fun k x hx => ?_)
  have hk : k < 1 := (List.getElem?_eq_some_iff.mp hx).1
  rw [show k = 0 by omega] at hx
  cases hx
  exact he
theorem HR.growS {G : vx_G} {H0 H H1 : Heap} {locs : List Loc} (hS : va_S (fun q => G.2.2.2 ≤ q) H0 H locs) (hz : H1.size = H.size + 1) (oq : ∀ q : Nat, q < H.size → H1[q]? = H[q]?) : va_S (fun q => G.2.2.2 ≤ q) H0 H1 locs :=
  ⟨by rw [hz]; exact Nat.le_succ_of_le hS.1, fun x h1 h2 => (oq x (Nat.lt_of_lt_of_le h1 hS.1)).trans (hS.2.1 x h1 h2), hS.2.2⟩
def xNW (own : String) (idx ci : Nat) (N : Nat) (fs : List Value) : Prop := ∃ (C : String) (T : u_T) (ty : Nat → FieldType), vwCl[ci]? = some (C, T, N) ∧ (∀ w ∈ u_ws C T N, w ∈ lw_ok) ∧ (∀ k, k < N → parseFieldDescriptor (T k).2.2.1 = some (ty k)) ∧ Cond.classLink own idx C ∈ lw_ok ∧ Cond.instantiable C N ∈ lw_ok ∧ Cond.initialized C ∈ lw_ok ∧ (∀ j, j < N → defaultValue (ty j) = vp_V fs j) ∧ ∀ b : Nat, fs.map (rv b) = fs
theorem x_new {idx ci N : Nat} {fs : List Value} (hw : xNW F.2.1.1.cls idx ci N fs) (hc : ce + 1 ≤ F.2.2.1.cells) (hs : sl + N ≤ F.2.2.1.slots) (hd : decode F.2.1.2.1 pc = .ok (.new idx, 3))
    (kk : xV F (pc + 3) L (.ref n :: st) (n + 1) (va_up h n (.inr (ci, fs))) (ce + 1) (sl + N)) : xV F pc L st n h ce sl := by
  intro p e s m args below meth c X H locs ls hH hS hl
  obtain ⟨C, T, ty, h1, hin, hty, w1, w2, w3, hfs, hrv⟩ := hw
  have hts := X.2.2.2.2.2.1
  have hK := X.2.2.2.2.2.2.2.1
  have hKn := hK.1 ci _ h1
  refine W.newcK X.1 X.2.1 X.2.2.2.2.1 (hts _ w1) (hts _ w2) (hts _ w3) rfl hd hc hs hKn.2.1 hH.2 fun H1 kC hkC e1 z1 o1 => ?_
  rw [← hH.2] at z1 o1
  refine kk p e s m args below meth c X H1 locs ls (hH.grow ?_ z1 o1) (HR.growS hS z1 o1) hl
  refine ⟨_, h1, ?_⟩
  have := (u_born ty hts hin hKn hkC e1 hty).to hfs
  rw [← hrv F.1.2.2.2] at this
  exact this
theorem ArrOfT.vm {u U : State} {cA : ClassId} {ty : FieldType} (hvm : u.vm.Alike U.vm) (h : ArrOfT u cA ty) : ArrOfT U cA ty := arrOfT_moved hvm h
/-- new int[..], boolean[..], long[..] -/
def xNA (t : Nat) (at0 : ArrayType) (ty : FieldType) (z : Nat → vp_A) : Prop := (t = 0 ∧ at0 = .int ∧ ty = .int ∧ z = fun N => (N, .inl (fun _ => 0))) ∨ (t = 1 ∧ at0 = .boolean ∧ ty = .boolean ∧ z = fun N => (N, .inl (fun _ => 0))) ∨ (t = 2 ∧ at0 = .long ∧ ty = .long ∧ z = fun N => (N, .inr (.inl (fun _ => 0))))
theorem x_newa {t : Nat} {at0 : ArrayType} {ty : FieldType} {z : Nat → vp_A} (hz : xNA t at0 ty z) (hw : Cond.arrayClass ty ∈ lw_ok) {k : Int32} {N : Nat} (hk : ¬ k < 0) (hN : k.toNatClampNeg = N) (hb : N * componentBytes ty ≤ 536870912) (hc : ce + 1 ≤ F.2.2.1.cells) (hs : sl + N ≤ F.2.2.1.slots) (hd : decode F.2.1.2.1 pc = .ok (.newarray at0, 2))
    (kk : xV F (pc + 2) L (.ref n :: st) (n + 1) (va_up h n (.inl (t, z N))) (ce + 1) (sl + N)) : xV F pc L (.int k :: st) n h ce sl := by
  intro p e s m args below meth c X H locs ls hH hS hl
  have hts := X.2.2.2.2.2.1
  have hK := X.2.2.2.2.2.2.2.1
  have hty : newarray.typeOf at0 = ty := by rcases hz with ⟨_, rfl, rfl, _⟩ | ⟨_, rfl, rfl, _⟩ | ⟨_, rfl, rfl, _⟩ <;> rfl
  subst hty
  refine va_newaK X.1 X.2.1 (hts _ hw) rfl hd rfl hk hN hb hc hs hH.2 fun H1 cA e1 z1 o1 hAr hNm => ?_
  rw [← hH.2] at z1 o1
  refine kk p e s m args below meth c X H1 locs ls (hH.grow ?_ z1 o1) (HR.growS hS z1 o1) hl
  rcases hz with ⟨rfl, rfl, -, rfl⟩ | ⟨rfl, rfl, -, rfl⟩ | ⟨rfl, rfl, -, rfl⟩
  · have h2 := (hK.2 0 _ rfl).2
    have h3 : s.vm.findClass ("[" ++ (FieldType.int).toString) = some (F.1.2.2.1 0) := h2
    have e2 : cA = F.1.2.2.1 0 := Option.some.inj (hNm.symm.trans h3)
    subst e2
    exact e1
  · have h2 := (hK.2 1 _ rfl).2
    have h3 : s.vm.findClass ("[" ++ (FieldType.boolean).toString) = some (F.1.2.2.1 1) := h2
    have e2 : cA = F.1.2.2.1 1 := Option.some.inj (hNm.symm.trans h3)
    subst e2
    exact e1
  · have h2 := (hK.2 2 _ rfl).2
    have h3 : s.vm.findClass ("[" ++ (FieldType.long).toString) = some (F.1.2.2.1 2) := h2
    have e2 : cA = F.1.2.2.1 2 := Option.some.inj (hNm.symm.trans h3)
    subst e2
    exact e1
/-- new Line[..] and the like -/
theorem x_newq {t idx : Nat} {C : String} (ht : (vx_ty F.1)[t]? = some (F.1.2.2.1 t, .object C)) (hw : Cond.classLink F.2.1.1.cls idx C ∈ lw_ok) (hv : Cond.arrayOver (.object C) ∈ lw_tbl) {k : Int32} {N : Nat} (hk : ¬ k < 0) (hN : k.toNatClampNeg = N) (hb : N * 4 ≤ 536870912) (hc : ce + 1 ≤ F.2.2.1.cells) (hs : sl + N ≤ F.2.2.1.slots) (hd : decode F.2.1.2.1 pc = .ok (.anewarray idx, 3))
    (kk : xV F (pc + 3) L (.ref n :: st) (n + 1) (va_up h n (.inl (t, N, .inr (.inr (.inr (.inr (fun _ => none))))))) (ce + 1) (sl + N)) : xV F pc L (.int k :: st) n h ce sl := by
  intro p e s m args below meth c X H locs ls hH hS hl
  have hts := X.2.2.2.2.2.1
  have hK := X.2.2.2.2.2.2.2.1
  have hNs := X.2.2.2.2.2.2.2.2.2.2.1
  subst hN
  refine W.anew X.1 X.2.1 X.2.2.2.2.1 (hts _ hw) (va_AO.use (hNs _ hv rfl)) rfl hd rfl hk hb hc hs fun cA kA comp f1 f2 f3 f4 => ?_
  obtain ⟨kA', comp', g1, g2, g3, g4⟩ := (hK.2 t _ ht).2
  have e2 : cA = F.1.2.2.1 t := Option.some.inj (f1.symm.trans g4)
  subst e2
  generalize hH1 : H.push ({ cls := F.1.2.2.1 t, slots := Array.replicate k.toNatClampNeg .null, vm := .none } : Cell) = H1
  have z1 : H1.size = H.size + 1 := by rw [← hH1, Array.size_push]
  have e1 : H1[H.size]? = some (arrV (F.1.2.2.1 t) k.toNatClampNeg (fun _ => .null)) := by rw [← hH1, Array.getElem?_push_size, ← arrV_new]
  have o1 : ∀ q : Nat, q < H.size → H1[q]? = H[q]? := fun q hq => by rw [← hH1, Array.getElem?_push, if_neg (Nat.ne_of_lt hq)]
  have k1 := kk p e s m args below meth c X H1 locs ls (hH.grow (by rw [← hH.2]; exact e1) z1 o1) (HR.growS hS z1 o1) hl
  have e3 : rv F.1.2.2.2 (.ref n) = .ref H.size := by show Value.ref (F.1.2.2.2 + n) = _; rw [hH.2]
  rw [List.map_cons, e3] at k1
  exact k1
theorem x_objInit {idx : Nat} {a : Nat} (w1 : Cond.methodLink F.2.1.1.cls idx Lib.objectInit ∈ lw_ok) (w2 : Cond.instanceMethod Lib.objectInit ∈ lw_ok) (w3 : Cond.code Lib.objectInit ⟨#[0xb1]⟩ 1 none ∈ lw_ok) (hf : 1 ≤ F.2.2.1.frames) (hlo : (st.map fun v => v.category).sum + 12 ≤ F.2.2.1.locals) (hd : decode F.2.1.2.1 pc = .ok (.invokespecial idx, 3))
    (kk : xV F (pc + 3) L st n h ce sl) : xV F pc L (.ref a :: st) n h ce sl := by
  intro p e s m args below meth c X H locs ls hH hS hl
  have hts := X.2.2.2.2.2.1
  have e2 : (st.map (rv F.1.2.2.2)).map (fun v => v.category) = st.map (fun v => v.category) := by
    rw [List.map_map]
    exact List.map_congr_left (fun v _ => rv_cat _ v)
  refine W.objInit X.1 X.2.1 X.2.2.2.2.1 (hts _ w1) (hts _ w2) (hts _ w3) (g := F0 m pc ls ((.ref a :: st).map (rv F.1.2.2.2))) rfl (by rw [X.2.2.2.1]; exact hl.1) (rest := st.map (rv F.1.2.2.2)) rfl hd hf ?_ (kk p e s m args below meth c X H locs ls hH hS hl)
  rw [e2]
  show 2 * 0 + _ + 12 ≤ _
  omega
theorem x_sum {b : Nat} {st : List Value} : ((st.map (rv b)).map fun v => v.category).sum = (st.map fun v => v.category).sum := by
  rw [List.map_map]
  exact congrArg List.sum (List.map_congr_left (fun v _ => rv_cat _ v))
def xMM (own : String) (idx : Nat) (y : MethodName) (cc : ByteArray) (na : Nat) : Prop := Cond.methodLink own idx y ∈ lw_ok ∧ Cond.static y ∈ lw_ok ∧ Cond.initialized "java/lang/Math" ∈ lw_ok ∧ Cond.code y cc na (some .int) ∈ lw_ok
theorem x_max {idx : Nat} {x y : Int32} (hm : xMM F.2.1.1.cls idx Lib.Math.max.name Lib.Math.max.code 2) (hf : 1 ≤ F.2.2.1.frames) (hlo : (st.map fun v => v.category).sum + 13 ≤ F.2.2.1.locals) (hc : ce ≤ F.2.2.1.cells) (hs : sl ≤ F.2.2.1.slots) (hd : decode F.2.1.2.1 pc = .ok (.invokestatic idx, 3))
    (kk : xV F (pc + 3) L (.int (if x < y then y else x) :: st) n h ce sl) : xV F pc L (.int y :: .int x :: st) n h ce sl := by
  intro p e s m args below meth c X H locs ls hH hS hl
  have hts := X.2.2.2.2.2.1
  exact va_mmax X.1 X.2.1 (by rw [X.2.2.2.1]; exact hl.1.symm) X.2.2.2.2.1 (hts _ hm.1) (hts _ hm.2.1) (hts _ hm.2.2.1) (hts _ hm.2.2.2) hf (by rw [x_sum]; exact hlo) hc hs hd (kk p e s m args below meth c X H locs ls hH hS hl)
theorem x_min {idx : Nat} {x y : Int32} (hm : xMM F.2.1.1.cls idx Lib.Math.min.name Lib.Math.min.code 2) (hf : 1 ≤ F.2.2.1.frames) (hlo : (st.map fun v => v.category).sum + 13 ≤ F.2.2.1.locals) (hc : ce ≤ F.2.2.1.cells) (hs : sl ≤ F.2.2.1.slots) (hd : decode F.2.1.2.1 pc = .ok (.invokestatic idx, 3))
    (kk : xV F (pc + 3) L (.int (if y < x then y else x) :: st) n h ce sl) : xV F pc L (.int y :: .int x :: st) n h ce sl := by
  intro p e s m args below meth c X H locs ls hH hS hl
  have hts := X.2.2.2.2.2.1
  exact va_mmin X.1 X.2.1 (by rw [X.2.2.2.1]; exact hl.1.symm) X.2.2.2.2.1 (hts _ hm.1) (hts _ hm.2.1) (hts _ hm.2.2.1) (hts _ hm.2.2.2) hf (by rw [x_sum]; exact hlo) hc hs hd (kk p e s m args below meth c X H locs ls hH hS hl)
theorem x_abs {idx : Nat} {x : Int32} (hm : xMM F.2.1.1.cls idx Lib.Math.abs.name Lib.Math.abs.code 1) (hf : 1 ≤ F.2.2.1.frames) (hlo : (st.map fun v => v.category).sum + 13 ≤ F.2.2.1.locals) (hc : ce ≤ F.2.2.1.cells) (hs : sl ≤ F.2.2.1.slots) (hd : decode F.2.1.2.1 pc = .ok (.invokestatic idx, 3))
    (kk : xV F (pc + 3) L (.int (if 0 ≤ x then x else 0 - x) :: st) n h ce sl) : xV F pc L (.int x :: st) n h ce sl := by
  intro p e s m args below meth c X H locs ls hH hS hl
  have hts := X.2.2.2.2.2.1
  exact va_mabs X.1 X.2.1 (by rw [X.2.2.2.1]; exact hl.1.symm) X.2.2.2.2.1 (hts _ hm.1) (hts _ hm.2.1) (hts _ hm.2.2.1) (hts _ hm.2.2.2) hf (by rw [x_sum]; exact hlo) hc hs hd (kk p e s m args below meth c X H locs ls hH hS hl)
def xMY (own : String) (idx : Nat) : Prop := Cond.methodLink own idx arraycopyName ∈ lw_ok ∧ Cond.native arraycopyName ∈ lw_ok ∧ Cond.static arraycopyName ∈ lw_ok ∧ Cond.initialized "java/lang/System" ∈ lw_ok
/-- System.arraycopy between two int arrays -/
theorem x_copy {idx : Nat} (hm : xMY F.2.1.1.cls idx) {a0 a : Nat} (ha0 : a0 < n) (ha : a < n) {n0 n1 : Nat} {f g : Nat → Int32} (he0 : h a0 = .inl (0, n0, .inl f)) (he : h a = .inl (0, n1, .inl g)) {sp dp k : Int32} (h1 : ¬ sp < 0) (h2 : ¬ dp < 0) (h3 : ¬ k < 0) (h4 : sp.toNatClampNeg + k.toNatClampNeg ≤ n0) (h5 : dp.toNatClampNeg + k.toNatClampNeg ≤ n1)
    (hf : 1 ≤ F.2.2.1.frames) (hlo : (st.map fun v => v.category).sum + (nativeFrameWords "java/lang/System" "arraycopy" 5 + 11) ≤ F.2.2.1.locals) (hd : decode F.2.1.2.1 pc = .ok (.invokestatic idx, 3))
    (kk : xV F (pc + 3) L st n (va_up h a (.inl (0, n1, .inl (va_cpy f g sp.toNatClampNeg dp.toNatClampNeg k.toNatClampNeg)))) ce sl) : xV F pc L (.int k :: .int dp :: .ref a :: .int sp :: .ref a0 :: st) n h ce sl := by
  intro p e s m args below meth c X H locs ls hH hS hl
  have hts := X.2.2.2.2.2.1
  have hK := X.2.2.2.2.2.2.2.1
  have nn : ∀ z : Int32, ¬ z < 0 → z.toInt = (z.toNatClampNeg : Int) := by
    intro z hz
    have hz0 : (0 : Int) ≤ z.toInt := by
      have := Int32.not_lt.mp hz
      simpa using Int32.le_iff_toInt_le.mp this
    show z.toInt = ((z.toInt.toNat : Nat) : Int)
    omega
  have hc0 := hH.cell ha0
  rw [he0] at hc0
  have hc0 : H[F.1.2.2.2 + a0]? = some (vp_cell (F.1.2.2.1 0) (n0, .inl f)) := hc0
  have hc1 := hH.cell ha
  rw [he] at hc1
  have hc1 : H[F.1.2.2.2 + a]? = some (vp_cell (F.1.2.2.1 0) (n1, .inl g)) := hc1
  obtain ⟨-, k0, hk0, cm0, hkk0⟩ := (hK.2 0 _ rfl).1 n0 (fun j => .int (f j))
  intro T hT Y
  obtain ⟨vm', X', step⟩ := Y.arraycopy X.1 X.2.2.2.2.1 (hts _ hm.1) (hts _ hm.2.1) (hts _ hm.2.2.1) (hts _ hm.2.2.2) (src := F.1.2.2.2 + a0) (dst := F.1.2.2.2 + a) (cs := vp_cell (F.1.2.2.1 0) (n0, .inl f)) (cd := vp_cell (F.1.2.2.1 0) (n1, .inl g)) (srcPos := sp) (destPos := dp) (n := k) (by rw [hT]; exact hc0) (by rw [hT]; exact hc1)
    (fun _ h => by cases h) (fun _ h => by cases h) (fun h => by cases h) (fun h => by cases h) hk0 hk0 hkk0 hkk0 (by rfl) h1 h2 h3
    (by rw [nn sp h1, nn k h3]; show ¬ _ > ((arrV (F.1.2.2.1 0) n0 (fun j => .int (f j))).slots.size : Int); rw [arrV_size]; omega)
    (by rw [nn dp h2, nn k h3]; show ¬ _ > ((arrV (F.1.2.2.1 0) n1 (fun j => .int (g j))).slots.size : Int); rw [arrV_size]; omega)
    (fun vm₁ _ i hi => by
      have e : (vp_cell (F.1.2.2.1 0) (n0, .inl f)).slots.getD (sp.toNatClampNeg + i) .null = .int (f (sp.toNatClampNeg + i)) := by
        show (arrV (F.1.2.2.1 0) n0 (fun j => .int (f j))).slots.getD _ _ = _
        rw [Array.getD_eq_getD_getElem?, arrV_read _ _ (by omega)]
        rfl
      refine ⟨?_, ?_⟩
      · rw [e]
        rfl
      · rw [e]
        exact trivial)
    (g := F0 m pc ls (.int k :: .int dp :: .ref (F.1.2.2.2 + a) :: .int sp :: .ref (F.1.2.2.2 + a0) :: st.map (rv F.1.2.2.2))) rfl (by rw [X.2.2.2.1]; exact hl.1) (rest := st.map (rv F.1.2.2.2)) rfl (by rw [X.2.1]; exact hd) hf (by rw [x_sum]; show 2 * 0 + _ + _ ≤ _; omega)
  have e1 : copied (vp_cell (F.1.2.2.1 0) (n0, .inl f)) (vp_cell (F.1.2.2.1 0) (n1, .inl g)) sp dp k = vp_cell (F.1.2.2.1 0) (n1, .inl (va_cpy f g sp.toNatClampNeg dp.toNatClampNeg k.toNatClampNeg)) := va_copied (fun z => .int z) (F.1.2.2.1 0) (F.1.2.2.1 0) f g h4
  rw [e1] at X' step
  have hlt : F.1.2.2.2 + a < H.size := hH.lt ha
  have hheap : ((T.setVm vm').setCell (F.1.2.2.2 + a) (vp_cell (F.1.2.2.1 0) (n1, .inl (va_cpy f g sp.toNatClampNeg dp.toNatClampNeg k.toNatClampNeg)))).heap = H.setIfInBounds (F.1.2.2.2 + a) (vp_cell (F.1.2.2.1 0) (n1, .inl (va_cpy f g sp.toNatClampNeg dp.toNatClampNeg k.toNatClampNeg))) := by rw [← hT]; rfl
  have oq : ∀ q : Nat, q ≠ F.1.2.2.2 + a → (H.setIfInBounds (F.1.2.2.2 + a) (vp_cell (F.1.2.2.1 0) (n1, .inl (va_cpy f g sp.toNatClampNeg dp.toNatClampNeg k.toNatClampNeg))))[q]? = H[q]? := fun q hq => by simp [Array.getElem?_setIfInBounds, Ne.symm hq]
  obtain ⟨t, a1, b1⟩ := kk p e s m args below meth c X _ _ ls (hH.upd ha (e := .inl (0, n1, .inl (va_cpy f g sp.toNatClampNeg dp.toNatClampNeg k.toNatClampNeg))) (show (H.setIfInBounds (F.1.2.2.2 + a) _)[F.1.2.2.2 + a]? = some _ by simp [Array.getElem?_setIfInBounds, hlt]; rfl) (by simp) oq) ⟨by simp; exact hS.1, fun q g1 g2 => by
      rw [oq q (fun e => g2 (by rw [e]; exact Nat.le_add_right _ _))]
      exact hS.2.1 q g1 g2, fun q hq => by
      rcases List.mem_append.mp hq with h | h
      · exact hS.2.2 q h
      · obtain ⟨z, -, hz⟩ := List.mem_map.mp h
        rw [← hz]
        exact Nat.le_add_right _ _⟩ hl _ hheap X'
  exact ⟨t, step t a1, b1⟩
end XM
end
section
/-! ===== the methods, and the links of the instructions: printed by gen/links.py ===== -/
abbrev M_X9_init : vx_M := (yX9_init, cX9_init, 2, none)
abbrev M_X1_init : vx_M := (yX1_init, cX1_init, 3, none)
abbrev M_X4_init : vx_M := (yX4_init, cX4_init, 3, none)
abbrev M_X0_init : vx_M := (yX0_init, cX0_init, 1, none)
abbrev M_X5_init : vx_M := (yX5_init, cX5_init, 1, none)
abbrev M_X6_init : vx_M := (yX6_init, cX6_init, 1, none)
abbrev M_X7_init : vx_M := (yX7_init, cX7_init, 1, none)
abbrev M_X2_init : vx_M := (yX2_init, cX2_init, 1, none)
abbrev M_X8_init : vx_M := (yX8_init, cX8_init, 1, none)
abbrev M_X3_init : vx_M := (yX3_init, cX3_init, 1, none)
abbrev M_X9_line : vx_M := (yX9_line, cX9_line, 6, some (.int))
abbrev M_X9_isBook : vx_M := (yX9_isBook, cX9_isBook, 1, some (.boolean))
abbrev M_X9_isWithin : vx_M := (yX9_isWithin, cX9_isWithin, 3, some (.boolean))
abbrev M_X4_write : vx_M := (yX4_write, cX4_write, 6, none)
abbrev M_X9_carriedOut : vx_M := (yX9_carriedOut, cX9_carriedOut, 4, none)
abbrev M_X0_put : vx_M := (yX0_put, cX0_put, 4, none)
abbrev M_J9_min_7cf53 : vx_M := (yJ9_min_7cf53, cJ9_min_7cf53, 2, some (.int))
abbrev M_X9_today : vx_M := (yX9_today, cX9_today, 3, some (.int))
abbrev M_X9_endUndoing : vx_M := (yX9_endUndoing, cX9_endUndoing, 1, none)
abbrev M_X9_terms : vx_M := (yX9_terms, cX9_terms, 3, some (.int))
abbrev M_X9_told : vx_M := (yX9_told, cX9_told, 5, some (.int))
abbrev M_X9_lineAt : vx_M := (yX9_lineAt, cX9_lineAt, 3, some (.object "TwoBooks$Line"))
abbrev M_X4_isBreak : vx_M := (yX4_isBreak, cX4_isBreak, 1, some (.boolean))
abbrev M_X9_fit : vx_M := (yX9_fit, cX9_fit, 5, some (.int))
abbrev M_X9_fitOf : vx_M := (yX9_fitOf, cX9_fitOf, 7, some (.int))
abbrev M_J9_abs_0f7a4 : vx_M := (yJ9_abs_0f7a4, cJ9_abs_0f7a4, 1, some (.int))
abbrev M_X9_learnt : vx_M := (yX9_learnt, cX9_learnt, 6, some (.int))
abbrev M_X3_isThere : vx_M := (yX3_isThere, cX3_isThere, 1, some (.boolean))
abbrev M_X3_hasWord : vx_M := (yX3_hasWord, cX3_hasWord, 4, some (.boolean))
abbrev M_J9_max_7cf53 : vx_M := (yJ9_max_7cf53, cJ9_max_7cf53, 2, some (.int))
abbrev M_X9_best : vx_M := (yX9_best, cX9_best, 5, some (.int))
abbrev M_X1_breaksAged : vx_M := (yX1_breaksAged, cX1_breaksAged, 5, some (.int))
abbrev M_X5_gather : vx_M := (yX5_gather, cX5_gather, 3, none)
abbrev M_X5_gatherBreaks : vx_M := (yX5_gatherBreaks, cX5_gatherBreaks, 4, some (.int))
abbrev M_X6_clear : vx_M := (yX6_clear, cX6_clear, 3, none)
abbrev M_J7_fill_53178 : vx_M := (yJ7_fill_53178, cJ7_fill_53178, 4, none)
abbrev M_X5_find : vx_M := (yX5_find, cX5_find, 3, none)
abbrev M_X6_seatAll : vx_M := (yX6_seatAll, cX6_seatAll, 2, none)
abbrev M_X6_seat : vx_M := (yX6_seat, cX6_seat, 5, none)
abbrev M_X6_clearSearch : vx_M := (yX6_clearSearch, cX6_clearSearch, 2, none)
abbrev M_X6_nextColumn : vx_M := (yX6_nextColumn, cX6_nextColumn, 7, some (.int))
abbrev M_X6_favourFirst : vx_M := (yX6_favourFirst, cX6_favourFirst, 2, none)
abbrev M_X6_settle : vx_M := (yX6_settle, cX6_settle, 3, none)
abbrev M_X6_isTight : vx_M := (yX6_isTight, cX6_isTight, 3, some (.boolean))
abbrev M_X6_canSit : vx_M := (yX6_canSit, cX6_canSit, 5, some (.boolean))
abbrev M_X6_columnOf : vx_M := (yX6_columnOf, cX6_columnOf, 3, some (.int))
abbrev M_X6_moves : vx_M := (yX6_moves, cX6_moves, 4, some (.boolean))
abbrev M_X6_total : vx_M := (yX6_total, cX6_total, 3, some (.int))
abbrev M_X6_keep : vx_M := (yX6_keep, cX6_keep, 1, none)
abbrev M_X6_totalWithout : vx_M := (yX6_totalWithout, cX6_totalWithout, 5, some (.int))
abbrev M_X6_restore : vx_M := (yX6_restore, cX6_restore, 1, none)
abbrev M_X9_with : vx_M := (yX9_with, cX9_with, 3, some (.int))
abbrev M_X9_freshRow : vx_M := (yX9_freshRow, cX9_freshRow, 2, some (.int))
abbrev M_X5_rowOf : vx_M := (yX5_rowOf, cX5_rowOf, 3, some (.int))
abbrev M_X9_rival : vx_M := (yX9_rival, cX9_rival, 3, some (.int))
abbrev M_X9_pair : vx_M := (yX9_pair, cX9_pair, 6, some (.int))
abbrev M_X5_countSure : vx_M := (yX5_countSure, cX5_countSure, 4, some (.int))
abbrev M_X5_isSure : vx_M := (yX5_isSure, cX5_isSure, 3, some (.boolean))
abbrev M_X9_makeGroup : vx_M := (yX9_makeGroup, cX9_makeGroup, 5, some (.int))
abbrev M_X3_open : vx_M := (yX3_open, cX3_open, 3, none)
abbrev M_X9_addTo : vx_M := (yX9_addTo, cX9_addTo, 3, none)
abbrev M_X3_add : vx_M := (yX3_add, cX3_add, 2, none)
abbrev M_X9_sets : vx_M := (yX9_sets, cX9_sets, 6, some (.int))
abbrev M_X7_gather : vx_M := (yX7_gather, cX7_gather, 6, none)
abbrev M_X7_boundAmounts : vx_M := (yX7_boundAmounts, cX7_boundAmounts, 3, none)
abbrev M_X7_find : vx_M := (yX7_find, cX7_find, 4, none)
abbrev M_X7_extend : vx_M := (yX7_extend, cX7_extend, 6, none)
abbrev M_X7_finish : vx_M := (yX7_finish, cX7_finish, 5, none)
abbrev M_X7_canReach : vx_M := (yX7_canReach, cX7_canReach, 4, some (.boolean))
abbrev M_X9_size : vx_M := (yX9_size, cX9_size, 2, some (.int))
abbrev M_X7_isThere : vx_M := (yX7_isThere, cX7_isThere, 2, some (.boolean))
abbrev M_X7_sizeOf : vx_M := (yX7_sizeOf, cX7_sizeOf, 2, some (.int))
abbrev M_X9_in : vx_M := (yX9_in, cX9_in, 3, some (.int))
abbrev M_X7_lineIn : vx_M := (yX7_lineIn, cX7_lineIn, 3, some (.int))
abbrev M_X9_set : vx_M := (yX9_set, cX9_set, 6, some (.int))
abbrev M_X9_hand : vx_M := (yX9_hand, cX9_hand, 6, some (.int))
abbrev M_X9_join : vx_M := (yX9_join, cX9_join, 7, some (.int))
abbrev M_X9_isGroupThere : vx_M := (yX9_isGroupThere, cX9_isGroupThere, 2, some (.boolean))
abbrev M_X9_part : vx_M := (yX9_part, cX9_part, 3, some (.int))
abbrev M_X3_claimLines : vx_M := (yX3_claimLines, cX3_claimLines, 3, none)
abbrev M_X9_lock : vx_M := (yX9_lock, cX9_lock, 4, some (.int))
abbrev M_X9_group : vx_M := (yX9_group, cX9_group, 4, some (.int))
abbrev M_X3_difference : vx_M := (yX3_difference, cX3_difference, 3, some (.int))
abbrev M_X9_breaks : vx_M := (yX9_breaks, cX9_breaks, 3, some (.int))
abbrev M_X9_broken : vx_M := (yX9_broken, cX9_broken, 3, some (.int))
abbrev M_X1_breakAt : vx_M := (yX1_breakAt, cX1_breakAt, 4, some (.int))
abbrev M_X9_sum : vx_M := (yX9_sum, cX9_sum, 2, some (.long))
abbrev M_X9_booksDifference : vx_M := (yX9_booksDifference, cX9_booksDifference, 1, some (.int))
abbrev M_X1_sumOfAll : vx_M := (yX1_sumOfAll, cX1_sumOfAll, 3, some (.int))
abbrev M_X1_sumOfBreaks : vx_M := (yX1_sumOfBreaks, cX1_sumOfBreaks, 3, some (.int))
abbrev M_X9_groupsDifference : vx_M := (yX9_groupsDifference, cX9_groupsDifference, 3, some (.int))
abbrev M_X9_as : vx_M := (yX9_as, cX9_as, 4, some (.long))
abbrev M_X9_countHolders : vx_M := (yX9_countHolders, cX9_countHolders, 4, some (.int))
abbrev M_X1_clearHolders : vx_M := (yX1_clearHolders, cX1_clearHolders, 2, none)
abbrev M_X3_isStandingOn : vx_M := (yX3_isStandingOn, cX3_isStandingOn, 2, some (.boolean))
abbrev M_X3_holdLines : vx_M := (yX3_holdLines, cX3_holdLines, 2, none)
abbrev M_X1_countUnheld : vx_M := (yX1_countUnheld, cX1_countUnheld, 4, some (.int))
abbrev M_X4_isUnheld : vx_M := (yX4_isUnheld, cX4_isUnheld, 2, some (.boolean))
abbrev M_X1_sumUnheld : vx_M := (yX1_sumUnheld, cX1_sumUnheld, 4, some (.int))
abbrev M_X9_explain : vx_M := (yX9_explain, cX9_explain, 2, some (.int))
abbrev M_X9_countUneven : vx_M := (yX9_countUneven, cX9_countUneven, 3, some (.int))
abbrev M_X3_isUneven : vx_M := (yX3_isUneven, cX3_isUneven, 1, some (.boolean))
abbrev M_X2_start : vx_M := (yX2_start, cX2_start, 1, none)
abbrev M_X2_addBreaks : vx_M := (yX2_addBreaks, cX2_addBreaks, 4, none)
abbrev M_X2_add : vx_M := (yX2_add, cX2_add, 4, none)
abbrev M_X2_find : vx_M := (yX2_find, cX2_find, 5, some (.boolean))
abbrev M_X8_start : vx_M := (yX8_start, cX8_start, 1, none)
abbrev M_X8_copy : vx_M := (yX8_copy, cX8_copy, 2, none)
abbrev M_X2_bitOf : vx_M := (yX2_bitOf, cX2_bitOf, 1, some (.int))
abbrev M_X8_merge : vx_M := (yX8_merge, cX8_merge, 8, none)
abbrev M_X8_cheapestWith : vx_M := (yX8_cheapestWith, cX8_cheapestWith, 8, some (.int))
abbrev M_X2_choose : vx_M := (yX2_choose, cX2_choose, 4, none)
abbrev M_X9_explained : vx_M := (yX9_explained, cX9_explained, 3, some (.int))
abbrev M_X9_undo : vx_M := (yX9_undo, cX9_undo, 2, some (.int))
abbrev M_X0_takeLatest : vx_M := (yX0_takeLatest, cX0_takeLatest, 1, some (.int))
abbrev M_X9_takeBack : vx_M := (yX9_takeBack, cX9_takeBack, 4, none)
abbrev M_X3_dropLatest : vx_M := (yX3_dropLatest, cX3_dropLatest, 1, none)
abbrev M_X9_count : vx_M := (yX9_count, cX9_count, 2, some (.int))
abbrev M_X9_countThere : vx_M := (yX9_countThere, cX9_countThere, 3, some (.int))
abbrev M_X9_check : vx_M := (yX9_check, cX9_check, 2, some (.int))
abbrev M_X1_isHeldRightly : vx_M := (yX1_isHeldRightly, cX1_isHeldRightly, 2, some (.boolean))
abbrev M_X9_allHaveBothBooks : vx_M := (yX9_allHaveBothBooks, cX9_allHaveBothBooks, 2, some (.boolean))
abbrev M_X3_hasBothBooks : vx_M := (yX3_hasBothBooks, cX3_hasBothBooks, 3, some (.boolean))
abbrev M_X10_init : vx_M := (yX10_init, cX10_init, 1, none)
abbrev M_X10_line : vx_M := (yX10_line, cX10_line, 6, some (.int))
abbrev M_X10_within : vx_M := (yX10_within, cX10_within, 3, some (.boolean))
abbrev M_X10_did : vx_M := (yX10_did, cX10_did, 5, none)
abbrev M_X10_today : vx_M := (yX10_today, cX10_today, 3, some (.int))
abbrev M_X10_changed : vx_M := (yX10_changed, cX10_changed, 1, none)
abbrev M_X10_terms : vx_M := (yX10_terms, cX10_terms, 3, some (.int))
abbrev M_X10_told : vx_M := (yX10_told, cX10_told, 5, some (.int))
abbrev M_X10_isLine : vx_M := (yX10_isLine, cX10_isLine, 3, some (.boolean))
abbrev M_X10_fit : vx_M := (yX10_fit, cX10_fit, 3, some (.int))
abbrev M_X10_fitOf : vx_M := (yX10_fitOf, cX10_fitOf, 8, some (.int))
abbrev M_X10_apart : vx_M := (yX10_apart, cX10_apart, 2, some (.int))
abbrev M_X10_hasWord : vx_M := (yX10_hasWord, cX10_hasWord, 7, some (.boolean))
abbrev M_X10_best : vx_M := (yX10_best, cX10_best, 8, some (.int))
abbrev M_X10_breaksOf : vx_M := (yX10_breaksOf, cX10_breaksOf, 6, some (.int))
abbrev M_X10_reckon : vx_M := (yX10_reckon, cX10_reckon, 10, some (.int))
abbrev M_X10_with : vx_M := (yX10_with, cX10_with, 3, some (.int))
abbrev M_X10_paired : vx_M := (yX10_paired, cX10_paired, 3, some (.int))
abbrev M_X10_rival : vx_M := (yX10_rival, cX10_rival, 3, some (.int))
abbrev M_X10_withoutPair : vx_M := (yX10_withoutPair, cX10_withoutPair, 2, some (.int))
abbrev M_X10_pair : vx_M := (yX10_pair, cX10_pair, 6, some (.int))
abbrev M_X10_newGroup : vx_M := (yX10_newGroup, cX10_newGroup, 3, some (.int))
abbrev M_X10_add : vx_M := (yX10_add, cX10_add, 3, none)
abbrev M_X10_sets : vx_M := (yX10_sets, cX10_sets, 6, some (.int))
abbrev M_X10_choose : vx_M := (yX10_choose, cX10_choose, 11, none)
abbrev M_X10_size : vx_M := (yX10_size, cX10_size, 2, some (.int))
abbrev M_X10_in : vx_M := (yX10_in, cX10_in, 3, some (.int))
abbrev M_X10_set : vx_M := (yX10_set, cX10_set, 4, some (.int))
abbrev M_X10_hand : vx_M := (yX10_hand, cX10_hand, 4, some (.int))
abbrev M_X10_join : vx_M := (yX10_join, cX10_join, 4, some (.int))
abbrev M_X10_isThere : vx_M := (yX10_isThere, cX10_isThere, 2, some (.boolean))
abbrev M_X10_part : vx_M := (yX10_part, cX10_part, 3, some (.int))
abbrev M_X10_lock : vx_M := (yX10_lock, cX10_lock, 4, some (.int))
abbrev M_X10_group : vx_M := (yX10_group, cX10_group, 3, some (.int))
abbrev M_X10_differenceOf : vx_M := (yX10_differenceOf, cX10_differenceOf, 6, some (.long))
abbrev M_X10_breaks : vx_M := (yX10_breaks, cX10_breaks, 6, some (.int))
abbrev M_X10_broken : vx_M := (yX10_broken, cX10_broken, 5, some (.int))
abbrev M_X10_sum : vx_M := (yX10_sum, cX10_sum, 6, some (.long))
abbrev M_X10_as : vx_M := (yX10_as, cX10_as, 9, some (.long))
abbrev M_X10_wasThere : vx_M := (yX10_wasThere, cX10_wasThere, 3, some (.boolean))
abbrev M_X10_explain : vx_M := (yX10_explain, cX10_explain, 5, some (.int))
abbrev M_X10_addItem : vx_M := (yX10_addItem, cX10_addItem, 6, some (.int))
abbrev M_X10_find : vx_M := (yX10_find, cX10_find, 8, some (.int))
abbrev M_X10_explained : vx_M := (yX10_explained, cX10_explained, 3, some (.int))
abbrev M_X10_undo : vx_M := (yX10_undo, cX10_undo, 3, some (.int))
abbrev M_X10_count : vx_M := (yX10_count, cX10_count, 4, some (.int))
abbrev M_X10_check : vx_M := (yX10_check, cX10_check, 7, some (.int))
theorem cwX0 : ∀ w ∈ u_ws RX0 TX0 5, w ∈ lw_ok := by decide +kernel
theorem cwX1 : ∀ w ∈ u_ws RX1 TX1 2, w ∈ lw_ok := by decide +kernel
theorem cwX2 : ∀ w ∈ u_ws RX2 TX2 10, w ∈ lw_ok := by decide +kernel
theorem cwX3 : ∀ w ∈ u_ws RX3 TX3 6, w ∈ lw_ok := by decide +kernel
theorem cwX4 : ∀ w ∈ u_ws RX4 TX4 9, w ∈ lw_ok := by decide +kernel
theorem cwX5 : ∀ w ∈ u_ws RX5 TX5 9, w ∈ lw_ok := by decide +kernel
theorem cwX6 : ∀ w ∈ u_ws RX6 TX6 12, w ∈ lw_ok := by decide +kernel
theorem cwX7 : ∀ w ∈ u_ws RX7 TX7 13, w ∈ lw_ok := by decide +kernel
theorem cwX8 : ∀ w ∈ u_ws RX8 TX8 3, w ∈ lw_ok := by decide +kernel
theorem cwX9 : ∀ w ∈ u_ws RX9 TX9 11, w ∈ lw_ok := by decide +kernel
theorem cwX10 : ∀ w ∈ u_ws RX10 TX10 47, w ∈ lw_ok := by decide +kernel
theorem fgX4_15 : xFG RX4 15 4 0 := ⟨RX4, TX4, 9, rfl, by decide, lw_ok_in 82 (by decide +kernel) rfl, cwX4⟩
theorem fpX4_15 : xFP RX4 15 4 0 (.int) true := ⟨RX4, TX4, 9, tyX4, rfl, by decide, lw_ok_in 82 (by decide +kernel) rfl, cwX4, tyX4_ok, nmX4, rfl, by decide +kernel, fun _ => rfl⟩
theorem fgX7_52 : xFG RX7 52 4 0 := ⟨RX4, TX4, 9, rfl, by decide, lw_ok_in 83 (by decide +kernel) rfl, cwX4⟩
theorem fgX2_62 : xFG RX2 62 4 0 := ⟨RX4, TX4, 9, rfl, by decide, lw_ok_in 84 (by decide +kernel) rfl, cwX4⟩
theorem fgX3_47 : xFG RX3 47 4 0 := ⟨RX4, TX4, 9, rfl, by decide, lw_ok_in 85 (by decide +kernel) rfl, cwX4⟩
theorem fgX4_18 : xFG RX4 18 4 1 := ⟨RX4, TX4, 9, rfl, by decide, lw_ok_in 86 (by decide +kernel) rfl, cwX4⟩
theorem fpX4_18 : xFP RX4 18 4 1 (.int) true := ⟨RX4, TX4, 9, tyX4, rfl, by decide, lw_ok_in 86 (by decide +kernel) rfl, cwX4, tyX4_ok, nmX4, rfl, by decide +kernel, fun _ => rfl⟩
theorem fgX7_55 : xFG RX7 55 4 1 := ⟨RX4, TX4, 9, rfl, by decide, lw_ok_in 87 (by decide +kernel) rfl, cwX4⟩
theorem fgX4_21 : xFG RX4 21 4 2 := ⟨RX4, TX4, 9, rfl, by decide, lw_ok_in 88 (by decide +kernel) rfl, cwX4⟩
theorem fpX4_21 : xFP RX4 21 4 2 (.int) false := ⟨RX4, TX4, 9, tyX4, rfl, by decide, lw_ok_in 88 (by decide +kernel) rfl, cwX4, tyX4_ok, nmX4, rfl, by decide +kernel, fun h => by cases h⟩
theorem fgX7_57 : xFG RX7 57 4 2 := ⟨RX4, TX4, 9, rfl, by decide, lw_ok_in 89 (by decide +kernel) rfl, cwX4⟩
theorem fgX2_65 : xFG RX2 65 4 2 := ⟨RX4, TX4, 9, rfl, by decide, lw_ok_in 90 (by decide +kernel) rfl, cwX4⟩
theorem fgX1_31 : xFG RX1 31 4 2 := ⟨RX4, TX4, 9, rfl, by decide, lw_ok_in 91 (by decide +kernel) rfl, cwX4⟩
theorem fgX9_106 : xFG RX9 106 4 2 := ⟨RX4, TX4, 9, rfl, by decide, lw_ok_in 92 (by decide +kernel) rfl, cwX4⟩
theorem fgX3_50 : xFG RX3 50 4 2 := ⟨RX4, TX4, 9, rfl, by decide, lw_ok_in 93 (by decide +kernel) rfl, cwX4⟩
theorem fgX4_24 : xFG RX4 24 4 3 := ⟨RX4, TX4, 9, rfl, by decide, lw_ok_in 94 (by decide +kernel) rfl, cwX4⟩
theorem fpX4_24 : xFP RX4 24 4 3 (.int) false := ⟨RX4, TX4, 9, tyX4, rfl, by decide, lw_ok_in 94 (by decide +kernel) rfl, cwX4, tyX4_ok, nmX4, rfl, by decide +kernel, fun h => by cases h⟩
theorem fgX7_72 : xFG RX7 72 4 3 := ⟨RX4, TX4, 9, rfl, by decide, lw_ok_in 95 (by decide +kernel) rfl, cwX4⟩
theorem fgX9_109 : xFG RX9 109 4 3 := ⟨RX4, TX4, 9, rfl, by decide, lw_ok_in 96 (by decide +kernel) rfl, cwX4⟩
theorem fgX4_27 : xFG RX4 27 4 4 := ⟨RX4, TX4, 9, rfl, by decide, lw_ok_in 97 (by decide +kernel) rfl, cwX4⟩
theorem fpX4_27 : xFP RX4 27 4 4 (.int) false := ⟨RX4, TX4, 9, tyX4, rfl, by decide, lw_ok_in 97 (by decide +kernel) rfl, cwX4, tyX4_ok, nmX4, rfl, by decide +kernel, fun h => by cases h⟩
theorem fgX9_115 : xFG RX9 115 4 4 := ⟨RX4, TX4, 9, rfl, by decide, lw_ok_in 98 (by decide +kernel) rfl, cwX4⟩
theorem fgX4_30 : xFG RX4 30 4 5 := ⟨RX4, TX4, 9, rfl, by decide, lw_ok_in 99 (by decide +kernel) rfl, cwX4⟩
theorem fpX4_30 : xFP RX4 30 4 5 (.int) false := ⟨RX4, TX4, 9, tyX4, rfl, by decide, lw_ok_in 99 (by decide +kernel) rfl, cwX4, tyX4_ok, nmX4, rfl, by decide +kernel, fun h => by cases h⟩
theorem fgX9_112 : xFG RX9 112 4 5 := ⟨RX4, TX4, 9, rfl, by decide, lw_ok_in 100 (by decide +kernel) rfl, cwX4⟩
theorem fgX3_53 : xFG RX3 53 4 5 := ⟨RX4, TX4, 9, rfl, by decide, lw_ok_in 101 (by decide +kernel) rfl, cwX4⟩
theorem fgX4_33 : xFG RX4 33 4 6 := ⟨RX4, TX4, 9, rfl, by decide, lw_ok_in 102 (by decide +kernel) rfl, cwX4⟩
theorem fpX4_33 : xFP RX4 33 4 6 (.int) false := ⟨RX4, TX4, 9, tyX4, rfl, by decide, lw_ok_in 102 (by decide +kernel) rfl, cwX4, tyX4_ok, nmX4, rfl, by decide +kernel, fun h => by cases h⟩
theorem fgX1_28 : xFG RX1 28 4 6 := ⟨RX4, TX4, 9, rfl, by decide, lw_ok_in 103 (by decide +kernel) rfl, cwX4⟩
theorem fgX9_118 : xFG RX9 118 4 6 := ⟨RX4, TX4, 9, rfl, by decide, lw_ok_in 104 (by decide +kernel) rfl, cwX4⟩
theorem fgX4_9 : xFG RX4 9 4 7 := ⟨RX4, TX4, 9, rfl, by decide, lw_ok_in 105 (by decide +kernel) rfl, cwX4⟩
theorem fpX4_9 : xFP RX4 9 4 7 (.int) false := ⟨RX4, TX4, 9, tyX4, rfl, by decide, lw_ok_in 105 (by decide +kernel) rfl, cwX4, tyX4_ok, nmX4, rfl, by decide +kernel, fun h => by cases h⟩
theorem fgX3_33 : xFG RX3 33 4 7 := ⟨RX4, TX4, 9, rfl, by decide, lw_ok_in 106 (by decide +kernel) rfl, cwX4⟩
theorem fpX3_33 : xFP RX3 33 4 7 (.int) false := ⟨RX4, TX4, 9, tyX4, rfl, by decide, lw_ok_in 106 (by decide +kernel) rfl, cwX4, tyX4_ok, nmX4, rfl, by decide +kernel, fun h => by cases h⟩
theorem fgX9_121 : xFG RX9 121 4 7 := ⟨RX4, TX4, 9, rfl, by decide, lw_ok_in 107 (by decide +kernel) rfl, cwX4⟩
theorem fpX9_121 : xFP RX9 121 4 7 (.int) false := ⟨RX4, TX4, 9, tyX4, rfl, by decide, lw_ok_in 107 (by decide +kernel) rfl, cwX4, tyX4_ok, nmX4, rfl, by decide +kernel, fun h => by cases h⟩
theorem fgX4_36 : xFG RX4 36 4 8 := ⟨RX4, TX4, 9, rfl, by decide, lw_ok_in 108 (by decide +kernel) rfl, cwX4⟩
theorem fgX1_34 : xFG RX1 34 4 8 := ⟨RX4, TX4, 9, rfl, by decide, lw_ok_in 109 (by decide +kernel) rfl, cwX4⟩
theorem fpX1_34 : xFP RX1 34 4 8 (.int) false := ⟨RX4, TX4, 9, tyX4, rfl, by decide, lw_ok_in 109 (by decide +kernel) rfl, cwX4, tyX4_ok, nmX4, rfl, by decide +kernel, fun h => by cases h⟩
theorem fgX3_36 : xFG RX3 36 4 8 := ⟨RX4, TX4, 9, rfl, by decide, lw_ok_in 110 (by decide +kernel) rfl, cwX4⟩
theorem fpX3_36 : xFP RX3 36 4 8 (.int) false := ⟨RX4, TX4, 9, tyX4, rfl, by decide, lw_ok_in 110 (by decide +kernel) rfl, cwX4, tyX4_ok, nmX4, rfl, by decide +kernel, fun h => by cases h⟩
theorem fgX1_11 : xFG RX1 11 1 0 := ⟨RX1, TX1, 2, rfl, by decide, lw_ok_in 130 (by decide +kernel) rfl, cwX1⟩
theorem fpX1_11 : xFP RX1 11 1 0 (.array (.object "TwoBooks$Line")) true := ⟨RX1, TX1, 2, tyX1, rfl, by decide, lw_ok_in 130 (by decide +kernel) rfl, cwX1, tyX1_ok, nmX1, rfl, by decide +kernel, fun _ => rfl⟩
theorem fgX7_64 : xFG RX7 64 1 0 := ⟨RX1, TX1, 2, rfl, by decide, lw_ok_in 131 (by decide +kernel) rfl, cwX1⟩
theorem fgX9_83 : xFG RX9 83 1 0 := ⟨RX1, TX1, 2, rfl, by decide, lw_ok_in 132 (by decide +kernel) rfl, cwX1⟩
theorem fgX2_52 : xFG RX2 52 1 0 := ⟨RX1, TX1, 2, rfl, by decide, lw_ok_in 133 (by decide +kernel) rfl, cwX1⟩
theorem fgX5_63 : xFG RX5 63 1 0 := ⟨RX1, TX1, 2, rfl, by decide, lw_ok_in 134 (by decide +kernel) rfl, cwX1⟩
theorem fgX1_17 : xFG RX1 17 1 1 := ⟨RX1, TX1, 2, rfl, by decide, lw_ok_in 135 (by decide +kernel) rfl, cwX1⟩
theorem fpX1_17 : xFP RX1 17 1 1 (.int) false := ⟨RX1, TX1, 2, tyX1, rfl, by decide, lw_ok_in 135 (by decide +kernel) rfl, cwX1, tyX1_ok, nmX1, rfl, by decide +kernel, fun h => by cases h⟩
theorem fgX7_59 : xFG RX7 59 1 1 := ⟨RX1, TX1, 2, rfl, by decide, lw_ok_in 136 (by decide +kernel) rfl, cwX1⟩
theorem fgX9_80 : xFG RX9 80 1 1 := ⟨RX1, TX1, 2, rfl, by decide, lw_ok_in 137 (by decide +kernel) rfl, cwX1⟩
theorem fpX9_80 : xFP RX9 80 1 1 (.int) false := ⟨RX1, TX1, 2, tyX1, rfl, by decide, lw_ok_in 137 (by decide +kernel) rfl, cwX1, tyX1_ok, nmX1, rfl, by decide +kernel, fun h => by cases h⟩
theorem fgX2_47 : xFG RX2 47 1 1 := ⟨RX1, TX1, 2, rfl, by decide, lw_ok_in 138 (by decide +kernel) rfl, cwX1⟩
theorem fgX5_58 : xFG RX5 58 1 1 := ⟨RX1, TX1, 2, rfl, by decide, lw_ok_in 139 (by decide +kernel) rfl, cwX1⟩
theorem fgX0_9 : xFG RX0 9 0 0 := ⟨RX0, TX0, 5, rfl, by decide, lw_ok_in 153 (by decide +kernel) rfl, cwX0⟩
theorem fpX0_9 : xFP RX0 9 0 0 (.array (.int)) true := ⟨RX0, TX0, 5, tyX0, rfl, by decide, lw_ok_in 153 (by decide +kernel) rfl, cwX0, tyX0_ok, nmX0, rfl, by decide +kernel, fun _ => rfl⟩
theorem fgX9_298 : xFG RX9 298 0 0 := ⟨RX0, TX0, 5, rfl, by decide, lw_ok_in 154 (by decide +kernel) rfl, cwX0⟩
theorem fgX0_15 : xFG RX0 15 0 1 := ⟨RX0, TX0, 5, rfl, by decide, lw_ok_in 155 (by decide +kernel) rfl, cwX0⟩
theorem fpX0_15 : xFP RX0 15 0 1 (.array (.int)) true := ⟨RX0, TX0, 5, tyX0, rfl, by decide, lw_ok_in 155 (by decide +kernel) rfl, cwX0, tyX0_ok, nmX0, rfl, by decide +kernel, fun _ => rfl⟩
theorem fgX9_301 : xFG RX9 301 0 1 := ⟨RX0, TX0, 5, rfl, by decide, lw_ok_in 156 (by decide +kernel) rfl, cwX0⟩
theorem fgX0_18 : xFG RX0 18 0 2 := ⟨RX0, TX0, 5, rfl, by decide, lw_ok_in 157 (by decide +kernel) rfl, cwX0⟩
theorem fpX0_18 : xFP RX0 18 0 2 (.array (.int)) true := ⟨RX0, TX0, 5, tyX0, rfl, by decide, lw_ok_in 157 (by decide +kernel) rfl, cwX0, tyX0_ok, nmX0, rfl, by decide +kernel, fun _ => rfl⟩
theorem fgX9_304 : xFG RX9 304 0 2 := ⟨RX0, TX0, 5, rfl, by decide, lw_ok_in 158 (by decide +kernel) rfl, cwX0⟩
theorem fgX0_21 : xFG RX0 21 0 3 := ⟨RX0, TX0, 5, rfl, by decide, lw_ok_in 159 (by decide +kernel) rfl, cwX0⟩
theorem fpX0_21 : xFP RX0 21 0 3 (.int) false := ⟨RX0, TX0, 5, tyX0, rfl, by decide, lw_ok_in 159 (by decide +kernel) rfl, cwX0, tyX0_ok, nmX0, rfl, by decide +kernel, fun h => by cases h⟩
theorem fgX0_25 : xFG RX0 25 0 4 := ⟨RX0, TX0, 5, rfl, by decide, lw_ok_in 160 (by decide +kernel) rfl, cwX0⟩
theorem fpX0_25 : xFP RX0 25 0 4 (.int) false := ⟨RX0, TX0, 5, tyX0, rfl, by decide, lw_ok_in 160 (by decide +kernel) rfl, cwX0, tyX0_ok, nmX0, rfl, by decide +kernel, fun h => by cases h⟩
theorem fgX9_294 : xFG RX9 294 0 4 := ⟨RX0, TX0, 5, rfl, by decide, lw_ok_in 161 (by decide +kernel) rfl, cwX0⟩
theorem fpX9_294 : xFP RX9 294 0 4 (.int) false := ⟨RX0, TX0, 5, tyX0, rfl, by decide, lw_ok_in 161 (by decide +kernel) rfl, cwX0, tyX0_ok, nmX0, rfl, by decide +kernel, fun h => by cases h⟩
theorem fgX6_11 : xFG RX6 11 6 0 := ⟨RX6, TX6, 12, rfl, by decide, lw_ok_in 188 (by decide +kernel) rfl, cwX6⟩
theorem fpX6_11 : xFP RX6 11 6 0 (.array (.array (.int))) true := ⟨RX6, TX6, 12, tyX6, rfl, by decide, lw_ok_in 188 (by decide +kernel) rfl, cwX6, tyX6_ok, nmX6, rfl, by decide +kernel, fun _ => rfl⟩
theorem fgX5_86 : xFG RX5 86 6 0 := ⟨RX6, TX6, 12, rfl, by decide, lw_ok_in 189 (by decide +kernel) rfl, cwX6⟩
theorem fgX9_157 : xFG RX9 157 6 0 := ⟨RX6, TX6, 12, rfl, by decide, lw_ok_in 190 (by decide +kernel) rfl, cwX6⟩
theorem fgX6_16 : xFG RX6 16 6 1 := ⟨RX6, TX6, 12, rfl, by decide, lw_ok_in 191 (by decide +kernel) rfl, cwX6⟩
theorem fpX6_16 : xFP RX6 16 6 1 (.int) false := ⟨RX6, TX6, 12, tyX6, rfl, by decide, lw_ok_in 191 (by decide +kernel) rfl, cwX6, tyX6_ok, nmX6, rfl, by decide +kernel, fun h => by cases h⟩
theorem fgX6_20 : xFG RX6 20 6 2 := ⟨RX6, TX6, 12, rfl, by decide, lw_ok_in 192 (by decide +kernel) rfl, cwX6⟩
theorem fpX6_20 : xFP RX6 20 6 2 (.array (.int)) true := ⟨RX6, TX6, 12, tyX6, rfl, by decide, lw_ok_in 192 (by decide +kernel) rfl, cwX6, tyX6_ok, nmX6, rfl, by decide +kernel, fun _ => rfl⟩
theorem fgX6_24 : xFG RX6 24 6 3 := ⟨RX6, TX6, 12, rfl, by decide, lw_ok_in 193 (by decide +kernel) rfl, cwX6⟩
theorem fpX6_24 : xFP RX6 24 6 3 (.array (.int)) true := ⟨RX6, TX6, 12, tyX6, rfl, by decide, lw_ok_in 193 (by decide +kernel) rfl, cwX6, tyX6_ok, nmX6, rfl, by decide +kernel, fun _ => rfl⟩
theorem fgX6_27 : xFG RX6 27 6 4 := ⟨RX6, TX6, 12, rfl, by decide, lw_ok_in 194 (by decide +kernel) rfl, cwX6⟩
theorem fpX6_27 : xFP RX6 27 6 4 (.array (.int)) true := ⟨RX6, TX6, 12, tyX6, rfl, by decide, lw_ok_in 194 (by decide +kernel) rfl, cwX6, tyX6_ok, nmX6, rfl, by decide +kernel, fun _ => rfl⟩
theorem fgX6_30 : xFG RX6 30 6 5 := ⟨RX6, TX6, 12, rfl, by decide, lw_ok_in 195 (by decide +kernel) rfl, cwX6⟩
theorem fpX6_30 : xFP RX6 30 6 5 (.array (.int)) true := ⟨RX6, TX6, 12, tyX6, rfl, by decide, lw_ok_in 195 (by decide +kernel) rfl, cwX6, tyX6_ok, nmX6, rfl, by decide +kernel, fun _ => rfl⟩
theorem fgX6_33 : xFG RX6 33 6 6 := ⟨RX6, TX6, 12, rfl, by decide, lw_ok_in 196 (by decide +kernel) rfl, cwX6⟩
theorem fpX6_33 : xFP RX6 33 6 6 (.array (.int)) true := ⟨RX6, TX6, 12, tyX6, rfl, by decide, lw_ok_in 196 (by decide +kernel) rfl, cwX6, tyX6_ok, nmX6, rfl, by decide +kernel, fun _ => rfl⟩
theorem fgX6_36 : xFG RX6 36 6 7 := ⟨RX6, TX6, 12, rfl, by decide, lw_ok_in 197 (by decide +kernel) rfl, cwX6⟩
theorem fpX6_36 : xFP RX6 36 6 7 (.array (.int)) true := ⟨RX6, TX6, 12, tyX6, rfl, by decide, lw_ok_in 197 (by decide +kernel) rfl, cwX6, tyX6_ok, nmX6, rfl, by decide +kernel, fun _ => rfl⟩
theorem fgX6_39 : xFG RX6 39 6 8 := ⟨RX6, TX6, 12, rfl, by decide, lw_ok_in 198 (by decide +kernel) rfl, cwX6⟩
theorem fpX6_39 : xFP RX6 39 6 8 (.array (.int)) true := ⟨RX6, TX6, 12, tyX6, rfl, by decide, lw_ok_in 198 (by decide +kernel) rfl, cwX6, tyX6_ok, nmX6, rfl, by decide +kernel, fun _ => rfl⟩
theorem fgX6_42 : xFG RX6 42 6 9 := ⟨RX6, TX6, 12, rfl, by decide, lw_ok_in 199 (by decide +kernel) rfl, cwX6⟩
theorem fpX6_42 : xFP RX6 42 6 9 (.array (.int)) true := ⟨RX6, TX6, 12, tyX6, rfl, by decide, lw_ok_in 199 (by decide +kernel) rfl, cwX6, tyX6_ok, nmX6, rfl, by decide +kernel, fun _ => rfl⟩
theorem fgX6_45 : xFG RX6 45 6 10 := ⟨RX6, TX6, 12, rfl, by decide, lw_ok_in 200 (by decide +kernel) rfl, cwX6⟩
theorem fpX6_45 : xFP RX6 45 6 10 (.array (.boolean)) true := ⟨RX6, TX6, 12, tyX6, rfl, by decide, lw_ok_in 200 (by decide +kernel) rfl, cwX6, tyX6_ok, nmX6, rfl, by decide +kernel, fun _ => rfl⟩
theorem fgX6_49 : xFG RX6 49 6 11 := ⟨RX6, TX6, 12, rfl, by decide, lw_ok_in 201 (by decide +kernel) rfl, cwX6⟩
theorem fpX6_49 : xFP RX6 49 6 11 (.array (.boolean)) true := ⟨RX6, TX6, 12, tyX6, rfl, by decide, lw_ok_in 201 (by decide +kernel) rfl, cwX6, tyX6_ok, nmX6, rfl, by decide +kernel, fun _ => rfl⟩
theorem fgX5_12 : xFG RX5 12 5 0 := ⟨RX5, TX5, 9, rfl, by decide, lw_ok_in 228 (by decide +kernel) rfl, cwX5⟩
theorem fpX5_12 : xFP RX5 12 5 0 (.object "TwoBooks$Seats") true := ⟨RX5, TX5, 9, tyX5, rfl, by decide, lw_ok_in 228 (by decide +kernel) rfl, cwX5, tyX5_ok, nmX5, rfl, by decide +kernel, fun _ => rfl⟩
theorem fgX9_153 : xFG RX9 153 5 0 := ⟨RX5, TX5, 9, rfl, by decide, lw_ok_in 229 (by decide +kernel) rfl, cwX5⟩
theorem fgX5_18 : xFG RX5 18 5 1 := ⟨RX5, TX5, 9, rfl, by decide, lw_ok_in 230 (by decide +kernel) rfl, cwX5⟩
theorem fpX5_18 : xFP RX5 18 5 1 (.array (.int)) true := ⟨RX5, TX5, 9, tyX5, rfl, by decide, lw_ok_in 230 (by decide +kernel) rfl, cwX5, tyX5_ok, nmX5, rfl, by decide +kernel, fun _ => rfl⟩
theorem fgX9_143 : xFG RX9 143 5 1 := ⟨RX5, TX5, 9, rfl, by decide, lw_ok_in 231 (by decide +kernel) rfl, cwX5⟩
theorem fgX5_22 : xFG RX5 22 5 2 := ⟨RX5, TX5, 9, rfl, by decide, lw_ok_in 232 (by decide +kernel) rfl, cwX5⟩
theorem fpX5_22 : xFP RX5 22 5 2 (.array (.int)) true := ⟨RX5, TX5, 9, tyX5, rfl, by decide, lw_ok_in 232 (by decide +kernel) rfl, cwX5, tyX5_ok, nmX5, rfl, by decide +kernel, fun _ => rfl⟩
theorem fgX9_150 : xFG RX9 150 5 2 := ⟨RX5, TX5, 9, rfl, by decide, lw_ok_in 233 (by decide +kernel) rfl, cwX5⟩
theorem fgX5_25 : xFG RX5 25 5 3 := ⟨RX5, TX5, 9, rfl, by decide, lw_ok_in 234 (by decide +kernel) rfl, cwX5⟩
theorem fpX5_25 : xFP RX5 25 5 3 (.array (.int)) true := ⟨RX5, TX5, 9, tyX5, rfl, by decide, lw_ok_in 234 (by decide +kernel) rfl, cwX5, tyX5_ok, nmX5, rfl, by decide +kernel, fun _ => rfl⟩
theorem fgX9_176 : xFG RX9 176 5 3 := ⟨RX5, TX5, 9, rfl, by decide, lw_ok_in 235 (by decide +kernel) rfl, cwX5⟩
theorem fgX5_28 : xFG RX5 28 5 4 := ⟨RX5, TX5, 9, rfl, by decide, lw_ok_in 236 (by decide +kernel) rfl, cwX5⟩
theorem fpX5_28 : xFP RX5 28 5 4 (.array (.int)) true := ⟨RX5, TX5, 9, tyX5, rfl, by decide, lw_ok_in 236 (by decide +kernel) rfl, cwX5, tyX5_ok, nmX5, rfl, by decide +kernel, fun _ => rfl⟩
theorem fgX9_179 : xFG RX9 179 5 4 := ⟨RX5, TX5, 9, rfl, by decide, lw_ok_in 237 (by decide +kernel) rfl, cwX5⟩
theorem fgX5_31 : xFG RX5 31 5 5 := ⟨RX5, TX5, 9, rfl, by decide, lw_ok_in 238 (by decide +kernel) rfl, cwX5⟩
theorem fpX5_31 : xFP RX5 31 5 5 (.int) false := ⟨RX5, TX5, 9, tyX5, rfl, by decide, lw_ok_in 238 (by decide +kernel) rfl, cwX5, tyX5_ok, nmX5, rfl, by decide +kernel, fun h => by cases h⟩
theorem fgX9_140 : xFG RX9 140 5 5 := ⟨RX5, TX5, 9, rfl, by decide, lw_ok_in 239 (by decide +kernel) rfl, cwX5⟩
theorem fgX5_35 : xFG RX5 35 5 6 := ⟨RX5, TX5, 9, rfl, by decide, lw_ok_in 240 (by decide +kernel) rfl, cwX5⟩
theorem fpX5_35 : xFP RX5 35 5 6 (.int) false := ⟨RX5, TX5, 9, tyX5, rfl, by decide, lw_ok_in 240 (by decide +kernel) rfl, cwX5, tyX5_ok, nmX5, rfl, by decide +kernel, fun h => by cases h⟩
theorem fgX9_147 : xFG RX9 147 5 6 := ⟨RX5, TX5, 9, rfl, by decide, lw_ok_in 241 (by decide +kernel) rfl, cwX5⟩
theorem fgX5_38 : xFG RX5 38 5 7 := ⟨RX5, TX5, 9, rfl, by decide, lw_ok_in 242 (by decide +kernel) rfl, cwX5⟩
theorem fpX5_38 : xFP RX5 38 5 7 (.int) false := ⟨RX5, TX5, 9, tyX5, rfl, by decide, lw_ok_in 242 (by decide +kernel) rfl, cwX5, tyX5_ok, nmX5, rfl, by decide +kernel, fun h => by cases h⟩
theorem fgX9_169 : xFG RX9 169 5 7 := ⟨RX5, TX5, 9, rfl, by decide, lw_ok_in 243 (by decide +kernel) rfl, cwX5⟩
theorem fgX5_41 : xFG RX5 41 5 8 := ⟨RX5, TX5, 9, rfl, by decide, lw_ok_in 244 (by decide +kernel) rfl, cwX5⟩
theorem fpX5_41 : xFP RX5 41 5 8 (.int) false := ⟨RX5, TX5, 9, tyX5, rfl, by decide, lw_ok_in 244 (by decide +kernel) rfl, cwX5, tyX5_ok, nmX5, rfl, by decide +kernel, fun h => by cases h⟩
theorem fgX9_166 : xFG RX9 166 5 8 := ⟨RX5, TX5, 9, rfl, by decide, lw_ok_in 245 (by decide +kernel) rfl, cwX5⟩
theorem fpX9_166 : xFP RX9 166 5 8 (.int) false := ⟨RX5, TX5, 9, tyX5, rfl, by decide, lw_ok_in 245 (by decide +kernel) rfl, cwX5, tyX5_ok, nmX5, rfl, by decide +kernel, fun h => by cases h⟩
theorem fgX7_9 : xFG RX7 9 7 0 := ⟨RX7, TX7, 13, rfl, by decide, lw_ok_in 271 (by decide +kernel) rfl, cwX7⟩
theorem fpX7_9 : xFP RX7 9 7 0 (.array (.int)) true := ⟨RX7, TX7, 13, tyX7, rfl, by decide, lw_ok_in 271 (by decide +kernel) rfl, cwX7, tyX7_ok, nmX7, rfl, by decide +kernel, fun _ => rfl⟩
theorem fgX7_15 : xFG RX7 15 7 1 := ⟨RX7, TX7, 13, rfl, by decide, lw_ok_in 272 (by decide +kernel) rfl, cwX7⟩
theorem fpX7_15 : xFP RX7 15 7 1 (.array (.int)) true := ⟨RX7, TX7, 13, tyX7, rfl, by decide, lw_ok_in 272 (by decide +kernel) rfl, cwX7, tyX7_ok, nmX7, rfl, by decide +kernel, fun _ => rfl⟩
theorem fgX7_18 : xFG RX7 18 7 2 := ⟨RX7, TX7, 13, rfl, by decide, lw_ok_in 273 (by decide +kernel) rfl, cwX7⟩
theorem fpX7_18 : xFP RX7 18 7 2 (.array (.int)) true := ⟨RX7, TX7, 13, tyX7, rfl, by decide, lw_ok_in 273 (by decide +kernel) rfl, cwX7, tyX7_ok, nmX7, rfl, by decide +kernel, fun _ => rfl⟩
theorem fgX7_21 : xFG RX7 21 7 3 := ⟨RX7, TX7, 13, rfl, by decide, lw_ok_in 274 (by decide +kernel) rfl, cwX7⟩
theorem fpX7_21 : xFP RX7 21 7 3 (.array (.int)) true := ⟨RX7, TX7, 13, tyX7, rfl, by decide, lw_ok_in 274 (by decide +kernel) rfl, cwX7, tyX7_ok, nmX7, rfl, by decide +kernel, fun _ => rfl⟩
theorem fgX7_24 : xFG RX7 24 7 4 := ⟨RX7, TX7, 13, rfl, by decide, lw_ok_in 275 (by decide +kernel) rfl, cwX7⟩
theorem fpX7_24 : xFP RX7 24 7 4 (.array (.int)) true := ⟨RX7, TX7, 13, tyX7, rfl, by decide, lw_ok_in 275 (by decide +kernel) rfl, cwX7, tyX7_ok, nmX7, rfl, by decide +kernel, fun _ => rfl⟩
theorem fgX7_27 : xFG RX7 27 7 5 := ⟨RX7, TX7, 13, rfl, by decide, lw_ok_in 276 (by decide +kernel) rfl, cwX7⟩
theorem fpX7_27 : xFP RX7 27 7 5 (.int) false := ⟨RX7, TX7, 13, tyX7, rfl, by decide, lw_ok_in 276 (by decide +kernel) rfl, cwX7, tyX7_ok, nmX7, rfl, by decide +kernel, fun h => by cases h⟩
theorem fgX7_31 : xFG RX7 31 7 6 := ⟨RX7, TX7, 13, rfl, by decide, lw_ok_in 277 (by decide +kernel) rfl, cwX7⟩
theorem fpX7_31 : xFP RX7 31 7 6 (.int) false := ⟨RX7, TX7, 13, tyX7, rfl, by decide, lw_ok_in 277 (by decide +kernel) rfl, cwX7, tyX7_ok, nmX7, rfl, by decide +kernel, fun h => by cases h⟩
theorem fgX7_34 : xFG RX7 34 7 7 := ⟨RX7, TX7, 13, rfl, by decide, lw_ok_in 278 (by decide +kernel) rfl, cwX7⟩
theorem fpX7_34 : xFP RX7 34 7 7 (.int) false := ⟨RX7, TX7, 13, tyX7, rfl, by decide, lw_ok_in 278 (by decide +kernel) rfl, cwX7, tyX7_ok, nmX7, rfl, by decide +kernel, fun h => by cases h⟩
theorem fgX7_37 : xFG RX7 37 7 8 := ⟨RX7, TX7, 13, rfl, by decide, lw_ok_in 279 (by decide +kernel) rfl, cwX7⟩
theorem fpX7_37 : xFP RX7 37 7 8 (.int) false := ⟨RX7, TX7, 13, tyX7, rfl, by decide, lw_ok_in 279 (by decide +kernel) rfl, cwX7, tyX7_ok, nmX7, rfl, by decide +kernel, fun h => by cases h⟩
theorem fgX7_40 : xFG RX7 40 7 9 := ⟨RX7, TX7, 13, rfl, by decide, lw_ok_in 280 (by decide +kernel) rfl, cwX7⟩
theorem fpX7_40 : xFP RX7 40 7 9 (.int) false := ⟨RX7, TX7, 13, tyX7, rfl, by decide, lw_ok_in 280 (by decide +kernel) rfl, cwX7, tyX7_ok, nmX7, rfl, by decide +kernel, fun h => by cases h⟩
theorem fgX9_200 : xFG RX9 200 7 9 := ⟨RX7, TX7, 13, rfl, by decide, lw_ok_in 281 (by decide +kernel) rfl, cwX7⟩
theorem fgX7_43 : xFG RX7 43 7 10 := ⟨RX7, TX7, 13, rfl, by decide, lw_ok_in 282 (by decide +kernel) rfl, cwX7⟩
theorem fpX7_43 : xFP RX7 43 7 10 (.int) false := ⟨RX7, TX7, 13, tyX7, rfl, by decide, lw_ok_in 282 (by decide +kernel) rfl, cwX7, tyX7_ok, nmX7, rfl, by decide +kernel, fun h => by cases h⟩
theorem fgX9_212 : xFG RX9 212 7 10 := ⟨RX7, TX7, 13, rfl, by decide, lw_ok_in 283 (by decide +kernel) rfl, cwX7⟩
theorem fgX7_46 : xFG RX7 46 7 11 := ⟨RX7, TX7, 13, rfl, by decide, lw_ok_in 284 (by decide +kernel) rfl, cwX7⟩
theorem fpX7_46 : xFP RX7 46 7 11 (.int) false := ⟨RX7, TX7, 13, tyX7, rfl, by decide, lw_ok_in 284 (by decide +kernel) rfl, cwX7, tyX7_ok, nmX7, rfl, by decide +kernel, fun h => by cases h⟩
theorem fgX9_215 : xFG RX9 215 7 11 := ⟨RX7, TX7, 13, rfl, by decide, lw_ok_in 285 (by decide +kernel) rfl, cwX7⟩
theorem fgX7_49 : xFG RX7 49 7 12 := ⟨RX7, TX7, 13, rfl, by decide, lw_ok_in 286 (by decide +kernel) rfl, cwX7⟩
theorem fpX7_49 : xFP RX7 49 7 12 (.int) false := ⟨RX7, TX7, 13, tyX7, rfl, by decide, lw_ok_in 286 (by decide +kernel) rfl, cwX7, tyX7_ok, nmX7, rfl, by decide +kernel, fun h => by cases h⟩
theorem fgX9_199 : xFG RX9 199 7 12 := ⟨RX7, TX7, 13, rfl, by decide, lw_ok_in 287 (by decide +kernel) rfl, cwX7⟩
theorem fpX9_199 : xFP RX9 199 7 12 (.int) false := ⟨RX7, TX7, 13, tyX7, rfl, by decide, lw_ok_in 287 (by decide +kernel) rfl, cwX7, tyX7_ok, nmX7, rfl, by decide +kernel, fun h => by cases h⟩
theorem fgX8_11 : xFG RX8 11 8 0 := ⟨RX8, TX8, 3, rfl, by decide, lw_ok_in 327 (by decide +kernel) rfl, cwX8⟩
theorem fpX8_11 : xFP RX8 11 8 0 (.array (.int)) true := ⟨RX8, TX8, 3, tyX8, rfl, by decide, lw_ok_in 327 (by decide +kernel) rfl, cwX8, tyX8_ok, nmX8, rfl, by decide +kernel, fun _ => rfl⟩
theorem fgX8_15 : xFG RX8 15 8 1 := ⟨RX8, TX8, 3, rfl, by decide, lw_ok_in 328 (by decide +kernel) rfl, cwX8⟩
theorem fpX8_15 : xFP RX8 15 8 1 (.array (.int)) true := ⟨RX8, TX8, 3, tyX8, rfl, by decide, lw_ok_in 328 (by decide +kernel) rfl, cwX8, tyX8_ok, nmX8, rfl, by decide +kernel, fun _ => rfl⟩
theorem fgX8_18 : xFG RX8 18 8 2 := ⟨RX8, TX8, 3, rfl, by decide, lw_ok_in 329 (by decide +kernel) rfl, cwX8⟩
theorem fpX8_18 : xFP RX8 18 8 2 (.int) false := ⟨RX8, TX8, 3, tyX8, rfl, by decide, lw_ok_in 329 (by decide +kernel) rfl, cwX8, tyX8_ok, nmX8, rfl, by decide +kernel, fun h => by cases h⟩
theorem fgX2_9 : xFG RX2 9 2 0 := ⟨RX2, TX2, 10, rfl, by decide, lw_ok_in 337 (by decide +kernel) rfl, cwX2⟩
theorem fpX2_9 : xFP RX2 9 2 0 (.array (.int)) true := ⟨RX2, TX2, 10, tyX2, rfl, by decide, lw_ok_in 337 (by decide +kernel) rfl, cwX2, tyX2_ok, nmX2, rfl, by decide +kernel, fun _ => rfl⟩
theorem fgX2_15 : xFG RX2 15 2 1 := ⟨RX2, TX2, 10, rfl, by decide, lw_ok_in 338 (by decide +kernel) rfl, cwX2⟩
theorem fpX2_15 : xFP RX2 15 2 1 (.array (.int)) true := ⟨RX2, TX2, 10, tyX2, rfl, by decide, lw_ok_in 338 (by decide +kernel) rfl, cwX2, tyX2_ok, nmX2, rfl, by decide +kernel, fun _ => rfl⟩
theorem fgX2_18 : xFG RX2 18 2 2 := ⟨RX2, TX2, 10, rfl, by decide, lw_ok_in 339 (by decide +kernel) rfl, cwX2⟩
theorem fpX2_18 : xFP RX2 18 2 2 (.array (.int)) true := ⟨RX2, TX2, 10, tyX2, rfl, by decide, lw_ok_in 339 (by decide +kernel) rfl, cwX2, tyX2_ok, nmX2, rfl, by decide +kernel, fun _ => rfl⟩
theorem fgX2_24 : xFG RX2 24 2 3 := ⟨RX2, TX2, 10, rfl, by decide, lw_ok_in 340 (by decide +kernel) rfl, cwX2⟩
theorem fpX2_24 : xFP RX2 24 2 3 (.object "TwoBooks$Sums") true := ⟨RX2, TX2, 10, tyX2, rfl, by decide, lw_ok_in 340 (by decide +kernel) rfl, cwX2, tyX2_ok, nmX2, rfl, by decide +kernel, fun _ => rfl⟩
theorem fgX2_28 : xFG RX2 28 2 4 := ⟨RX2, TX2, 10, rfl, by decide, lw_ok_in 341 (by decide +kernel) rfl, cwX2⟩
theorem fpX2_28 : xFP RX2 28 2 4 (.object "TwoBooks$Sums") true := ⟨RX2, TX2, 10, tyX2, rfl, by decide, lw_ok_in 341 (by decide +kernel) rfl, cwX2, tyX2_ok, nmX2, rfl, by decide +kernel, fun _ => rfl⟩
theorem fgX2_31 : xFG RX2 31 2 5 := ⟨RX2, TX2, 10, rfl, by decide, lw_ok_in 342 (by decide +kernel) rfl, cwX2⟩
theorem fpX2_31 : xFP RX2 31 2 5 (.object "TwoBooks$Sums") true := ⟨RX2, TX2, 10, tyX2, rfl, by decide, lw_ok_in 342 (by decide +kernel) rfl, cwX2, tyX2_ok, nmX2, rfl, by decide +kernel, fun _ => rfl⟩
theorem fgX2_34 : xFG RX2 34 2 6 := ⟨RX2, TX2, 10, rfl, by decide, lw_ok_in 343 (by decide +kernel) rfl, cwX2⟩
theorem fpX2_34 : xFP RX2 34 2 6 (.int) false := ⟨RX2, TX2, 10, tyX2, rfl, by decide, lw_ok_in 343 (by decide +kernel) rfl, cwX2, tyX2_ok, nmX2, rfl, by decide +kernel, fun h => by cases h⟩
theorem fgX2_38 : xFG RX2 38 2 7 := ⟨RX2, TX2, 10, rfl, by decide, lw_ok_in 344 (by decide +kernel) rfl, cwX2⟩
theorem fpX2_38 : xFP RX2 38 2 7 (.array (.int)) true := ⟨RX2, TX2, 10, tyX2, rfl, by decide, lw_ok_in 344 (by decide +kernel) rfl, cwX2, tyX2_ok, nmX2, rfl, by decide +kernel, fun _ => rfl⟩
theorem fgX9_288 : xFG RX9 288 2 7 := ⟨RX2, TX2, 10, rfl, by decide, lw_ok_in 345 (by decide +kernel) rfl, cwX2⟩
theorem fgX2_41 : xFG RX2 41 2 8 := ⟨RX2, TX2, 10, rfl, by decide, lw_ok_in 346 (by decide +kernel) rfl, cwX2⟩
theorem fpX2_41 : xFP RX2 41 2 8 (.array (.int)) true := ⟨RX2, TX2, 10, tyX2, rfl, by decide, lw_ok_in 346 (by decide +kernel) rfl, cwX2, tyX2_ok, nmX2, rfl, by decide +kernel, fun _ => rfl⟩
theorem fgX9_291 : xFG RX9 291 2 8 := ⟨RX2, TX2, 10, rfl, by decide, lw_ok_in 347 (by decide +kernel) rfl, cwX2⟩
theorem fgX2_44 : xFG RX2 44 2 9 := ⟨RX2, TX2, 10, rfl, by decide, lw_ok_in 348 (by decide +kernel) rfl, cwX2⟩
theorem fpX2_44 : xFP RX2 44 2 9 (.int) false := ⟨RX2, TX2, 10, tyX2, rfl, by decide, lw_ok_in 348 (by decide +kernel) rfl, cwX2, tyX2_ok, nmX2, rfl, by decide +kernel, fun h => by cases h⟩
theorem fgX9_287 : xFG RX9 287 2 9 := ⟨RX2, TX2, 10, rfl, by decide, lw_ok_in 349 (by decide +kernel) rfl, cwX2⟩
theorem fgX3_11 : xFG RX3 11 3 0 := ⟨RX3, TX3, 6, rfl, by decide, lw_ok_in 377 (by decide +kernel) rfl, cwX3⟩
theorem fpX3_11 : xFP RX3 11 3 0 (.array (.object "TwoBooks$Line")) true := ⟨RX3, TX3, 6, tyX3, rfl, by decide, lw_ok_in 377 (by decide +kernel) rfl, cwX3, tyX3_ok, nmX3, rfl, by decide +kernel, fun _ => rfl⟩
theorem fgX3_17 : xFG RX3 17 3 1 := ⟨RX3, TX3, 6, rfl, by decide, lw_ok_in 378 (by decide +kernel) rfl, cwX3⟩
theorem fpX3_17 : xFP RX3 17 3 1 (.int) false := ⟨RX3, TX3, 6, tyX3, rfl, by decide, lw_ok_in 378 (by decide +kernel) rfl, cwX3, tyX3_ok, nmX3, rfl, by decide +kernel, fun h => by cases h⟩
theorem fgX9_228 : xFG RX9 228 3 1 := ⟨RX3, TX3, 6, rfl, by decide, lw_ok_in 379 (by decide +kernel) rfl, cwX3⟩
theorem fgX3_21 : xFG RX3 21 3 2 := ⟨RX3, TX3, 6, rfl, by decide, lw_ok_in 380 (by decide +kernel) rfl, cwX3⟩
theorem fpX3_21 : xFP RX3 21 3 2 (.int) false := ⟨RX3, TX3, 6, tyX3, rfl, by decide, lw_ok_in 380 (by decide +kernel) rfl, cwX3, tyX3_ok, nmX3, rfl, by decide +kernel, fun h => by cases h⟩
theorem fgX9_229 : xFG RX9 229 3 2 := ⟨RX3, TX3, 6, rfl, by decide, lw_ok_in 381 (by decide +kernel) rfl, cwX3⟩
theorem fpX9_229 : xFP RX9 229 3 2 (.int) false := ⟨RX3, TX3, 6, tyX3, rfl, by decide, lw_ok_in 381 (by decide +kernel) rfl, cwX3, tyX3_ok, nmX3, rfl, by decide +kernel, fun h => by cases h⟩
theorem fgX3_24 : xFG RX3 24 3 3 := ⟨RX3, TX3, 6, rfl, by decide, lw_ok_in 382 (by decide +kernel) rfl, cwX3⟩
theorem fpX3_24 : xFP RX3 24 3 3 (.int) false := ⟨RX3, TX3, 6, tyX3, rfl, by decide, lw_ok_in 382 (by decide +kernel) rfl, cwX3, tyX3_ok, nmX3, rfl, by decide +kernel, fun h => by cases h⟩
theorem fgX9_243 : xFG RX9 243 3 3 := ⟨RX3, TX3, 6, rfl, by decide, lw_ok_in 383 (by decide +kernel) rfl, cwX3⟩
theorem fgX3_27 : xFG RX3 27 3 4 := ⟨RX3, TX3, 6, rfl, by decide, lw_ok_in 384 (by decide +kernel) rfl, cwX3⟩
theorem fpX3_27 : xFP RX3 27 3 4 (.int) false := ⟨RX3, TX3, 6, tyX3, rfl, by decide, lw_ok_in 384 (by decide +kernel) rfl, cwX3, tyX3_ok, nmX3, rfl, by decide +kernel, fun h => by cases h⟩
theorem fgX9_232 : xFG RX9 232 3 4 := ⟨RX3, TX3, 6, rfl, by decide, lw_ok_in 385 (by decide +kernel) rfl, cwX3⟩
theorem fpX9_232 : xFP RX9 232 3 4 (.int) false := ⟨RX3, TX3, 6, tyX3, rfl, by decide, lw_ok_in 385 (by decide +kernel) rfl, cwX3, tyX3_ok, nmX3, rfl, by decide +kernel, fun h => by cases h⟩
theorem fgX3_30 : xFG RX3 30 3 5 := ⟨RX3, TX3, 6, rfl, by decide, lw_ok_in 386 (by decide +kernel) rfl, cwX3⟩
theorem fpX3_30 : xFP RX3 30 3 5 (.int) false := ⟨RX3, TX3, 6, tyX3, rfl, by decide, lw_ok_in 386 (by decide +kernel) rfl, cwX3, tyX3_ok, nmX3, rfl, by decide +kernel, fun h => by cases h⟩
theorem fgX9_225 : xFG RX9 225 3 5 := ⟨RX3, TX3, 6, rfl, by decide, lw_ok_in 387 (by decide +kernel) rfl, cwX3⟩
theorem fpX9_225 : xFP RX9 225 3 5 (.int) false := ⟨RX3, TX3, 6, tyX3, rfl, by decide, lw_ok_in 387 (by decide +kernel) rfl, cwX3, tyX3_ok, nmX3, rfl, by decide +kernel, fun h => by cases h⟩
theorem fgX9_12 : xFG RX9 12 9 0 := ⟨RX9, TX9, 11, rfl, by decide, lw_ok_in 401 (by decide +kernel) rfl, cwX9⟩
theorem fpX9_12 : xFP RX9 12 9 0 (.array (.object "TwoBooks$Book")) true := ⟨RX9, TX9, 11, tyX9, rfl, by decide, lw_ok_in 401 (by decide +kernel) rfl, cwX9, tyX9_ok, nmX9, rfl, by decide +kernel, fun _ => rfl⟩
theorem fgX9_20 : xFG RX9 20 9 1 := ⟨RX9, TX9, 11, rfl, by decide, lw_ok_in 402 (by decide +kernel) rfl, cwX9⟩
theorem fpX9_20 : xFP RX9 20 9 1 (.array (.object "TwoBooks$Group")) true := ⟨RX9, TX9, 11, tyX9, rfl, by decide, lw_ok_in 402 (by decide +kernel) rfl, cwX9, tyX9_ok, nmX9, rfl, by decide +kernel, fun _ => rfl⟩
theorem fgX9_27 : xFG RX9 27 9 2 := ⟨RX9, TX9, 11, rfl, by decide, lw_ok_in 403 (by decide +kernel) rfl, cwX9⟩
theorem fpX9_27 : xFP RX9 27 9 2 (.object "TwoBooks$Acts") true := ⟨RX9, TX9, 11, tyX9, rfl, by decide, lw_ok_in 403 (by decide +kernel) rfl, cwX9, tyX9_ok, nmX9, rfl, by decide +kernel, fun _ => rfl⟩
theorem fgX9_34 : xFG RX9 34 9 3 := ⟨RX9, TX9, 11, rfl, by decide, lw_ok_in 404 (by decide +kernel) rfl, cwX9⟩
theorem fpX9_34 : xFP RX9 34 9 3 (.object "TwoBooks$Pairing") true := ⟨RX9, TX9, 11, tyX9, rfl, by decide, lw_ok_in 404 (by decide +kernel) rfl, cwX9, tyX9_ok, nmX9, rfl, by decide +kernel, fun _ => rfl⟩
theorem fgX9_41 : xFG RX9 41 9 4 := ⟨RX9, TX9, 11, rfl, by decide, lw_ok_in 405 (by decide +kernel) rfl, cwX9⟩
theorem fpX9_41 : xFP RX9 41 9 4 (.object "TwoBooks$Sets") true := ⟨RX9, TX9, 11, tyX9, rfl, by decide, lw_ok_in 405 (by decide +kernel) rfl, cwX9, tyX9_ok, nmX9, rfl, by decide +kernel, fun _ => rfl⟩
theorem fgX9_48 : xFG RX9 48 9 5 := ⟨RX9, TX9, 11, rfl, by decide, lw_ok_in 406 (by decide +kernel) rfl, cwX9⟩
theorem fpX9_48 : xFP RX9 48 9 5 (.object "TwoBooks$Explanation") true := ⟨RX9, TX9, 11, tyX9, rfl, by decide, lw_ok_in 406 (by decide +kernel) rfl, cwX9, tyX9_ok, nmX9, rfl, by decide +kernel, fun _ => rfl⟩
theorem fgX9_52 : xFG RX9 52 9 6 := ⟨RX9, TX9, 11, rfl, by decide, lw_ok_in 407 (by decide +kernel) rfl, cwX9⟩
theorem fpX9_52 : xFP RX9 52 9 6 (.int) false := ⟨RX9, TX9, 11, tyX9, rfl, by decide, lw_ok_in 407 (by decide +kernel) rfl, cwX9, tyX9_ok, nmX9, rfl, by decide +kernel, fun h => by cases h⟩
theorem fgX9_56 : xFG RX9 56 9 7 := ⟨RX9, TX9, 11, rfl, by decide, lw_ok_in 408 (by decide +kernel) rfl, cwX9⟩
theorem fpX9_56 : xFP RX9 56 9 7 (.int) false := ⟨RX9, TX9, 11, tyX9, rfl, by decide, lw_ok_in 408 (by decide +kernel) rfl, cwX9, tyX9_ok, nmX9, rfl, by decide +kernel, fun h => by cases h⟩
theorem fgX9_59 : xFG RX9 59 9 8 := ⟨RX9, TX9, 11, rfl, by decide, lw_ok_in 409 (by decide +kernel) rfl, cwX9⟩
theorem fpX9_59 : xFP RX9 59 9 8 (.int) false := ⟨RX9, TX9, 11, tyX9, rfl, by decide, lw_ok_in 409 (by decide +kernel) rfl, cwX9, tyX9_ok, nmX9, rfl, by decide +kernel, fun h => by cases h⟩
theorem fgX9_62 : xFG RX9 62 9 9 := ⟨RX9, TX9, 11, rfl, by decide, lw_ok_in 410 (by decide +kernel) rfl, cwX9⟩
theorem fpX9_62 : xFP RX9 62 9 9 (.int) false := ⟨RX9, TX9, 11, tyX9, rfl, by decide, lw_ok_in 410 (by decide +kernel) rfl, cwX9, tyX9_ok, nmX9, rfl, by decide +kernel, fun h => by cases h⟩
theorem fgX9_65 : xFG RX9 65 9 10 := ⟨RX9, TX9, 11, rfl, by decide, lw_ok_in 411 (by decide +kernel) rfl, cwX9⟩
theorem fpX9_65 : xFP RX9 65 9 10 (.int) false := ⟨RX9, TX9, 11, tyX9, rfl, by decide, lw_ok_in 411 (by decide +kernel) rfl, cwX9, tyX9_ok, nmX9, rfl, by decide +kernel, fun h => by cases h⟩
theorem fgX10_9 : xFG RX10 9 10 0 := ⟨RX10, TX10, 47, rfl, by decide, lw_ok_in 917 (by decide +kernel) rfl, cwX10⟩
theorem fpX10_9 : xFP RX10 9 10 0 (.array (.int)) true := ⟨RX10, TX10, 47, tyX10, rfl, by decide, lw_ok_in 917 (by decide +kernel) rfl, cwX10, tyX10_ok, nmX10, rfl, by decide +kernel, fun _ => rfl⟩
theorem fgX10_13 : xFG RX10 13 10 1 := ⟨RX10, TX10, 47, rfl, by decide, lw_ok_in 918 (by decide +kernel) rfl, cwX10⟩
theorem fpX10_13 : xFP RX10 13 10 1 (.array (.int)) true := ⟨RX10, TX10, 47, tyX10, rfl, by decide, lw_ok_in 918 (by decide +kernel) rfl, cwX10, tyX10_ok, nmX10, rfl, by decide +kernel, fun _ => rfl⟩
theorem fgX10_16 : xFG RX10 16 10 2 := ⟨RX10, TX10, 47, rfl, by decide, lw_ok_in 919 (by decide +kernel) rfl, cwX10⟩
theorem fpX10_16 : xFP RX10 16 10 2 (.array (.int)) true := ⟨RX10, TX10, 47, tyX10, rfl, by decide, lw_ok_in 919 (by decide +kernel) rfl, cwX10, tyX10_ok, nmX10, rfl, by decide +kernel, fun _ => rfl⟩
theorem fgX10_19 : xFG RX10 19 10 3 := ⟨RX10, TX10, 47, rfl, by decide, lw_ok_in 920 (by decide +kernel) rfl, cwX10⟩
theorem fpX10_19 : xFP RX10 19 10 3 (.array (.int)) true := ⟨RX10, TX10, 47, tyX10, rfl, by decide, lw_ok_in 920 (by decide +kernel) rfl, cwX10, tyX10_ok, nmX10, rfl, by decide +kernel, fun _ => rfl⟩
theorem fgX10_22 : xFG RX10 22 10 4 := ⟨RX10, TX10, 47, rfl, by decide, lw_ok_in 921 (by decide +kernel) rfl, cwX10⟩
theorem fpX10_22 : xFP RX10 22 10 4 (.array (.int)) true := ⟨RX10, TX10, 47, tyX10, rfl, by decide, lw_ok_in 921 (by decide +kernel) rfl, cwX10, tyX10_ok, nmX10, rfl, by decide +kernel, fun _ => rfl⟩
theorem fgX10_25 : xFG RX10 25 10 5 := ⟨RX10, TX10, 47, rfl, by decide, lw_ok_in 922 (by decide +kernel) rfl, cwX10⟩
theorem fpX10_25 : xFP RX10 25 10 5 (.array (.int)) true := ⟨RX10, TX10, 47, tyX10, rfl, by decide, lw_ok_in 922 (by decide +kernel) rfl, cwX10, tyX10_ok, nmX10, rfl, by decide +kernel, fun _ => rfl⟩
theorem fgX10_28 : xFG RX10 28 10 6 := ⟨RX10, TX10, 47, rfl, by decide, lw_ok_in 923 (by decide +kernel) rfl, cwX10⟩
theorem fpX10_28 : xFP RX10 28 10 6 (.array (.int)) true := ⟨RX10, TX10, 47, tyX10, rfl, by decide, lw_ok_in 923 (by decide +kernel) rfl, cwX10, tyX10_ok, nmX10, rfl, by decide +kernel, fun _ => rfl⟩
theorem fgX10_136 : xFG RX10 136 10 7 := ⟨RX10, TX10, 47, rfl, by decide, lw_ok_in 924 (by decide +kernel) rfl, cwX10⟩
theorem fpX10_136 : xFP RX10 136 10 7 (.int) false := ⟨RX10, TX10, 47, tyX10, rfl, by decide, lw_ok_in 924 (by decide +kernel) rfl, cwX10, tyX10_ok, nmX10, rfl, by decide +kernel, fun h => by cases h⟩
theorem fgX10_31 : xFG RX10 31 10 8 := ⟨RX10, TX10, 47, rfl, by decide, lw_ok_in 925 (by decide +kernel) rfl, cwX10⟩
theorem fpX10_31 : xFP RX10 31 10 8 (.int) false := ⟨RX10, TX10, 47, tyX10, rfl, by decide, lw_ok_in 925 (by decide +kernel) rfl, cwX10, tyX10_ok, nmX10, rfl, by decide +kernel, fun h => by cases h⟩
theorem fgX10_147 : xFG RX10 147 10 9 := ⟨RX10, TX10, 47, rfl, by decide, lw_ok_in 926 (by decide +kernel) rfl, cwX10⟩
theorem fpX10_147 : xFP RX10 147 10 9 (.int) false := ⟨RX10, TX10, 47, tyX10, rfl, by decide, lw_ok_in 926 (by decide +kernel) rfl, cwX10, tyX10_ok, nmX10, rfl, by decide +kernel, fun h => by cases h⟩
theorem fgX10_35 : xFG RX10 35 10 10 := ⟨RX10, TX10, 47, rfl, by decide, lw_ok_in 927 (by decide +kernel) rfl, cwX10⟩
theorem fpX10_35 : xFP RX10 35 10 10 (.array (.int)) true := ⟨RX10, TX10, 47, tyX10, rfl, by decide, lw_ok_in 927 (by decide +kernel) rfl, cwX10, tyX10_ok, nmX10, rfl, by decide +kernel, fun _ => rfl⟩
theorem fgX10_38 : xFG RX10 38 10 11 := ⟨RX10, TX10, 47, rfl, by decide, lw_ok_in 928 (by decide +kernel) rfl, cwX10⟩
theorem fpX10_38 : xFP RX10 38 10 11 (.array (.int)) true := ⟨RX10, TX10, 47, tyX10, rfl, by decide, lw_ok_in 928 (by decide +kernel) rfl, cwX10, tyX10_ok, nmX10, rfl, by decide +kernel, fun _ => rfl⟩
theorem fgX10_41 : xFG RX10 41 10 12 := ⟨RX10, TX10, 47, rfl, by decide, lw_ok_in 929 (by decide +kernel) rfl, cwX10⟩
theorem fpX10_41 : xFP RX10 41 10 12 (.array (.int)) true := ⟨RX10, TX10, 47, tyX10, rfl, by decide, lw_ok_in 929 (by decide +kernel) rfl, cwX10, tyX10_ok, nmX10, rfl, by decide +kernel, fun _ => rfl⟩
theorem fgX10_44 : xFG RX10 44 10 13 := ⟨RX10, TX10, 47, rfl, by decide, lw_ok_in 930 (by decide +kernel) rfl, cwX10⟩
theorem fpX10_44 : xFP RX10 44 10 13 (.array (.int)) true := ⟨RX10, TX10, 47, tyX10, rfl, by decide, lw_ok_in 930 (by decide +kernel) rfl, cwX10, tyX10_ok, nmX10, rfl, by decide +kernel, fun _ => rfl⟩
theorem fgX10_47 : xFG RX10 47 10 14 := ⟨RX10, TX10, 47, rfl, by decide, lw_ok_in 931 (by decide +kernel) rfl, cwX10⟩
theorem fpX10_47 : xFP RX10 47 10 14 (.array (.int)) true := ⟨RX10, TX10, 47, tyX10, rfl, by decide, lw_ok_in 931 (by decide +kernel) rfl, cwX10, tyX10_ok, nmX10, rfl, by decide +kernel, fun _ => rfl⟩
theorem fgX10_50 : xFG RX10 50 10 15 := ⟨RX10, TX10, 47, rfl, by decide, lw_ok_in 932 (by decide +kernel) rfl, cwX10⟩
theorem fpX10_50 : xFP RX10 50 10 15 (.array (.boolean)) true := ⟨RX10, TX10, 47, tyX10, rfl, by decide, lw_ok_in 932 (by decide +kernel) rfl, cwX10, tyX10_ok, nmX10, rfl, by decide +kernel, fun _ => rfl⟩
theorem fgX10_120 : xFG RX10 120 10 16 := ⟨RX10, TX10, 47, rfl, by decide, lw_ok_in 933 (by decide +kernel) rfl, cwX10⟩
theorem fpX10_120 : xFP RX10 120 10 16 (.int) false := ⟨RX10, TX10, 47, tyX10, rfl, by decide, lw_ok_in 933 (by decide +kernel) rfl, cwX10, tyX10_ok, nmX10, rfl, by decide +kernel, fun h => by cases h⟩
theorem fgX10_123 : xFG RX10 123 10 17 := ⟨RX10, TX10, 47, rfl, by decide, lw_ok_in 934 (by decide +kernel) rfl, cwX10⟩
theorem fpX10_123 : xFP RX10 123 10 17 (.boolean) false := ⟨RX10, TX10, 47, tyX10, rfl, by decide, lw_ok_in 934 (by decide +kernel) rfl, cwX10, tyX10_ok, nmX10, rfl, by decide +kernel, fun h => by cases h⟩
theorem fgX10_54 : xFG RX10 54 10 18 := ⟨RX10, TX10, 47, rfl, by decide, lw_ok_in 935 (by decide +kernel) rfl, cwX10⟩
theorem fpX10_54 : xFP RX10 54 10 18 (.array (.int)) true := ⟨RX10, TX10, 47, tyX10, rfl, by decide, lw_ok_in 935 (by decide +kernel) rfl, cwX10, tyX10_ok, nmX10, rfl, by decide +kernel, fun _ => rfl⟩
theorem fgX10_57 : xFG RX10 57 10 19 := ⟨RX10, TX10, 47, rfl, by decide, lw_ok_in 936 (by decide +kernel) rfl, cwX10⟩
theorem fpX10_57 : xFP RX10 57 10 19 (.array (.int)) true := ⟨RX10, TX10, 47, tyX10, rfl, by decide, lw_ok_in 936 (by decide +kernel) rfl, cwX10, tyX10_ok, nmX10, rfl, by decide +kernel, fun _ => rfl⟩
theorem fgX10_168 : xFG RX10 168 10 20 := ⟨RX10, TX10, 47, rfl, by decide, lw_ok_in 937 (by decide +kernel) rfl, cwX10⟩
theorem fpX10_168 : xFP RX10 168 10 20 (.int) false := ⟨RX10, TX10, 47, tyX10, rfl, by decide, lw_ok_in 937 (by decide +kernel) rfl, cwX10, tyX10_ok, nmX10, rfl, by decide +kernel, fun h => by cases h⟩
theorem fgX10_165 : xFG RX10 165 10 21 := ⟨RX10, TX10, 47, rfl, by decide, lw_ok_in 938 (by decide +kernel) rfl, cwX10⟩
theorem fpX10_165 : xFP RX10 165 10 21 (.int) false := ⟨RX10, TX10, 47, tyX10, rfl, by decide, lw_ok_in 938 (by decide +kernel) rfl, cwX10, tyX10_ok, nmX10, rfl, by decide +kernel, fun h => by cases h⟩
theorem fgX10_60 : xFG RX10 60 10 22 := ⟨RX10, TX10, 47, rfl, by decide, lw_ok_in 939 (by decide +kernel) rfl, cwX10⟩
theorem fpX10_60 : xFP RX10 60 10 22 (.array (.int)) true := ⟨RX10, TX10, 47, tyX10, rfl, by decide, lw_ok_in 939 (by decide +kernel) rfl, cwX10, tyX10_ok, nmX10, rfl, by decide +kernel, fun _ => rfl⟩
theorem fgX10_64 : xFG RX10 64 10 23 := ⟨RX10, TX10, 47, rfl, by decide, lw_ok_in 940 (by decide +kernel) rfl, cwX10⟩
theorem fpX10_64 : xFP RX10 64 10 23 (.array (.int)) true := ⟨RX10, TX10, 47, tyX10, rfl, by decide, lw_ok_in 940 (by decide +kernel) rfl, cwX10, tyX10_ok, nmX10, rfl, by decide +kernel, fun _ => rfl⟩
theorem fgX10_67 : xFG RX10 67 10 24 := ⟨RX10, TX10, 47, rfl, by decide, lw_ok_in 941 (by decide +kernel) rfl, cwX10⟩
theorem fpX10_67 : xFP RX10 67 10 24 (.array (.int)) true := ⟨RX10, TX10, 47, tyX10, rfl, by decide, lw_ok_in 941 (by decide +kernel) rfl, cwX10, tyX10_ok, nmX10, rfl, by decide +kernel, fun _ => rfl⟩
theorem fgX10_178 : xFG RX10 178 10 25 := ⟨RX10, TX10, 47, rfl, by decide, lw_ok_in 942 (by decide +kernel) rfl, cwX10⟩
theorem fpX10_178 : xFP RX10 178 10 25 (.int) false := ⟨RX10, TX10, 47, tyX10, rfl, by decide, lw_ok_in 942 (by decide +kernel) rfl, cwX10, tyX10_ok, nmX10, rfl, by decide +kernel, fun h => by cases h⟩
theorem fgX10_70 : xFG RX10 70 10 26 := ⟨RX10, TX10, 47, rfl, by decide, lw_ok_in 943 (by decide +kernel) rfl, cwX10⟩
theorem fpX10_70 : xFP RX10 70 10 26 (.array (.boolean)) true := ⟨RX10, TX10, 47, tyX10, rfl, by decide, lw_ok_in 943 (by decide +kernel) rfl, cwX10, tyX10_ok, nmX10, rfl, by decide +kernel, fun _ => rfl⟩
theorem fgX10_73 : xFG RX10 73 10 27 := ⟨RX10, TX10, 47, rfl, by decide, lw_ok_in 944 (by decide +kernel) rfl, cwX10⟩
theorem fpX10_73 : xFP RX10 73 10 27 (.int) false := ⟨RX10, TX10, 47, tyX10, rfl, by decide, lw_ok_in 944 (by decide +kernel) rfl, cwX10, tyX10_ok, nmX10, rfl, by decide +kernel, fun h => by cases h⟩
theorem fgX10_76 : xFG RX10 76 10 28 := ⟨RX10, TX10, 47, rfl, by decide, lw_ok_in 945 (by decide +kernel) rfl, cwX10⟩
theorem fpX10_76 : xFP RX10 76 10 28 (.int) false := ⟨RX10, TX10, 47, tyX10, rfl, by decide, lw_ok_in 945 (by decide +kernel) rfl, cwX10, tyX10_ok, nmX10, rfl, by decide +kernel, fun h => by cases h⟩
theorem fgX10_79 : xFG RX10 79 10 29 := ⟨RX10, TX10, 47, rfl, by decide, lw_ok_in 946 (by decide +kernel) rfl, cwX10⟩
theorem fpX10_79 : xFP RX10 79 10 29 (.array (.int)) true := ⟨RX10, TX10, 47, tyX10, rfl, by decide, lw_ok_in 946 (by decide +kernel) rfl, cwX10, tyX10_ok, nmX10, rfl, by decide +kernel, fun _ => rfl⟩
theorem fgX10_127 : xFG RX10 127 10 30 := ⟨RX10, TX10, 47, rfl, by decide, lw_ok_in 947 (by decide +kernel) rfl, cwX10⟩
theorem fpX10_127 : xFP RX10 127 10 30 (.boolean) false := ⟨RX10, TX10, 47, tyX10, rfl, by decide, lw_ok_in 947 (by decide +kernel) rfl, cwX10, tyX10_ok, nmX10, rfl, by decide +kernel, fun h => by cases h⟩
theorem fgX10_198 : xFG RX10 198 10 31 := ⟨RX10, TX10, 47, rfl, by decide, lw_ok_in 948 (by decide +kernel) rfl, cwX10⟩
theorem fpX10_198 : xFP RX10 198 10 31 (.int) false := ⟨RX10, TX10, 47, tyX10, rfl, by decide, lw_ok_in 948 (by decide +kernel) rfl, cwX10, tyX10_ok, nmX10, rfl, by decide +kernel, fun h => by cases h⟩
theorem fgX10_201 : xFG RX10 201 10 32 := ⟨RX10, TX10, 47, rfl, by decide, lw_ok_in 949 (by decide +kernel) rfl, cwX10⟩
theorem fpX10_201 : xFP RX10 201 10 32 (.int) false := ⟨RX10, TX10, 47, tyX10, rfl, by decide, lw_ok_in 949 (by decide +kernel) rfl, cwX10, tyX10_ok, nmX10, rfl, by decide +kernel, fun h => by cases h⟩
theorem fgX10_82 : xFG RX10 82 10 33 := ⟨RX10, TX10, 47, rfl, by decide, lw_ok_in 950 (by decide +kernel) rfl, cwX10⟩
theorem fpX10_82 : xFP RX10 82 10 33 (.array (.int)) true := ⟨RX10, TX10, 47, tyX10, rfl, by decide, lw_ok_in 950 (by decide +kernel) rfl, cwX10, tyX10_ok, nmX10, rfl, by decide +kernel, fun _ => rfl⟩
theorem fgX10_85 : xFG RX10 85 10 34 := ⟨RX10, TX10, 47, rfl, by decide, lw_ok_in 951 (by decide +kernel) rfl, cwX10⟩
theorem fpX10_85 : xFP RX10 85 10 34 (.array (.int)) true := ⟨RX10, TX10, 47, tyX10, rfl, by decide, lw_ok_in 951 (by decide +kernel) rfl, cwX10, tyX10_ok, nmX10, rfl, by decide +kernel, fun _ => rfl⟩
theorem fgX10_195 : xFG RX10 195 10 35 := ⟨RX10, TX10, 47, rfl, by decide, lw_ok_in 952 (by decide +kernel) rfl, cwX10⟩
theorem fpX10_195 : xFP RX10 195 10 35 (.int) false := ⟨RX10, TX10, 47, tyX10, rfl, by decide, lw_ok_in 952 (by decide +kernel) rfl, cwX10, tyX10_ok, nmX10, rfl, by decide +kernel, fun h => by cases h⟩
theorem fgX10_88 : xFG RX10 88 10 36 := ⟨RX10, TX10, 47, rfl, by decide, lw_ok_in 953 (by decide +kernel) rfl, cwX10⟩
theorem fpX10_88 : xFP RX10 88 10 36 (.array (.int)) true := ⟨RX10, TX10, 47, tyX10, rfl, by decide, lw_ok_in 953 (by decide +kernel) rfl, cwX10, tyX10_ok, nmX10, rfl, by decide +kernel, fun _ => rfl⟩
theorem fgX10_91 : xFG RX10 91 10 37 := ⟨RX10, TX10, 47, rfl, by decide, lw_ok_in 954 (by decide +kernel) rfl, cwX10⟩
theorem fpX10_91 : xFP RX10 91 10 37 (.array (.int)) true := ⟨RX10, TX10, 47, tyX10, rfl, by decide, lw_ok_in 954 (by decide +kernel) rfl, cwX10, tyX10_ok, nmX10, rfl, by decide +kernel, fun _ => rfl⟩
theorem fgX10_94 : xFG RX10 94 10 38 := ⟨RX10, TX10, 47, rfl, by decide, lw_ok_in 955 (by decide +kernel) rfl, cwX10⟩
theorem fpX10_94 : xFP RX10 94 10 38 (.array (.int)) true := ⟨RX10, TX10, 47, tyX10, rfl, by decide, lw_ok_in 955 (by decide +kernel) rfl, cwX10, tyX10_ok, nmX10, rfl, by decide +kernel, fun _ => rfl⟩
theorem fgX10_97 : xFG RX10 97 10 39 := ⟨RX10, TX10, 47, rfl, by decide, lw_ok_in 956 (by decide +kernel) rfl, cwX10⟩
theorem fpX10_97 : xFP RX10 97 10 39 (.array (.long)) true := ⟨RX10, TX10, 47, tyX10, rfl, by decide, lw_ok_in 956 (by decide +kernel) rfl, cwX10, tyX10_ok, nmX10, rfl, by decide +kernel, fun _ => rfl⟩
theorem fgX10_101 : xFG RX10 101 10 40 := ⟨RX10, TX10, 47, rfl, by decide, lw_ok_in 957 (by decide +kernel) rfl, cwX10⟩
theorem fpX10_101 : xFP RX10 101 10 40 (.array (.int)) true := ⟨RX10, TX10, 47, tyX10, rfl, by decide, lw_ok_in 957 (by decide +kernel) rfl, cwX10, tyX10_ok, nmX10, rfl, by decide +kernel, fun _ => rfl⟩
theorem fgX10_104 : xFG RX10 104 10 41 := ⟨RX10, TX10, 47, rfl, by decide, lw_ok_in 958 (by decide +kernel) rfl, cwX10⟩
theorem fpX10_104 : xFP RX10 104 10 41 (.array (.int)) true := ⟨RX10, TX10, 47, tyX10, rfl, by decide, lw_ok_in 958 (by decide +kernel) rfl, cwX10, tyX10_ok, nmX10, rfl, by decide +kernel, fun _ => rfl⟩
theorem fgX10_232 : xFG RX10 232 10 42 := ⟨RX10, TX10, 47, rfl, by decide, lw_ok_in 959 (by decide +kernel) rfl, cwX10⟩
theorem fpX10_232 : xFP RX10 232 10 42 (.int) false := ⟨RX10, TX10, 47, tyX10, rfl, by decide, lw_ok_in 959 (by decide +kernel) rfl, cwX10, tyX10_ok, nmX10, rfl, by decide +kernel, fun h => by cases h⟩
theorem fgX10_107 : xFG RX10 107 10 43 := ⟨RX10, TX10, 47, rfl, by decide, lw_ok_in 960 (by decide +kernel) rfl, cwX10⟩
theorem fpX10_107 : xFP RX10 107 10 43 (.array (.int)) true := ⟨RX10, TX10, 47, tyX10, rfl, by decide, lw_ok_in 960 (by decide +kernel) rfl, cwX10, tyX10_ok, nmX10, rfl, by decide +kernel, fun _ => rfl⟩
theorem fgX10_110 : xFG RX10 110 10 44 := ⟨RX10, TX10, 47, rfl, by decide, lw_ok_in 961 (by decide +kernel) rfl, cwX10⟩
theorem fpX10_110 : xFP RX10 110 10 44 (.array (.int)) true := ⟨RX10, TX10, 47, tyX10, rfl, by decide, lw_ok_in 961 (by decide +kernel) rfl, cwX10, tyX10_ok, nmX10, rfl, by decide +kernel, fun _ => rfl⟩
theorem fgX10_113 : xFG RX10 113 10 45 := ⟨RX10, TX10, 47, rfl, by decide, lw_ok_in 962 (by decide +kernel) rfl, cwX10⟩
theorem fpX10_113 : xFP RX10 113 10 45 (.array (.int)) true := ⟨RX10, TX10, 47, tyX10, rfl, by decide, lw_ok_in 962 (by decide +kernel) rfl, cwX10, tyX10_ok, nmX10, rfl, by decide +kernel, fun _ => rfl⟩
theorem fgX10_130 : xFG RX10 130 10 46 := ⟨RX10, TX10, 47, rfl, by decide, lw_ok_in 963 (by decide +kernel) rfl, cwX10⟩
theorem fpX10_130 : xFP RX10 130 10 46 (.int) false := ⟨RX10, TX10, 47, tyX10, rfl, by decide, lw_ok_in 963 (by decide +kernel) rfl, cwX10, tyX10_ok, nmX10, rfl, by decide +kernel, fun h => by cases h⟩
theorem mb_X9_init : xMB M_X9_init 0 := ⟨lw_ok_in 64 (by decide +kernel) rfl, lw_ok_in 46 (by decide +kernel) rfl, by decide +kernel, by decide +kernel, by decide +kernel⟩
theorem miL_9 : xMI RL 9 M_X9_init 0 := ⟨mb_X9_init, lw_ok_in 62 (by decide +kernel) rfl, lw_ok_in 63 (by decide +kernel) rfl, rfl, rfl⟩
theorem moX9_1 : Cond.methodLink RX9 1 Lib.objectInit ∈ lw_ok := lw_ok_in 65 (by decide +kernel) rfl
theorem mb_X1_init : xMB M_X1_init 1 := ⟨lw_ok_in 73 (by decide +kernel) rfl, lw_ok_in 47 (by decide +kernel) rfl, by decide +kernel, by decide +kernel, by decide +kernel⟩
theorem miX9_9 : xMI RX9 9 M_X1_init 1 := ⟨mb_X1_init, lw_ok_in 71 (by decide +kernel) rfl, lw_ok_in 72 (by decide +kernel) rfl, rfl, rfl⟩
theorem moX1_3 : Cond.methodLink RX1 3 Lib.objectInit ∈ lw_ok := lw_ok_in 74 (by decide +kernel) rfl
theorem mb_X4_init : xMB M_X4_init 2 := ⟨lw_ok_in 80 (by decide +kernel) rfl, lw_ok_in 48 (by decide +kernel) rfl, by decide +kernel, by decide +kernel, by decide +kernel⟩
theorem miX1_21 : xMI RX1 21 M_X4_init 2 := ⟨mb_X4_init, lw_ok_in 78 (by decide +kernel) rfl, lw_ok_in 79 (by decide +kernel) rfl, rfl, rfl⟩
theorem moX4_3 : Cond.methodLink RX4 3 Lib.objectInit ∈ lw_ok := lw_ok_in 81 (by decide +kernel) rfl
theorem mb_X0_init : xMB M_X0_init 0 := ⟨lw_ok_in 151 (by decide +kernel) rfl, lw_ok_in 49 (by decide +kernel) rfl, by decide +kernel, by decide +kernel, by decide +kernel⟩
theorem mnX9_26 : xMN RX9 26 M_X0_init 0 RX9 := ⟨mb_X0_init, List.mem_of_getElem? (i := 149) (by decide +kernel), lw_ok_in 150 (by decide +kernel) rfl, rfl, rfl⟩
theorem moX0_3 : Cond.methodLink RX0 3 Lib.objectInit ∈ lw_ok := lw_ok_in 152 (by decide +kernel) rfl
theorem mb_X5_init : xMB M_X5_init 0 := ⟨lw_ok_in 178 (by decide +kernel) rfl, lw_ok_in 50 (by decide +kernel) rfl, by decide +kernel, by decide +kernel, by decide +kernel⟩
theorem mnX9_33 : xMN RX9 33 M_X5_init 0 RX9 := ⟨mb_X5_init, List.mem_of_getElem? (i := 176) (by decide +kernel), lw_ok_in 177 (by decide +kernel) rfl, rfl, rfl⟩
theorem moX5_3 : Cond.methodLink RX5 3 Lib.objectInit ∈ lw_ok := lw_ok_in 179 (by decide +kernel) rfl
theorem mb_X6_init : xMB M_X6_init 0 := ⟨lw_ok_in 184 (by decide +kernel) rfl, lw_ok_in 51 (by decide +kernel) rfl, by decide +kernel, by decide +kernel, by decide +kernel⟩
theorem mnX5_11 : xMN RX5 11 M_X6_init 0 RX9 := ⟨mb_X6_init, List.mem_of_getElem? (i := 182) (by decide +kernel), lw_ok_in 183 (by decide +kernel) rfl, rfl, rfl⟩
theorem moX6_3 : Cond.methodLink RX6 3 Lib.objectInit ∈ lw_ok := lw_ok_in 185 (by decide +kernel) rfl
theorem mb_X7_init : xMB M_X7_init 0 := ⟨lw_ok_in 269 (by decide +kernel) rfl, lw_ok_in 52 (by decide +kernel) rfl, by decide +kernel, by decide +kernel, by decide +kernel⟩
theorem mnX9_40 : xMN RX9 40 M_X7_init 0 RX9 := ⟨mb_X7_init, List.mem_of_getElem? (i := 267) (by decide +kernel), lw_ok_in 268 (by decide +kernel) rfl, rfl, rfl⟩
theorem moX7_3 : Cond.methodLink RX7 3 Lib.objectInit ∈ lw_ok := lw_ok_in 270 (by decide +kernel) rfl
theorem mb_X2_init : xMB M_X2_init 0 := ⟨lw_ok_in 319 (by decide +kernel) rfl, lw_ok_in 53 (by decide +kernel) rfl, by decide +kernel, by decide +kernel, by decide +kernel⟩
theorem mnX9_47 : xMN RX9 47 M_X2_init 0 RX9 := ⟨mb_X2_init, List.mem_of_getElem? (i := 317) (by decide +kernel), lw_ok_in 318 (by decide +kernel) rfl, rfl, rfl⟩
theorem moX2_3 : Cond.methodLink RX2 3 Lib.objectInit ∈ lw_ok := lw_ok_in 320 (by decide +kernel) rfl
theorem mb_X8_init : xMB M_X8_init 0 := ⟨lw_ok_in 325 (by decide +kernel) rfl, lw_ok_in 54 (by decide +kernel) rfl, by decide +kernel, by decide +kernel, by decide +kernel⟩
theorem mnX2_23 : xMN RX2 23 M_X8_init 0 RX9 := ⟨mb_X8_init, List.mem_of_getElem? (i := 323) (by decide +kernel), lw_ok_in 324 (by decide +kernel) rfl, rfl, rfl⟩
theorem moX8_3 : Cond.methodLink RX8 3 Lib.objectInit ∈ lw_ok := lw_ok_in 326 (by decide +kernel) rfl
theorem mb_X3_init : xMB M_X3_init 0 := ⟨lw_ok_in 374 (by decide +kernel) rfl, lw_ok_in 55 (by decide +kernel) rfl, by decide +kernel, by decide +kernel, by decide +kernel⟩
theorem mnX9_68 : xMN RX9 68 M_X3_init 0 RX9 := ⟨mb_X3_init, List.mem_of_getElem? (i := 372) (by decide +kernel), lw_ok_in 373 (by decide +kernel) rfl, rfl, rfl⟩
theorem moX3_3 : Cond.methodLink RX3 3 Lib.objectInit ∈ lw_ok := lw_ok_in 375 (by decide +kernel) rfl
theorem mb_X9_line : xMB M_X9_line 4 := ⟨lw_ok_in 438 (by decide +kernel) rfl, lw_ok_in 46 (by decide +kernel) rfl, by decide +kernel, by decide +kernel, by decide +kernel⟩
theorem mvL_13 : xMV RL 13 M_X9_line 4 9 := ⟨mb_X9_line, lw_ok_in 435 (by decide +kernel) rfl, lw_ok_in 436 (by decide +kernel) rfl, lw_ok_in 437 (by decide +kernel) rfl, _, rfl, rfl⟩
theorem mb_X9_isBook : xMB M_X9_isBook 1 := ⟨lw_ok_in 441 (by decide +kernel) rfl, lw_ok_in 46 (by decide +kernel) rfl, by decide +kernel, by decide +kernel, by decide +kernel⟩
theorem msX9_69 : xMS RX9 69 M_X9_isBook 1 := ⟨mb_X9_isBook, lw_ok_in 439 (by decide +kernel) rfl, lw_ok_in 440 (by decide +kernel) rfl⟩
theorem mb_X9_isWithin : xMB M_X9_isWithin 3 := ⟨lw_ok_in 446 (by decide +kernel) rfl, lw_ok_in 46 (by decide +kernel) rfl, by decide +kernel, by decide +kernel, by decide +kernel⟩
theorem msX9_75 : xMS RX9 75 M_X9_isWithin 3 := ⟨mb_X9_isWithin, lw_ok_in 444 (by decide +kernel) rfl, lw_ok_in 445 (by decide +kernel) rfl⟩
theorem mb_X4_write : xMB M_X4_write 5 := ⟨lw_ok_in 451 (by decide +kernel) rfl, lw_ok_in 48 (by decide +kernel) rfl, by decide +kernel, by decide +kernel, by decide +kernel⟩
theorem mvX9_87 : xMV RX9 87 M_X4_write 5 4 := ⟨mb_X4_write, lw_ok_in 448 (by decide +kernel) rfl, lw_ok_in 449 (by decide +kernel) rfl, lw_ok_in 450 (by decide +kernel) rfl, _, rfl, rfl⟩
theorem mb_X9_carriedOut : xMB M_X9_carriedOut 3 := ⟨lw_ok_in 455 (by decide +kernel) rfl, lw_ok_in 46 (by decide +kernel) rfl, by decide +kernel, by decide +kernel, by decide +kernel⟩
theorem mvX9_93 : xMV RX9 93 M_X9_carriedOut 3 9 := ⟨mb_X9_carriedOut, lw_ok_in 452 (by decide +kernel) rfl, lw_ok_in 454 (by decide +kernel) rfl, lw_ok_in 0 (by decide +kernel) rfl, _, rfl, rfl⟩
theorem mb_X0_put : xMB M_X0_put 3 := ⟨lw_ok_in 459 (by decide +kernel) rfl, lw_ok_in 49 (by decide +kernel) rfl, by decide +kernel, by decide +kernel, by decide +kernel⟩
theorem mvX9_344 : xMV RX9 344 M_X0_put 3 0 := ⟨mb_X0_put, lw_ok_in 456 (by decide +kernel) rfl, lw_ok_in 457 (by decide +kernel) rfl, lw_ok_in 458 (by decide +kernel) rfl, _, rfl, rfl⟩
theorem mmX0_28 : xMM RX0 28 Lib.Math.min.name Lib.Math.min.code 2 := ⟨lw_ok_in 460 (by decide +kernel) rfl, lw_ok_in 461 (by decide +kernel) rfl, lw_ok_in 57 (by decide +kernel) rfl, lw_ok_in 462 (by decide +kernel) rfl⟩
theorem mb_X9_today : xMB M_X9_today 1 := ⟨lw_ok_in 466 (by decide +kernel) rfl, lw_ok_in 46 (by decide +kernel) rfl, by decide +kernel, by decide +kernel, by decide +kernel⟩
theorem mvL_18 : xMV RL 18 M_X9_today 1 9 := ⟨mb_X9_today, lw_ok_in 463 (by decide +kernel) rfl, lw_ok_in 464 (by decide +kernel) rfl, lw_ok_in 465 (by decide +kernel) rfl, _, rfl, rfl⟩
theorem mb_X9_endUndoing : xMB M_X9_endUndoing 0 := ⟨lw_ok_in 471 (by decide +kernel) rfl, lw_ok_in 46 (by decide +kernel) rfl, by decide +kernel, by decide +kernel, by decide +kernel⟩
theorem mvX9_98 : xMV RX9 98 M_X9_endUndoing 0 9 := ⟨mb_X9_endUndoing, lw_ok_in 468 (by decide +kernel) rfl, lw_ok_in 470 (by decide +kernel) rfl, lw_ok_in 1 (by decide +kernel) rfl, _, rfl, rfl⟩
theorem mb_X9_terms : xMB M_X9_terms 2 := ⟨lw_ok_in 475 (by decide +kernel) rfl, lw_ok_in 46 (by decide +kernel) rfl, by decide +kernel, by decide +kernel, by decide +kernel⟩
theorem mvL_23 : xMV RL 23 M_X9_terms 2 9 := ⟨mb_X9_terms, lw_ok_in 472 (by decide +kernel) rfl, lw_ok_in 473 (by decide +kernel) rfl, lw_ok_in 474 (by decide +kernel) rfl, _, rfl, rfl⟩
theorem mb_X9_told : xMB M_X9_told 3 := ⟨lw_ok_in 479 (by decide +kernel) rfl, lw_ok_in 46 (by decide +kernel) rfl, by decide +kernel, by decide +kernel, by decide +kernel⟩
theorem mvL_28 : xMV RL 28 M_X9_told 3 9 := ⟨mb_X9_told, lw_ok_in 476 (by decide +kernel) rfl, lw_ok_in 477 (by decide +kernel) rfl, lw_ok_in 478 (by decide +kernel) rfl, _, rfl, rfl⟩
theorem mb_X9_lineAt : xMB M_X9_lineAt 2 := ⟨lw_ok_in 483 (by decide +kernel) rfl, lw_ok_in 46 (by decide +kernel) rfl, by decide +kernel, by decide +kernel, by decide +kernel⟩
theorem mvX9_101 : xMV RX9 101 M_X9_lineAt 2 9 := ⟨mb_X9_lineAt, lw_ok_in 480 (by decide +kernel) rfl, lw_ok_in 482 (by decide +kernel) rfl, lw_ok_in 2 (by decide +kernel) rfl, _, rfl, rfl⟩
theorem mb_X4_isBreak : xMB M_X4_isBreak 0 := ⟨lw_ok_in 488 (by decide +kernel) rfl, lw_ok_in 48 (by decide +kernel) rfl, by decide +kernel, by decide +kernel, by decide +kernel⟩
theorem mvX9_124 : xMV RX9 124 M_X4_isBreak 0 4 := ⟨mb_X4_isBreak, lw_ok_in 485 (by decide +kernel) rfl, lw_ok_in 486 (by decide +kernel) rfl, lw_ok_in 487 (by decide +kernel) rfl, _, rfl, rfl⟩
theorem mb_X9_fit : xMB M_X9_fit 2 := ⟨lw_ok_in 492 (by decide +kernel) rfl, lw_ok_in 46 (by decide +kernel) rfl, by decide +kernel, by decide +kernel, by decide +kernel⟩
theorem mvL_33 : xMV RL 33 M_X9_fit 2 9 := ⟨mb_X9_fit, lw_ok_in 489 (by decide +kernel) rfl, lw_ok_in 490 (by decide +kernel) rfl, lw_ok_in 491 (by decide +kernel) rfl, _, rfl, rfl⟩
theorem mb_X9_fitOf : xMB M_X9_fitOf 2 := ⟨lw_ok_in 496 (by decide +kernel) rfl, lw_ok_in 46 (by decide +kernel) rfl, by decide +kernel, by decide +kernel, by decide +kernel⟩
theorem mvX9_128 : xMV RX9 128 M_X9_fitOf 2 9 := ⟨mb_X9_fitOf, lw_ok_in 493 (by decide +kernel) rfl, lw_ok_in 495 (by decide +kernel) rfl, lw_ok_in 3 (by decide +kernel) rfl, _, rfl, rfl⟩
theorem mmX9_321 : xMM RX9 321 Lib.Math.abs.name Lib.Math.abs.code 1 := ⟨lw_ok_in 497 (by decide +kernel) rfl, lw_ok_in 498 (by decide +kernel) rfl, lw_ok_in 57 (by decide +kernel) rfl, lw_ok_in 499 (by decide +kernel) rfl⟩
theorem mb_X9_learnt : xMB M_X9_learnt 2 := ⟨lw_ok_in 503 (by decide +kernel) rfl, lw_ok_in 46 (by decide +kernel) rfl, by decide +kernel, by decide +kernel, by decide +kernel⟩
theorem mvX9_326 : xMV RX9 326 M_X9_learnt 2 9 := ⟨mb_X9_learnt, lw_ok_in 500 (by decide +kernel) rfl, lw_ok_in 502 (by decide +kernel) rfl, lw_ok_in 4 (by decide +kernel) rfl, _, rfl, rfl⟩
theorem mb_X3_isThere : xMB M_X3_isThere 0 := ⟨lw_ok_in 507 (by decide +kernel) rfl, lw_ok_in 55 (by decide +kernel) rfl, by decide +kernel, by decide +kernel, by decide +kernel⟩
theorem mvX9_319 : xMV RX9 319 M_X3_isThere 0 3 := ⟨mb_X3_isThere, lw_ok_in 504 (by decide +kernel) rfl, lw_ok_in 505 (by decide +kernel) rfl, lw_ok_in 506 (by decide +kernel) rfl, _, rfl, rfl⟩
theorem mb_X3_hasWord : xMB M_X3_hasWord 2 := ⟨lw_ok_in 511 (by decide +kernel) rfl, lw_ok_in 55 (by decide +kernel) rfl, by decide +kernel, by decide +kernel, by decide +kernel⟩
theorem mvX9_332 : xMV RX9 332 M_X3_hasWord 2 3 := ⟨mb_X3_hasWord, lw_ok_in 508 (by decide +kernel) rfl, lw_ok_in 509 (by decide +kernel) rfl, lw_ok_in 510 (by decide +kernel) rfl, _, rfl, rfl⟩
theorem mmX9_329 : xMM RX9 329 Lib.Math.max.name Lib.Math.max.code 2 := ⟨lw_ok_in 512 (by decide +kernel) rfl, lw_ok_in 513 (by decide +kernel) rfl, lw_ok_in 57 (by decide +kernel) rfl, lw_ok_in 514 (by decide +kernel) rfl⟩
theorem mb_X9_best : xMB M_X9_best 0 := ⟨lw_ok_in 518 (by decide +kernel) rfl, lw_ok_in 46 (by decide +kernel) rfl, by decide +kernel, by decide +kernel, by decide +kernel⟩
theorem mvL_37 : xMV RL 37 M_X9_best 0 9 := ⟨mb_X9_best, lw_ok_in 515 (by decide +kernel) rfl, lw_ok_in 516 (by decide +kernel) rfl, lw_ok_in 517 (by decide +kernel) rfl, _, rfl, rfl⟩
theorem mb_X1_breaksAged : xMB M_X1_breaksAged 2 := ⟨lw_ok_in 522 (by decide +kernel) rfl, lw_ok_in 47 (by decide +kernel) rfl, by decide +kernel, by decide +kernel, by decide +kernel⟩
theorem mvX9_132 : xMV RX9 132 M_X1_breaksAged 2 1 := ⟨mb_X1_breaksAged, lw_ok_in 519 (by decide +kernel) rfl, lw_ok_in 520 (by decide +kernel) rfl, lw_ok_in 521 (by decide +kernel) rfl, _, rfl, rfl⟩
theorem mvX1_24 : xMV RX1 24 M_X4_isBreak 0 4 := ⟨mb_X4_isBreak, lw_ok_in 523 (by decide +kernel) rfl, lw_ok_in 486 (by decide +kernel) rfl, lw_ok_in 487 (by decide +kernel) rfl, _, rfl, rfl⟩
theorem mb_X5_gather : xMB M_X5_gather 2 := ⟨lw_ok_in 527 (by decide +kernel) rfl, lw_ok_in 50 (by decide +kernel) rfl, by decide +kernel, by decide +kernel, by decide +kernel⟩
theorem mvX9_136 : xMV RX9 136 M_X5_gather 2 5 := ⟨mb_X5_gather, lw_ok_in 524 (by decide +kernel) rfl, lw_ok_in 525 (by decide +kernel) rfl, lw_ok_in 526 (by decide +kernel) rfl, _, rfl, rfl⟩
theorem mb_X5_gatherBreaks : xMB M_X5_gatherBreaks 2 := ⟨lw_ok_in 530 (by decide +kernel) rfl, lw_ok_in 50 (by decide +kernel) rfl, by decide +kernel, by decide +kernel, by decide +kernel⟩
theorem msX5_44 : xMS RX5 44 M_X5_gatherBreaks 2 := ⟨mb_X5_gatherBreaks, lw_ok_in 528 (by decide +kernel) rfl, lw_ok_in 529 (by decide +kernel) rfl⟩
theorem mvX5_67 : xMV RX5 67 M_X4_isBreak 0 4 := ⟨mb_X4_isBreak, lw_ok_in 531 (by decide +kernel) rfl, lw_ok_in 486 (by decide +kernel) rfl, lw_ok_in 487 (by decide +kernel) rfl, _, rfl, rfl⟩
theorem mmX5_48 : xMM RX5 48 Lib.Math.max.name Lib.Math.max.code 2 := ⟨lw_ok_in 532 (by decide +kernel) rfl, lw_ok_in 513 (by decide +kernel) rfl, lw_ok_in 57 (by decide +kernel) rfl, lw_ok_in 514 (by decide +kernel) rfl⟩
theorem mb_X6_clear : xMB M_X6_clear 1 := ⟨lw_ok_in 536 (by decide +kernel) rfl, lw_ok_in 51 (by decide +kernel) rfl, by decide +kernel, by decide +kernel, by decide +kernel⟩
theorem mvX5_54 : xMV RX5 54 M_X6_clear 1 6 := ⟨mb_X6_clear, lw_ok_in 533 (by decide +kernel) rfl, lw_ok_in 534 (by decide +kernel) rfl, lw_ok_in 535 (by decide +kernel) rfl, _, rfl, rfl⟩
theorem mb_J7_fill_53178 : xMB M_J7_fill_53178 2 := ⟨lw_ok_in 539 (by decide +kernel) rfl, lw_ok_in 58 (by decide +kernel) rfl, by decide +kernel, by decide +kernel, by decide +kernel⟩
theorem msX6_52 : xMS RX6 52 M_J7_fill_53178 2 := ⟨mb_J7_fill_53178, lw_ok_in 537 (by decide +kernel) rfl, lw_ok_in 538 (by decide +kernel) rfl⟩
theorem mb_X5_find : xMB M_X5_find 0 := ⟨lw_ok_in 543 (by decide +kernel) rfl, lw_ok_in 50 (by decide +kernel) rfl, by decide +kernel, by decide +kernel, by decide +kernel⟩
theorem mvX9_163 : xMV RX9 163 M_X5_find 0 5 := ⟨mb_X5_find, lw_ok_in 540 (by decide +kernel) rfl, lw_ok_in 541 (by decide +kernel) rfl, lw_ok_in 542 (by decide +kernel) rfl, _, rfl, rfl⟩
theorem mb_X6_seatAll : xMB M_X6_seatAll 0 := ⟨lw_ok_in 547 (by decide +kernel) rfl, lw_ok_in 51 (by decide +kernel) rfl, by decide +kernel, by decide +kernel, by decide +kernel⟩
theorem mvX5_73 : xMV RX5 73 M_X6_seatAll 0 6 := ⟨mb_X6_seatAll, lw_ok_in 544 (by decide +kernel) rfl, lw_ok_in 545 (by decide +kernel) rfl, lw_ok_in 546 (by decide +kernel) rfl, _, rfl, rfl⟩
theorem mb_X6_seat : xMB M_X6_seat 1 := ⟨lw_ok_in 551 (by decide +kernel) rfl, lw_ok_in 51 (by decide +kernel) rfl, by decide +kernel, by decide +kernel, by decide +kernel⟩
theorem mvX6_58 : xMV RX6 58 M_X6_seat 1 6 := ⟨mb_X6_seat, lw_ok_in 548 (by decide +kernel) rfl, lw_ok_in 550 (by decide +kernel) rfl, lw_ok_in 5 (by decide +kernel) rfl, _, rfl, rfl⟩
theorem mb_X6_clearSearch : xMB M_X6_clearSearch 0 := ⟨lw_ok_in 555 (by decide +kernel) rfl, lw_ok_in 51 (by decide +kernel) rfl, by decide +kernel, by decide +kernel, by decide +kernel⟩
theorem mvX6_62 : xMV RX6 62 M_X6_clearSearch 0 6 := ⟨mb_X6_clearSearch, lw_ok_in 552 (by decide +kernel) rfl, lw_ok_in 554 (by decide +kernel) rfl, lw_ok_in 6 (by decide +kernel) rfl, _, rfl, rfl⟩
theorem mb_X6_nextColumn : xMB M_X6_nextColumn 1 := ⟨lw_ok_in 560 (by decide +kernel) rfl, lw_ok_in 51 (by decide +kernel) rfl, by decide +kernel, by decide +kernel, by decide +kernel⟩
theorem mvX6_65 : xMV RX6 65 M_X6_nextColumn 1 6 := ⟨mb_X6_nextColumn, lw_ok_in 557 (by decide +kernel) rfl, lw_ok_in 559 (by decide +kernel) rfl, lw_ok_in 7 (by decide +kernel) rfl, _, rfl, rfl⟩
theorem mb_X6_favourFirst : xMB M_X6_favourFirst 0 := ⟨lw_ok_in 564 (by decide +kernel) rfl, lw_ok_in 51 (by decide +kernel) rfl, by decide +kernel, by decide +kernel, by decide +kernel⟩
theorem mvX5_76 : xMV RX5 76 M_X6_favourFirst 0 6 := ⟨mb_X6_favourFirst, lw_ok_in 561 (by decide +kernel) rfl, lw_ok_in 562 (by decide +kernel) rfl, lw_ok_in 563 (by decide +kernel) rfl, _, rfl, rfl⟩
theorem mb_X6_settle : xMB M_X6_settle 1 := ⟨lw_ok_in 568 (by decide +kernel) rfl, lw_ok_in 51 (by decide +kernel) rfl, by decide +kernel, by decide +kernel, by decide +kernel⟩
theorem mvX6_70 : xMV RX6 70 M_X6_settle 1 6 := ⟨mb_X6_settle, lw_ok_in 565 (by decide +kernel) rfl, lw_ok_in 567 (by decide +kernel) rfl, lw_ok_in 8 (by decide +kernel) rfl, _, rfl, rfl⟩
theorem mb_X6_isTight : xMB M_X6_isTight 2 := ⟨lw_ok_in 572 (by decide +kernel) rfl, lw_ok_in 51 (by decide +kernel) rfl, by decide +kernel, by decide +kernel, by decide +kernel⟩
theorem mvX6_73 : xMV RX6 73 M_X6_isTight 2 6 := ⟨mb_X6_isTight, lw_ok_in 569 (by decide +kernel) rfl, lw_ok_in 571 (by decide +kernel) rfl, lw_ok_in 9 (by decide +kernel) rfl, _, rfl, rfl⟩
theorem mb_X6_canSit : xMB M_X6_canSit 2 := ⟨lw_ok_in 576 (by decide +kernel) rfl, lw_ok_in 51 (by decide +kernel) rfl, by decide +kernel, by decide +kernel, by decide +kernel⟩
theorem mvX6_77 : xMV RX6 77 M_X6_canSit 2 6 := ⟨mb_X6_canSit, lw_ok_in 573 (by decide +kernel) rfl, lw_ok_in 575 (by decide +kernel) rfl, lw_ok_in 10 (by decide +kernel) rfl, _, rfl, rfl⟩
theorem mb_X6_columnOf : xMB M_X6_columnOf 1 := ⟨lw_ok_in 580 (by decide +kernel) rfl, lw_ok_in 51 (by decide +kernel) rfl, by decide +kernel, by decide +kernel, by decide +kernel⟩
theorem mvX6_80 : xMV RX6 80 M_X6_columnOf 1 6 := ⟨mb_X6_columnOf, lw_ok_in 577 (by decide +kernel) rfl, lw_ok_in 578 (by decide +kernel) rfl, lw_ok_in 579 (by decide +kernel) rfl, _, rfl, rfl⟩
theorem mb_X6_moves : xMB M_X6_moves 2 := ⟨lw_ok_in 584 (by decide +kernel) rfl, lw_ok_in 51 (by decide +kernel) rfl, by decide +kernel, by decide +kernel, by decide +kernel⟩
theorem mvX6_83 : xMV RX6 83 M_X6_moves 2 6 := ⟨mb_X6_moves, lw_ok_in 581 (by decide +kernel) rfl, lw_ok_in 583 (by decide +kernel) rfl, lw_ok_in 11 (by decide +kernel) rfl, _, rfl, rfl⟩
theorem mb_X6_total : xMB M_X6_total 0 := ⟨lw_ok_in 588 (by decide +kernel) rfl, lw_ok_in 51 (by decide +kernel) rfl, by decide +kernel, by decide +kernel, by decide +kernel⟩
theorem mvX5_79 : xMV RX5 79 M_X6_total 0 6 := ⟨mb_X6_total, lw_ok_in 585 (by decide +kernel) rfl, lw_ok_in 586 (by decide +kernel) rfl, lw_ok_in 587 (by decide +kernel) rfl, _, rfl, rfl⟩
theorem mvX5_82 : xMV RX5 82 M_X6_columnOf 1 6 := ⟨mb_X6_columnOf, lw_ok_in 589 (by decide +kernel) rfl, lw_ok_in 578 (by decide +kernel) rfl, lw_ok_in 579 (by decide +kernel) rfl, _, rfl, rfl⟩
theorem mb_X6_keep : xMB M_X6_keep 0 := ⟨lw_ok_in 593 (by decide +kernel) rfl, lw_ok_in 51 (by decide +kernel) rfl, by decide +kernel, by decide +kernel, by decide +kernel⟩
theorem mvX5_90 : xMV RX5 90 M_X6_keep 0 6 := ⟨mb_X6_keep, lw_ok_in 590 (by decide +kernel) rfl, lw_ok_in 591 (by decide +kernel) rfl, lw_ok_in 592 (by decide +kernel) rfl, _, rfl, rfl⟩
theorem myX6_86 : xMY RX6 86 := ⟨lw_ok_in 594 (by decide +kernel) rfl, lw_ok_in 596 (by decide +kernel) rfl, lw_ok_in 595 (by decide +kernel) rfl, lw_ok_in 59 (by decide +kernel) rfl⟩
theorem mb_X6_totalWithout : xMB M_X6_totalWithout 2 := ⟨lw_ok_in 600 (by decide +kernel) rfl, lw_ok_in 51 (by decide +kernel) rfl, by decide +kernel, by decide +kernel, by decide +kernel⟩
theorem mvX5_93 : xMV RX5 93 M_X6_totalWithout 2 6 := ⟨mb_X6_totalWithout, lw_ok_in 597 (by decide +kernel) rfl, lw_ok_in 598 (by decide +kernel) rfl, lw_ok_in 599 (by decide +kernel) rfl, _, rfl, rfl⟩
theorem mvX6_92 : xMV RX6 92 M_X6_total 0 6 := ⟨mb_X6_total, lw_ok_in 601 (by decide +kernel) rfl, lw_ok_in 586 (by decide +kernel) rfl, lw_ok_in 587 (by decide +kernel) rfl, _, rfl, rfl⟩
theorem mb_X6_restore : xMB M_X6_restore 0 := ⟨lw_ok_in 605 (by decide +kernel) rfl, lw_ok_in 51 (by decide +kernel) rfl, by decide +kernel, by decide +kernel, by decide +kernel⟩
theorem mvX6_96 : xMV RX6 96 M_X6_restore 0 6 := ⟨mb_X6_restore, lw_ok_in 602 (by decide +kernel) rfl, lw_ok_in 604 (by decide +kernel) rfl, lw_ok_in 12 (by decide +kernel) rfl, _, rfl, rfl⟩
theorem mb_X9_with : xMB M_X9_with 1 := ⟨lw_ok_in 609 (by decide +kernel) rfl, lw_ok_in 46 (by decide +kernel) rfl, by decide +kernel, by decide +kernel, by decide +kernel⟩
theorem mvL_42 : xMV RL 42 M_X9_with 1 9 := ⟨mb_X9_with, lw_ok_in 606 (by decide +kernel) rfl, lw_ok_in 607 (by decide +kernel) rfl, lw_ok_in 608 (by decide +kernel) rfl, _, rfl, rfl⟩
theorem mb_X9_freshRow : xMB M_X9_freshRow 1 := ⟨lw_ok_in 613 (by decide +kernel) rfl, lw_ok_in 46 (by decide +kernel) rfl, by decide +kernel, by decide +kernel, by decide +kernel⟩
theorem mvX9_172 : xMV RX9 172 M_X9_freshRow 1 9 := ⟨mb_X9_freshRow, lw_ok_in 610 (by decide +kernel) rfl, lw_ok_in 612 (by decide +kernel) rfl, lw_ok_in 13 (by decide +kernel) rfl, _, rfl, rfl⟩
theorem mb_X5_rowOf : xMB M_X5_rowOf 1 := ⟨lw_ok_in 617 (by decide +kernel) rfl, lw_ok_in 50 (by decide +kernel) rfl, by decide +kernel, by decide +kernel, by decide +kernel⟩
theorem mvX9_335 : xMV RX9 335 M_X5_rowOf 1 5 := ⟨mb_X5_rowOf, lw_ok_in 614 (by decide +kernel) rfl, lw_ok_in 615 (by decide +kernel) rfl, lw_ok_in 616 (by decide +kernel) rfl, _, rfl, rfl⟩
theorem mb_X9_rival : xMB M_X9_rival 1 := ⟨lw_ok_in 621 (by decide +kernel) rfl, lw_ok_in 46 (by decide +kernel) rfl, by decide +kernel, by decide +kernel, by decide +kernel⟩
theorem mvL_46 : xMV RL 46 M_X9_rival 1 9 := ⟨mb_X9_rival, lw_ok_in 618 (by decide +kernel) rfl, lw_ok_in 619 (by decide +kernel) rfl, lw_ok_in 620 (by decide +kernel) rfl, _, rfl, rfl⟩
theorem mb_X9_pair : xMB M_X9_pair 1 := ⟨lw_ok_in 625 (by decide +kernel) rfl, lw_ok_in 46 (by decide +kernel) rfl, by decide +kernel, by decide +kernel, by decide +kernel⟩
theorem mvL_50 : xMV RL 50 M_X9_pair 1 9 := ⟨mb_X9_pair, lw_ok_in 622 (by decide +kernel) rfl, lw_ok_in 623 (by decide +kernel) rfl, lw_ok_in 624 (by decide +kernel) rfl, _, rfl, rfl⟩
theorem mb_X5_countSure : xMB M_X5_countSure 1 := ⟨lw_ok_in 629 (by decide +kernel) rfl, lw_ok_in 50 (by decide +kernel) rfl, by decide +kernel, by decide +kernel, by decide +kernel⟩
theorem mvX9_182 : xMV RX9 182 M_X5_countSure 1 5 := ⟨mb_X5_countSure, lw_ok_in 626 (by decide +kernel) rfl, lw_ok_in 627 (by decide +kernel) rfl, lw_ok_in 628 (by decide +kernel) rfl, _, rfl, rfl⟩
theorem mb_X5_isSure : xMB M_X5_isSure 2 := ⟨lw_ok_in 633 (by decide +kernel) rfl, lw_ok_in 50 (by decide +kernel) rfl, by decide +kernel, by decide +kernel, by decide +kernel⟩
theorem mvX5_96 : xMV RX5 96 M_X5_isSure 2 5 := ⟨mb_X5_isSure, lw_ok_in 630 (by decide +kernel) rfl, lw_ok_in 631 (by decide +kernel) rfl, lw_ok_in 632 (by decide +kernel) rfl, _, rfl, rfl⟩
theorem mvX9_185 : xMV RX9 185 M_X5_isSure 2 5 := ⟨mb_X5_isSure, lw_ok_in 634 (by decide +kernel) rfl, lw_ok_in 631 (by decide +kernel) rfl, lw_ok_in 632 (by decide +kernel) rfl, _, rfl, rfl⟩
theorem mb_X9_makeGroup : xMB M_X9_makeGroup 3 := ⟨lw_ok_in 638 (by decide +kernel) rfl, lw_ok_in 46 (by decide +kernel) rfl, by decide +kernel, by decide +kernel, by decide +kernel⟩
theorem mvX9_189 : xMV RX9 189 M_X9_makeGroup 3 9 := ⟨mb_X9_makeGroup, lw_ok_in 635 (by decide +kernel) rfl, lw_ok_in 637 (by decide +kernel) rfl, lw_ok_in 14 (by decide +kernel) rfl, _, rfl, rfl⟩
theorem mb_X3_open : xMB M_X3_open 2 := ⟨lw_ok_in 642 (by decide +kernel) rfl, lw_ok_in 55 (by decide +kernel) rfl, by decide +kernel, by decide +kernel, by decide +kernel⟩
theorem mvX9_338 : xMV RX9 338 M_X3_open 2 3 := ⟨mb_X3_open, lw_ok_in 639 (by decide +kernel) rfl, lw_ok_in 640 (by decide +kernel) rfl, lw_ok_in 641 (by decide +kernel) rfl, _, rfl, rfl⟩
theorem mb_X9_addTo : xMB M_X9_addTo 2 := ⟨lw_ok_in 646 (by decide +kernel) rfl, lw_ok_in 46 (by decide +kernel) rfl, by decide +kernel, by decide +kernel, by decide +kernel⟩
theorem mvX9_218 : xMV RX9 218 M_X9_addTo 2 9 := ⟨mb_X9_addTo, lw_ok_in 643 (by decide +kernel) rfl, lw_ok_in 645 (by decide +kernel) rfl, lw_ok_in 15 (by decide +kernel) rfl, _, rfl, rfl⟩
theorem mb_X3_add : xMB M_X3_add 1 := ⟨lw_ok_in 650 (by decide +kernel) rfl, lw_ok_in 55 (by decide +kernel) rfl, by decide +kernel, by decide +kernel, by decide +kernel⟩
theorem mvX9_341 : xMV RX9 341 M_X3_add 1 3 := ⟨mb_X3_add, lw_ok_in 647 (by decide +kernel) rfl, lw_ok_in 648 (by decide +kernel) rfl, lw_ok_in 649 (by decide +kernel) rfl, _, rfl, rfl⟩
theorem mb_X9_sets : xMB M_X9_sets 4 := ⟨lw_ok_in 654 (by decide +kernel) rfl, lw_ok_in 46 (by decide +kernel) rfl, by decide +kernel, by decide +kernel, by decide +kernel⟩
theorem mvL_54 : xMV RL 54 M_X9_sets 4 9 := ⟨mb_X9_sets, lw_ok_in 651 (by decide +kernel) rfl, lw_ok_in 652 (by decide +kernel) rfl, lw_ok_in 653 (by decide +kernel) rfl, _, rfl, rfl⟩
theorem mb_X7_gather : xMB M_X7_gather 3 := ⟨lw_ok_in 658 (by decide +kernel) rfl, lw_ok_in 52 (by decide +kernel) rfl, by decide +kernel, by decide +kernel, by decide +kernel⟩
theorem mvX9_193 : xMV RX9 193 M_X7_gather 3 7 := ⟨mb_X7_gather, lw_ok_in 655 (by decide +kernel) rfl, lw_ok_in 656 (by decide +kernel) rfl, lw_ok_in 657 (by decide +kernel) rfl, _, rfl, rfl⟩
theorem mvX7_68 : xMV RX7 68 M_X4_isBreak 0 4 := ⟨mb_X4_isBreak, lw_ok_in 659 (by decide +kernel) rfl, lw_ok_in 486 (by decide +kernel) rfl, lw_ok_in 487 (by decide +kernel) rfl, _, rfl, rfl⟩
theorem mmX7_75 : xMM RX7 75 Lib.Math.abs.name Lib.Math.abs.code 1 := ⟨lw_ok_in 660 (by decide +kernel) rfl, lw_ok_in 498 (by decide +kernel) rfl, lw_ok_in 57 (by decide +kernel) rfl, lw_ok_in 499 (by decide +kernel) rfl⟩
theorem mb_X7_boundAmounts : xMB M_X7_boundAmounts 0 := ⟨lw_ok_in 664 (by decide +kernel) rfl, lw_ok_in 52 (by decide +kernel) rfl, by decide +kernel, by decide +kernel, by decide +kernel⟩
theorem mvX7_81 : xMV RX7 81 M_X7_boundAmounts 0 7 := ⟨mb_X7_boundAmounts, lw_ok_in 661 (by decide +kernel) rfl, lw_ok_in 663 (by decide +kernel) rfl, lw_ok_in 16 (by decide +kernel) rfl, _, rfl, rfl⟩
theorem mmX7_84 : xMM RX7 84 Lib.Math.min.name Lib.Math.min.code 2 := ⟨lw_ok_in 665 (by decide +kernel) rfl, lw_ok_in 461 (by decide +kernel) rfl, lw_ok_in 57 (by decide +kernel) rfl, lw_ok_in 462 (by decide +kernel) rfl⟩
theorem mmX7_88 : xMM RX7 88 Lib.Math.max.name Lib.Math.max.code 2 := ⟨lw_ok_in 666 (by decide +kernel) rfl, lw_ok_in 513 (by decide +kernel) rfl, lw_ok_in 57 (by decide +kernel) rfl, lw_ok_in 514 (by decide +kernel) rfl⟩
theorem mb_X7_find : xMB M_X7_find 2 := ⟨lw_ok_in 670 (by decide +kernel) rfl, lw_ok_in 52 (by decide +kernel) rfl, by decide +kernel, by decide +kernel, by decide +kernel⟩
theorem mvX9_196 : xMV RX9 196 M_X7_find 2 7 := ⟨mb_X7_find, lw_ok_in 667 (by decide +kernel) rfl, lw_ok_in 668 (by decide +kernel) rfl, lw_ok_in 669 (by decide +kernel) rfl, _, rfl, rfl⟩
theorem mb_X7_extend : xMB M_X7_extend 4 := ⟨lw_ok_in 674 (by decide +kernel) rfl, lw_ok_in 52 (by decide +kernel) rfl, by decide +kernel, by decide +kernel, by decide +kernel⟩
theorem mvX7_91 : xMV RX7 91 M_X7_extend 4 7 := ⟨mb_X7_extend, lw_ok_in 671 (by decide +kernel) rfl, lw_ok_in 673 (by decide +kernel) rfl, lw_ok_in 17 (by decide +kernel) rfl, _, rfl, rfl⟩
theorem mb_X7_finish : xMB M_X7_finish 3 := ⟨lw_ok_in 678 (by decide +kernel) rfl, lw_ok_in 52 (by decide +kernel) rfl, by decide +kernel, by decide +kernel, by decide +kernel⟩
theorem mvX7_95 : xMV RX7 95 M_X7_finish 3 7 := ⟨mb_X7_finish, lw_ok_in 675 (by decide +kernel) rfl, lw_ok_in 677 (by decide +kernel) rfl, lw_ok_in 18 (by decide +kernel) rfl, _, rfl, rfl⟩
theorem mb_X7_canReach : xMB M_X7_canReach 3 := ⟨lw_ok_in 682 (by decide +kernel) rfl, lw_ok_in 52 (by decide +kernel) rfl, by decide +kernel, by decide +kernel, by decide +kernel⟩
theorem mvX7_99 : xMV RX7 99 M_X7_canReach 3 7 := ⟨mb_X7_canReach, lw_ok_in 679 (by decide +kernel) rfl, lw_ok_in 681 (by decide +kernel) rfl, lw_ok_in 19 (by decide +kernel) rfl, _, rfl, rfl⟩
theorem mb_X9_size : xMB M_X9_size 1 := ⟨lw_ok_in 686 (by decide +kernel) rfl, lw_ok_in 46 (by decide +kernel) rfl, by decide +kernel, by decide +kernel, by decide +kernel⟩
theorem mvL_58 : xMV RL 58 M_X9_size 1 9 := ⟨mb_X9_size, lw_ok_in 683 (by decide +kernel) rfl, lw_ok_in 684 (by decide +kernel) rfl, lw_ok_in 685 (by decide +kernel) rfl, _, rfl, rfl⟩
theorem mb_X7_isThere : xMB M_X7_isThere 1 := ⟨lw_ok_in 690 (by decide +kernel) rfl, lw_ok_in 52 (by decide +kernel) rfl, by decide +kernel, by decide +kernel, by decide +kernel⟩
theorem mvX9_203 : xMV RX9 203 M_X7_isThere 1 7 := ⟨mb_X7_isThere, lw_ok_in 687 (by decide +kernel) rfl, lw_ok_in 688 (by decide +kernel) rfl, lw_ok_in 689 (by decide +kernel) rfl, _, rfl, rfl⟩
theorem mb_X7_sizeOf : xMB M_X7_sizeOf 1 := ⟨lw_ok_in 694 (by decide +kernel) rfl, lw_ok_in 52 (by decide +kernel) rfl, by decide +kernel, by decide +kernel, by decide +kernel⟩
theorem mvX9_206 : xMV RX9 206 M_X7_sizeOf 1 7 := ⟨mb_X7_sizeOf, lw_ok_in 691 (by decide +kernel) rfl, lw_ok_in 692 (by decide +kernel) rfl, lw_ok_in 693 (by decide +kernel) rfl, _, rfl, rfl⟩
theorem mb_X9_in : xMB M_X9_in 2 := ⟨lw_ok_in 698 (by decide +kernel) rfl, lw_ok_in 46 (by decide +kernel) rfl, by decide +kernel, by decide +kernel, by decide +kernel⟩
theorem mvL_62 : xMV RL 62 M_X9_in 2 9 := ⟨mb_X9_in, lw_ok_in 695 (by decide +kernel) rfl, lw_ok_in 696 (by decide +kernel) rfl, lw_ok_in 697 (by decide +kernel) rfl, _, rfl, rfl⟩
theorem mb_X7_lineIn : xMB M_X7_lineIn 2 := ⟨lw_ok_in 702 (by decide +kernel) rfl, lw_ok_in 52 (by decide +kernel) rfl, by decide +kernel, by decide +kernel, by decide +kernel⟩
theorem mvX9_209 : xMV RX9 209 M_X7_lineIn 2 7 := ⟨mb_X7_lineIn, lw_ok_in 699 (by decide +kernel) rfl, lw_ok_in 700 (by decide +kernel) rfl, lw_ok_in 701 (by decide +kernel) rfl, _, rfl, rfl⟩
theorem mvX7_103 : xMV RX7 103 M_X7_sizeOf 1 7 := ⟨mb_X7_sizeOf, lw_ok_in 703 (by decide +kernel) rfl, lw_ok_in 692 (by decide +kernel) rfl, lw_ok_in 693 (by decide +kernel) rfl, _, rfl, rfl⟩
theorem mb_X9_set : xMB M_X9_set 1 := ⟨lw_ok_in 707 (by decide +kernel) rfl, lw_ok_in 46 (by decide +kernel) rfl, by decide +kernel, by decide +kernel, by decide +kernel⟩
theorem mvL_66 : xMV RL 66 M_X9_set 1 9 := ⟨mb_X9_set, lw_ok_in 704 (by decide +kernel) rfl, lw_ok_in 705 (by decide +kernel) rfl, lw_ok_in 706 (by decide +kernel) rfl, _, rfl, rfl⟩
theorem mb_X9_hand : xMB M_X9_hand 2 := ⟨lw_ok_in 711 (by decide +kernel) rfl, lw_ok_in 46 (by decide +kernel) rfl, by decide +kernel, by decide +kernel, by decide +kernel⟩
theorem mvL_70 : xMV RL 70 M_X9_hand 2 9 := ⟨mb_X9_hand, lw_ok_in 708 (by decide +kernel) rfl, lw_ok_in 709 (by decide +kernel) rfl, lw_ok_in 710 (by decide +kernel) rfl, _, rfl, rfl⟩
theorem mb_X9_join : xMB M_X9_join 3 := ⟨lw_ok_in 715 (by decide +kernel) rfl, lw_ok_in 46 (by decide +kernel) rfl, by decide +kernel, by decide +kernel, by decide +kernel⟩
theorem mvL_74 : xMV RL 74 M_X9_join 3 9 := ⟨mb_X9_join, lw_ok_in 712 (by decide +kernel) rfl, lw_ok_in 713 (by decide +kernel) rfl, lw_ok_in 714 (by decide +kernel) rfl, _, rfl, rfl⟩
theorem mb_X9_isGroupThere : xMB M_X9_isGroupThere 1 := ⟨lw_ok_in 719 (by decide +kernel) rfl, lw_ok_in 46 (by decide +kernel) rfl, by decide +kernel, by decide +kernel, by decide +kernel⟩
theorem mvX9_222 : xMV RX9 222 M_X9_isGroupThere 1 9 := ⟨mb_X9_isGroupThere, lw_ok_in 716 (by decide +kernel) rfl, lw_ok_in 718 (by decide +kernel) rfl, lw_ok_in 20 (by decide +kernel) rfl, _, rfl, rfl⟩
theorem mb_X9_part : xMB M_X9_part 1 := ⟨lw_ok_in 723 (by decide +kernel) rfl, lw_ok_in 46 (by decide +kernel) rfl, by decide +kernel, by decide +kernel, by decide +kernel⟩
theorem mvL_78 : xMV RL 78 M_X9_part 1 9 := ⟨mb_X9_part, lw_ok_in 720 (by decide +kernel) rfl, lw_ok_in 721 (by decide +kernel) rfl, lw_ok_in 722 (by decide +kernel) rfl, _, rfl, rfl⟩
theorem mb_X3_claimLines : xMB M_X3_claimLines 1 := ⟨lw_ok_in 727 (by decide +kernel) rfl, lw_ok_in 55 (by decide +kernel) rfl, by decide +kernel, by decide +kernel, by decide +kernel⟩
theorem mvX9_235 : xMV RX9 235 M_X3_claimLines 1 3 := ⟨mb_X3_claimLines, lw_ok_in 724 (by decide +kernel) rfl, lw_ok_in 725 (by decide +kernel) rfl, lw_ok_in 726 (by decide +kernel) rfl, _, rfl, rfl⟩
theorem mb_X9_lock : xMB M_X9_lock 2 := ⟨lw_ok_in 731 (by decide +kernel) rfl, lw_ok_in 46 (by decide +kernel) rfl, by decide +kernel, by decide +kernel, by decide +kernel⟩
theorem mvL_82 : xMV RL 82 M_X9_lock 2 9 := ⟨mb_X9_lock, lw_ok_in 728 (by decide +kernel) rfl, lw_ok_in 729 (by decide +kernel) rfl, lw_ok_in 730 (by decide +kernel) rfl, _, rfl, rfl⟩
theorem mb_X9_group : xMB M_X9_group 2 := ⟨lw_ok_in 735 (by decide +kernel) rfl, lw_ok_in 46 (by decide +kernel) rfl, by decide +kernel, by decide +kernel, by decide +kernel⟩
theorem mvL_86 : xMV RL 86 M_X9_group 2 9 := ⟨mb_X9_group, lw_ok_in 732 (by decide +kernel) rfl, lw_ok_in 733 (by decide +kernel) rfl, lw_ok_in 734 (by decide +kernel) rfl, _, rfl, rfl⟩
theorem mb_X3_difference : xMB M_X3_difference 0 := ⟨lw_ok_in 740 (by decide +kernel) rfl, lw_ok_in 55 (by decide +kernel) rfl, by decide +kernel, by decide +kernel, by decide +kernel⟩
theorem mvX9_239 : xMV RX9 239 M_X3_difference 0 3 := ⟨mb_X3_difference, lw_ok_in 737 (by decide +kernel) rfl, lw_ok_in 738 (by decide +kernel) rfl, lw_ok_in 739 (by decide +kernel) rfl, _, rfl, rfl⟩
theorem mb_X9_breaks : xMB M_X9_breaks 2 := ⟨lw_ok_in 744 (by decide +kernel) rfl, lw_ok_in 46 (by decide +kernel) rfl, by decide +kernel, by decide +kernel, by decide +kernel⟩
theorem mvL_90 : xMV RL 90 M_X9_breaks 2 9 := ⟨mb_X9_breaks, lw_ok_in 741 (by decide +kernel) rfl, lw_ok_in 742 (by decide +kernel) rfl, lw_ok_in 743 (by decide +kernel) rfl, _, rfl, rfl⟩
theorem mb_X9_broken : xMB M_X9_broken 2 := ⟨lw_ok_in 748 (by decide +kernel) rfl, lw_ok_in 46 (by decide +kernel) rfl, by decide +kernel, by decide +kernel, by decide +kernel⟩
theorem mvL_94 : xMV RL 94 M_X9_broken 2 9 := ⟨mb_X9_broken, lw_ok_in 745 (by decide +kernel) rfl, lw_ok_in 746 (by decide +kernel) rfl, lw_ok_in 747 (by decide +kernel) rfl, _, rfl, rfl⟩
theorem mb_X1_breakAt : xMB M_X1_breakAt 1 := ⟨lw_ok_in 752 (by decide +kernel) rfl, lw_ok_in 47 (by decide +kernel) rfl, by decide +kernel, by decide +kernel, by decide +kernel⟩
theorem mvX9_246 : xMV RX9 246 M_X1_breakAt 1 1 := ⟨mb_X1_breakAt, lw_ok_in 749 (by decide +kernel) rfl, lw_ok_in 750 (by decide +kernel) rfl, lw_ok_in 751 (by decide +kernel) rfl, _, rfl, rfl⟩
theorem mb_X9_sum : xMB M_X9_sum 1 := ⟨lw_ok_in 756 (by decide +kernel) rfl, lw_ok_in 46 (by decide +kernel) rfl, by decide +kernel, by decide +kernel, by decide +kernel⟩
theorem mvL_98 : xMV RL 98 M_X9_sum 1 9 := ⟨mb_X9_sum, lw_ok_in 753 (by decide +kernel) rfl, lw_ok_in 754 (by decide +kernel) rfl, lw_ok_in 755 (by decide +kernel) rfl, _, rfl, rfl⟩
theorem mb_X9_booksDifference : xMB M_X9_booksDifference 0 := ⟨lw_ok_in 760 (by decide +kernel) rfl, lw_ok_in 46 (by decide +kernel) rfl, by decide +kernel, by decide +kernel, by decide +kernel⟩
theorem mvX9_249 : xMV RX9 249 M_X9_booksDifference 0 9 := ⟨mb_X9_booksDifference, lw_ok_in 757 (by decide +kernel) rfl, lw_ok_in 759 (by decide +kernel) rfl, lw_ok_in 21 (by decide +kernel) rfl, _, rfl, rfl⟩
theorem mb_X1_sumOfAll : xMB M_X1_sumOfAll 0 := ⟨lw_ok_in 764 (by decide +kernel) rfl, lw_ok_in 47 (by decide +kernel) rfl, by decide +kernel, by decide +kernel, by decide +kernel⟩
theorem mvX9_350 : xMV RX9 350 M_X1_sumOfAll 0 1 := ⟨mb_X1_sumOfAll, lw_ok_in 761 (by decide +kernel) rfl, lw_ok_in 762 (by decide +kernel) rfl, lw_ok_in 763 (by decide +kernel) rfl, _, rfl, rfl⟩
theorem mb_X1_sumOfBreaks : xMB M_X1_sumOfBreaks 0 := ⟨lw_ok_in 768 (by decide +kernel) rfl, lw_ok_in 47 (by decide +kernel) rfl, by decide +kernel, by decide +kernel, by decide +kernel⟩
theorem mvX9_252 : xMV RX9 252 M_X1_sumOfBreaks 0 1 := ⟨mb_X1_sumOfBreaks, lw_ok_in 765 (by decide +kernel) rfl, lw_ok_in 766 (by decide +kernel) rfl, lw_ok_in 767 (by decide +kernel) rfl, _, rfl, rfl⟩
theorem mb_X9_groupsDifference : xMB M_X9_groupsDifference 0 := ⟨lw_ok_in 772 (by decide +kernel) rfl, lw_ok_in 46 (by decide +kernel) rfl, by decide +kernel, by decide +kernel, by decide +kernel⟩
theorem mvX9_255 : xMV RX9 255 M_X9_groupsDifference 0 9 := ⟨mb_X9_groupsDifference, lw_ok_in 769 (by decide +kernel) rfl, lw_ok_in 771 (by decide +kernel) rfl, lw_ok_in 22 (by decide +kernel) rfl, _, rfl, rfl⟩
theorem mb_X9_as : xMB M_X9_as 2 := ⟨lw_ok_in 776 (by decide +kernel) rfl, lw_ok_in 46 (by decide +kernel) rfl, by decide +kernel, by decide +kernel, by decide +kernel⟩
theorem mvL_103 : xMV RL 103 M_X9_as 2 9 := ⟨mb_X9_as, lw_ok_in 773 (by decide +kernel) rfl, lw_ok_in 774 (by decide +kernel) rfl, lw_ok_in 775 (by decide +kernel) rfl, _, rfl, rfl⟩
theorem mb_X9_countHolders : xMB M_X9_countHolders 1 := ⟨lw_ok_in 781 (by decide +kernel) rfl, lw_ok_in 46 (by decide +kernel) rfl, by decide +kernel, by decide +kernel, by decide +kernel⟩
theorem mvX9_260 : xMV RX9 260 M_X9_countHolders 1 9 := ⟨mb_X9_countHolders, lw_ok_in 778 (by decide +kernel) rfl, lw_ok_in 780 (by decide +kernel) rfl, lw_ok_in 23 (by decide +kernel) rfl, _, rfl, rfl⟩
theorem mb_X1_clearHolders : xMB M_X1_clearHolders 0 := ⟨lw_ok_in 785 (by decide +kernel) rfl, lw_ok_in 47 (by decide +kernel) rfl, by decide +kernel, by decide +kernel, by decide +kernel⟩
theorem mvX9_356 : xMV RX9 356 M_X1_clearHolders 0 1 := ⟨mb_X1_clearHolders, lw_ok_in 782 (by decide +kernel) rfl, lw_ok_in 783 (by decide +kernel) rfl, lw_ok_in 784 (by decide +kernel) rfl, _, rfl, rfl⟩
theorem mb_X3_isStandingOn : xMB M_X3_isStandingOn 1 := ⟨lw_ok_in 789 (by decide +kernel) rfl, lw_ok_in 55 (by decide +kernel) rfl, by decide +kernel, by decide +kernel, by decide +kernel⟩
theorem mvX9_359 : xMV RX9 359 M_X3_isStandingOn 1 3 := ⟨mb_X3_isStandingOn, lw_ok_in 786 (by decide +kernel) rfl, lw_ok_in 787 (by decide +kernel) rfl, lw_ok_in 788 (by decide +kernel) rfl, _, rfl, rfl⟩
theorem mb_X3_holdLines : xMB M_X3_holdLines 0 := ⟨lw_ok_in 793 (by decide +kernel) rfl, lw_ok_in 55 (by decide +kernel) rfl, by decide +kernel, by decide +kernel, by decide +kernel⟩
theorem mvX9_362 : xMV RX9 362 M_X3_holdLines 0 3 := ⟨mb_X3_holdLines, lw_ok_in 790 (by decide +kernel) rfl, lw_ok_in 791 (by decide +kernel) rfl, lw_ok_in 792 (by decide +kernel) rfl, _, rfl, rfl⟩
theorem mb_X1_countUnheld : xMB M_X1_countUnheld 1 := ⟨lw_ok_in 797 (by decide +kernel) rfl, lw_ok_in 47 (by decide +kernel) rfl, by decide +kernel, by decide +kernel, by decide +kernel⟩
theorem mvX9_263 : xMV RX9 263 M_X1_countUnheld 1 1 := ⟨mb_X1_countUnheld, lw_ok_in 794 (by decide +kernel) rfl, lw_ok_in 795 (by decide +kernel) rfl, lw_ok_in 796 (by decide +kernel) rfl, _, rfl, rfl⟩
theorem mb_X4_isUnheld : xMB M_X4_isUnheld 1 := ⟨lw_ok_in 801 (by decide +kernel) rfl, lw_ok_in 48 (by decide +kernel) rfl, by decide +kernel, by decide +kernel, by decide +kernel⟩
theorem mvX1_37 : xMV RX1 37 M_X4_isUnheld 1 4 := ⟨mb_X4_isUnheld, lw_ok_in 798 (by decide +kernel) rfl, lw_ok_in 799 (by decide +kernel) rfl, lw_ok_in 800 (by decide +kernel) rfl, _, rfl, rfl⟩
theorem mb_X1_sumUnheld : xMB M_X1_sumUnheld 1 := ⟨lw_ok_in 805 (by decide +kernel) rfl, lw_ok_in 47 (by decide +kernel) rfl, by decide +kernel, by decide +kernel, by decide +kernel⟩
theorem mvX9_266 : xMV RX9 266 M_X1_sumUnheld 1 1 := ⟨mb_X1_sumUnheld, lw_ok_in 802 (by decide +kernel) rfl, lw_ok_in 803 (by decide +kernel) rfl, lw_ok_in 804 (by decide +kernel) rfl, _, rfl, rfl⟩
theorem mb_X9_explain : xMB M_X9_explain 0 := ⟨lw_ok_in 809 (by decide +kernel) rfl, lw_ok_in 46 (by decide +kernel) rfl, by decide +kernel, by decide +kernel, by decide +kernel⟩
theorem mvL_108 : xMV RL 108 M_X9_explain 0 9 := ⟨mb_X9_explain, lw_ok_in 806 (by decide +kernel) rfl, lw_ok_in 807 (by decide +kernel) rfl, lw_ok_in 808 (by decide +kernel) rfl, _, rfl, rfl⟩
theorem mb_X9_countUneven : xMB M_X9_countUneven 0 := ⟨lw_ok_in 813 (by decide +kernel) rfl, lw_ok_in 46 (by decide +kernel) rfl, by decide +kernel, by decide +kernel, by decide +kernel⟩
theorem mvX9_269 : xMV RX9 269 M_X9_countUneven 0 9 := ⟨mb_X9_countUneven, lw_ok_in 810 (by decide +kernel) rfl, lw_ok_in 812 (by decide +kernel) rfl, lw_ok_in 24 (by decide +kernel) rfl, _, rfl, rfl⟩
theorem mb_X3_isUneven : xMB M_X3_isUneven 0 := ⟨lw_ok_in 817 (by decide +kernel) rfl, lw_ok_in 55 (by decide +kernel) rfl, by decide +kernel, by decide +kernel, by decide +kernel⟩
theorem mvX9_279 : xMV RX9 279 M_X3_isUneven 0 3 := ⟨mb_X3_isUneven, lw_ok_in 814 (by decide +kernel) rfl, lw_ok_in 815 (by decide +kernel) rfl, lw_ok_in 816 (by decide +kernel) rfl, _, rfl, rfl⟩
theorem mvX3_39 : xMV RX3 39 M_X3_isThere 0 3 := ⟨mb_X3_isThere, lw_ok_in 818 (by decide +kernel) rfl, lw_ok_in 505 (by decide +kernel) rfl, lw_ok_in 506 (by decide +kernel) rfl, _, rfl, rfl⟩
theorem mvX3_43 : xMV RX3 43 M_X3_difference 0 3 := ⟨mb_X3_difference, lw_ok_in 819 (by decide +kernel) rfl, lw_ok_in 738 (by decide +kernel) rfl, lw_ok_in 739 (by decide +kernel) rfl, _, rfl, rfl⟩
theorem mb_X2_start : xMB M_X2_start 0 := ⟨lw_ok_in 823 (by decide +kernel) rfl, lw_ok_in 53 (by decide +kernel) rfl, by decide +kernel, by decide +kernel, by decide +kernel⟩
theorem mvX9_272 : xMV RX9 272 M_X2_start 0 2 := ⟨mb_X2_start, lw_ok_in 820 (by decide +kernel) rfl, lw_ok_in 821 (by decide +kernel) rfl, lw_ok_in 822 (by decide +kernel) rfl, _, rfl, rfl⟩
theorem mb_X2_addBreaks : xMB M_X2_addBreaks 2 := ⟨lw_ok_in 827 (by decide +kernel) rfl, lw_ok_in 53 (by decide +kernel) rfl, by decide +kernel, by decide +kernel, by decide +kernel⟩
theorem mvX9_275 : xMV RX9 275 M_X2_addBreaks 2 2 := ⟨mb_X2_addBreaks, lw_ok_in 824 (by decide +kernel) rfl, lw_ok_in 825 (by decide +kernel) rfl, lw_ok_in 826 (by decide +kernel) rfl, _, rfl, rfl⟩
theorem mvX2_56 : xMV RX2 56 M_X4_isBreak 0 4 := ⟨mb_X4_isBreak, lw_ok_in 828 (by decide +kernel) rfl, lw_ok_in 486 (by decide +kernel) rfl, lw_ok_in 487 (by decide +kernel) rfl, _, rfl, rfl⟩
theorem mb_X2_add : xMB M_X2_add 3 := ⟨lw_ok_in 832 (by decide +kernel) rfl, lw_ok_in 53 (by decide +kernel) rfl, by decide +kernel, by decide +kernel, by decide +kernel⟩
theorem mvX2_67 : xMV RX2 67 M_X2_add 3 2 := ⟨mb_X2_add, lw_ok_in 829 (by decide +kernel) rfl, lw_ok_in 830 (by decide +kernel) rfl, lw_ok_in 831 (by decide +kernel) rfl, _, rfl, rfl⟩
theorem mvX9_282 : xMV RX9 282 M_X2_add 3 2 := ⟨mb_X2_add, lw_ok_in 833 (by decide +kernel) rfl, lw_ok_in 830 (by decide +kernel) rfl, lw_ok_in 831 (by decide +kernel) rfl, _, rfl, rfl⟩
theorem mb_X2_find : xMB M_X2_find 1 := ⟨lw_ok_in 837 (by decide +kernel) rfl, lw_ok_in 53 (by decide +kernel) rfl, by decide +kernel, by decide +kernel, by decide +kernel⟩
theorem mvX9_285 : xMV RX9 285 M_X2_find 1 2 := ⟨mb_X2_find, lw_ok_in 834 (by decide +kernel) rfl, lw_ok_in 835 (by decide +kernel) rfl, lw_ok_in 836 (by decide +kernel) rfl, _, rfl, rfl⟩
theorem mb_X8_start : xMB M_X8_start 0 := ⟨lw_ok_in 841 (by decide +kernel) rfl, lw_ok_in 54 (by decide +kernel) rfl, by decide +kernel, by decide +kernel, by decide +kernel⟩
theorem mvX2_71 : xMV RX2 71 M_X8_start 0 8 := ⟨mb_X8_start, lw_ok_in 838 (by decide +kernel) rfl, lw_ok_in 839 (by decide +kernel) rfl, lw_ok_in 840 (by decide +kernel) rfl, _, rfl, rfl⟩
theorem mb_X8_copy : xMB M_X8_copy 1 := ⟨lw_ok_in 845 (by decide +kernel) rfl, lw_ok_in 54 (by decide +kernel) rfl, by decide +kernel, by decide +kernel, by decide +kernel⟩
theorem mvX2_74 : xMV RX2 74 M_X8_copy 1 8 := ⟨mb_X8_copy, lw_ok_in 842 (by decide +kernel) rfl, lw_ok_in 843 (by decide +kernel) rfl, lw_ok_in 844 (by decide +kernel) rfl, _, rfl, rfl⟩
theorem myX8_22 : xMY RX8 22 := ⟨lw_ok_in 846 (by decide +kernel) rfl, lw_ok_in 596 (by decide +kernel) rfl, lw_ok_in 595 (by decide +kernel) rfl, lw_ok_in 59 (by decide +kernel) rfl⟩
theorem mb_X2_bitOf : xMB M_X2_bitOf 1 := ⟨lw_ok_in 850 (by decide +kernel) rfl, lw_ok_in 53 (by decide +kernel) rfl, by decide +kernel, by decide +kernel, by decide +kernel⟩
theorem msX2_79 : xMS RX2 79 M_X2_bitOf 1 := ⟨mb_X2_bitOf, lw_ok_in 848 (by decide +kernel) rfl, lw_ok_in 849 (by decide +kernel) rfl⟩
theorem mb_X8_merge : xMB M_X8_merge 3 := ⟨lw_ok_in 854 (by decide +kernel) rfl, lw_ok_in 54 (by decide +kernel) rfl, by decide +kernel, by decide +kernel, by decide +kernel⟩
theorem mvX2_83 : xMV RX2 83 M_X8_merge 3 8 := ⟨mb_X8_merge, lw_ok_in 851 (by decide +kernel) rfl, lw_ok_in 852 (by decide +kernel) rfl, lw_ok_in 853 (by decide +kernel) rfl, _, rfl, rfl⟩
theorem mmX8_29 : xMM RX8 29 Lib.Math.min.name Lib.Math.min.code 2 := ⟨lw_ok_in 856 (by decide +kernel) rfl, lw_ok_in 461 (by decide +kernel) rfl, lw_ok_in 57 (by decide +kernel) rfl, lw_ok_in 462 (by decide +kernel) rfl⟩
theorem mb_X8_cheapestWith : xMB M_X8_cheapestWith 2 := ⟨lw_ok_in 860 (by decide +kernel) rfl, lw_ok_in 54 (by decide +kernel) rfl, by decide +kernel, by decide +kernel, by decide +kernel⟩
theorem mvX2_87 : xMV RX2 87 M_X8_cheapestWith 2 8 := ⟨mb_X8_cheapestWith, lw_ok_in 857 (by decide +kernel) rfl, lw_ok_in 858 (by decide +kernel) rfl, lw_ok_in 859 (by decide +kernel) rfl, _, rfl, rfl⟩
theorem mb_X2_choose : xMB M_X2_choose 1 := ⟨lw_ok_in 864 (by decide +kernel) rfl, lw_ok_in 53 (by decide +kernel) rfl, by decide +kernel, by decide +kernel, by decide +kernel⟩
theorem mvX2_91 : xMV RX2 91 M_X2_choose 1 2 := ⟨mb_X2_choose, lw_ok_in 861 (by decide +kernel) rfl, lw_ok_in 863 (by decide +kernel) rfl, lw_ok_in 25 (by decide +kernel) rfl, _, rfl, rfl⟩
theorem mb_X9_explained : xMB M_X9_explained 2 := ⟨lw_ok_in 869 (by decide +kernel) rfl, lw_ok_in 46 (by decide +kernel) rfl, by decide +kernel, by decide +kernel, by decide +kernel⟩
theorem mvL_112 : xMV RL 112 M_X9_explained 2 9 := ⟨mb_X9_explained, lw_ok_in 866 (by decide +kernel) rfl, lw_ok_in 867 (by decide +kernel) rfl, lw_ok_in 868 (by decide +kernel) rfl, _, rfl, rfl⟩
theorem mb_X9_undo : xMB M_X9_undo 0 := ⟨lw_ok_in 873 (by decide +kernel) rfl, lw_ok_in 46 (by decide +kernel) rfl, by decide +kernel, by decide +kernel, by decide +kernel⟩
theorem mvL_116 : xMV RL 116 M_X9_undo 0 9 := ⟨mb_X9_undo, lw_ok_in 870 (by decide +kernel) rfl, lw_ok_in 871 (by decide +kernel) rfl, lw_ok_in 872 (by decide +kernel) rfl, _, rfl, rfl⟩
theorem mb_X0_takeLatest : xMB M_X0_takeLatest 0 := ⟨lw_ok_in 877 (by decide +kernel) rfl, lw_ok_in 49 (by decide +kernel) rfl, by decide +kernel, by decide +kernel, by decide +kernel⟩
theorem mvX9_295 : xMV RX9 295 M_X0_takeLatest 0 0 := ⟨mb_X0_takeLatest, lw_ok_in 874 (by decide +kernel) rfl, lw_ok_in 875 (by decide +kernel) rfl, lw_ok_in 876 (by decide +kernel) rfl, _, rfl, rfl⟩
theorem mb_X9_takeBack : xMB M_X9_takeBack 3 := ⟨lw_ok_in 881 (by decide +kernel) rfl, lw_ok_in 46 (by decide +kernel) rfl, by decide +kernel, by decide +kernel, by decide +kernel⟩
theorem mvX9_307 : xMV RX9 307 M_X9_takeBack 3 9 := ⟨mb_X9_takeBack, lw_ok_in 878 (by decide +kernel) rfl, lw_ok_in 880 (by decide +kernel) rfl, lw_ok_in 26 (by decide +kernel) rfl, _, rfl, rfl⟩
theorem mb_X3_dropLatest : xMB M_X3_dropLatest 0 := ⟨lw_ok_in 885 (by decide +kernel) rfl, lw_ok_in 55 (by decide +kernel) rfl, by decide +kernel, by decide +kernel, by decide +kernel⟩
theorem mvX9_347 : xMV RX9 347 M_X3_dropLatest 0 3 := ⟨mb_X3_dropLatest, lw_ok_in 882 (by decide +kernel) rfl, lw_ok_in 883 (by decide +kernel) rfl, lw_ok_in 884 (by decide +kernel) rfl, _, rfl, rfl⟩
theorem mb_X9_count : xMB M_X9_count 1 := ⟨lw_ok_in 889 (by decide +kernel) rfl, lw_ok_in 46 (by decide +kernel) rfl, by decide +kernel, by decide +kernel, by decide +kernel⟩
theorem mvL_120 : xMV RL 120 M_X9_count 1 9 := ⟨mb_X9_count, lw_ok_in 886 (by decide +kernel) rfl, lw_ok_in 887 (by decide +kernel) rfl, lw_ok_in 888 (by decide +kernel) rfl, _, rfl, rfl⟩
theorem mb_X9_countThere : xMB M_X9_countThere 0 := ⟨lw_ok_in 893 (by decide +kernel) rfl, lw_ok_in 46 (by decide +kernel) rfl, by decide +kernel, by decide +kernel, by decide +kernel⟩
theorem mvX9_310 : xMV RX9 310 M_X9_countThere 0 9 := ⟨mb_X9_countThere, lw_ok_in 890 (by decide +kernel) rfl, lw_ok_in 892 (by decide +kernel) rfl, lw_ok_in 27 (by decide +kernel) rfl, _, rfl, rfl⟩
theorem mb_X9_check : xMB M_X9_check 0 := ⟨lw_ok_in 897 (by decide +kernel) rfl, lw_ok_in 46 (by decide +kernel) rfl, by decide +kernel, by decide +kernel, by decide +kernel⟩
theorem mvL_124 : xMV RL 124 M_X9_check 0 9 := ⟨mb_X9_check, lw_ok_in 894 (by decide +kernel) rfl, lw_ok_in 895 (by decide +kernel) rfl, lw_ok_in 896 (by decide +kernel) rfl, _, rfl, rfl⟩
theorem mb_X1_isHeldRightly : xMB M_X1_isHeldRightly 0 := ⟨lw_ok_in 901 (by decide +kernel) rfl, lw_ok_in 47 (by decide +kernel) rfl, by decide +kernel, by decide +kernel, by decide +kernel⟩
theorem mvX9_313 : xMV RX9 313 M_X1_isHeldRightly 0 1 := ⟨mb_X1_isHeldRightly, lw_ok_in 898 (by decide +kernel) rfl, lw_ok_in 899 (by decide +kernel) rfl, lw_ok_in 900 (by decide +kernel) rfl, _, rfl, rfl⟩
theorem mb_X9_allHaveBothBooks : xMB M_X9_allHaveBothBooks 0 := ⟨lw_ok_in 905 (by decide +kernel) rfl, lw_ok_in 46 (by decide +kernel) rfl, by decide +kernel, by decide +kernel, by decide +kernel⟩
theorem mvX9_316 : xMV RX9 316 M_X9_allHaveBothBooks 0 9 := ⟨mb_X9_allHaveBothBooks, lw_ok_in 902 (by decide +kernel) rfl, lw_ok_in 904 (by decide +kernel) rfl, lw_ok_in 28 (by decide +kernel) rfl, _, rfl, rfl⟩
theorem mb_X3_hasBothBooks : xMB M_X3_hasBothBooks 0 := ⟨lw_ok_in 909 (by decide +kernel) rfl, lw_ok_in 55 (by decide +kernel) rfl, by decide +kernel, by decide +kernel, by decide +kernel⟩
theorem mvX9_353 : xMV RX9 353 M_X3_hasBothBooks 0 3 := ⟨mb_X3_hasBothBooks, lw_ok_in 906 (by decide +kernel) rfl, lw_ok_in 907 (by decide +kernel) rfl, lw_ok_in 908 (by decide +kernel) rfl, _, rfl, rfl⟩
theorem mb_X10_init : xMB M_X10_init 0 := ⟨lw_ok_in 914 (by decide +kernel) rfl, lw_ok_in 56 (by decide +kernel) rfl, by decide +kernel, by decide +kernel, by decide +kernel⟩
theorem miL_12 : xMI RL 12 M_X10_init 0 := ⟨mb_X10_init, lw_ok_in 912 (by decide +kernel) rfl, lw_ok_in 913 (by decide +kernel) rfl, rfl, rfl⟩
theorem moX10_1 : Cond.methodLink RX10 1 Lib.objectInit ∈ lw_ok := lw_ok_in 915 (by decide +kernel) rfl
theorem mb_X10_line : xMB M_X10_line 4 := ⟨lw_ok_in 1063 (by decide +kernel) rfl, lw_ok_in 56 (by decide +kernel) rfl, by decide +kernel, by decide +kernel, by decide +kernel⟩
theorem mvL_17 : xMV RL 17 M_X10_line 4 10 := ⟨mb_X10_line, lw_ok_in 1060 (by decide +kernel) rfl, lw_ok_in 1061 (by decide +kernel) rfl, lw_ok_in 1062 (by decide +kernel) rfl, _, rfl, rfl⟩
theorem mb_X10_within : xMB M_X10_within 3 := ⟨lw_ok_in 1066 (by decide +kernel) rfl, lw_ok_in 56 (by decide +kernel) rfl, by decide +kernel, by decide +kernel, by decide +kernel⟩
theorem msX10_116 : xMS RX10 116 M_X10_within 3 := ⟨mb_X10_within, lw_ok_in 1064 (by decide +kernel) rfl, lw_ok_in 1065 (by decide +kernel) rfl⟩
theorem mb_X10_did : xMB M_X10_did 3 := ⟨lw_ok_in 1073 (by decide +kernel) rfl, lw_ok_in 56 (by decide +kernel) rfl, by decide +kernel, by decide +kernel, by decide +kernel⟩
theorem mvX10_139 : xMV RX10 139 M_X10_did 3 10 := ⟨mb_X10_did, lw_ok_in 1070 (by decide +kernel) rfl, lw_ok_in 1072 (by decide +kernel) rfl, lw_ok_in 29 (by decide +kernel) rfl, _, rfl, rfl⟩
theorem mb_X10_today : xMB M_X10_today 1 := ⟨lw_ok_in 1077 (by decide +kernel) rfl, lw_ok_in 56 (by decide +kernel) rfl, by decide +kernel, by decide +kernel, by decide +kernel⟩
theorem mvL_22 : xMV RL 22 M_X10_today 1 10 := ⟨mb_X10_today, lw_ok_in 1074 (by decide +kernel) rfl, lw_ok_in 1075 (by decide +kernel) rfl, lw_ok_in 1076 (by decide +kernel) rfl, _, rfl, rfl⟩
theorem mb_X10_changed : xMB M_X10_changed 0 := ⟨lw_ok_in 1082 (by decide +kernel) rfl, lw_ok_in 56 (by decide +kernel) rfl, by decide +kernel, by decide +kernel, by decide +kernel⟩
theorem mvX10_144 : xMV RX10 144 M_X10_changed 0 10 := ⟨mb_X10_changed, lw_ok_in 1079 (by decide +kernel) rfl, lw_ok_in 1081 (by decide +kernel) rfl, lw_ok_in 30 (by decide +kernel) rfl, _, rfl, rfl⟩
theorem mb_X10_terms : xMB M_X10_terms 2 := ⟨lw_ok_in 1086 (by decide +kernel) rfl, lw_ok_in 56 (by decide +kernel) rfl, by decide +kernel, by decide +kernel, by decide +kernel⟩
theorem mvL_27 : xMV RL 27 M_X10_terms 2 10 := ⟨mb_X10_terms, lw_ok_in 1083 (by decide +kernel) rfl, lw_ok_in 1084 (by decide +kernel) rfl, lw_ok_in 1085 (by decide +kernel) rfl, _, rfl, rfl⟩
theorem mb_X10_told : xMB M_X10_told 3 := ⟨lw_ok_in 1090 (by decide +kernel) rfl, lw_ok_in 56 (by decide +kernel) rfl, by decide +kernel, by decide +kernel, by decide +kernel⟩
theorem mvL_32 : xMV RL 32 M_X10_told 3 10 := ⟨mb_X10_told, lw_ok_in 1087 (by decide +kernel) rfl, lw_ok_in 1088 (by decide +kernel) rfl, lw_ok_in 1089 (by decide +kernel) rfl, _, rfl, rfl⟩
theorem mb_X10_isLine : xMB M_X10_isLine 2 := ⟨lw_ok_in 1094 (by decide +kernel) rfl, lw_ok_in 56 (by decide +kernel) rfl, by decide +kernel, by decide +kernel, by decide +kernel⟩
theorem mvX10_150 : xMV RX10 150 M_X10_isLine 2 10 := ⟨mb_X10_isLine, lw_ok_in 1091 (by decide +kernel) rfl, lw_ok_in 1093 (by decide +kernel) rfl, lw_ok_in 31 (by decide +kernel) rfl, _, rfl, rfl⟩
theorem mb_X10_fit : xMB M_X10_fit 2 := ⟨lw_ok_in 1099 (by decide +kernel) rfl, lw_ok_in 56 (by decide +kernel) rfl, by decide +kernel, by decide +kernel, by decide +kernel⟩
theorem mvL_36 : xMV RL 36 M_X10_fit 2 10 := ⟨mb_X10_fit, lw_ok_in 1096 (by decide +kernel) rfl, lw_ok_in 1097 (by decide +kernel) rfl, lw_ok_in 1098 (by decide +kernel) rfl, _, rfl, rfl⟩
theorem mb_X10_fitOf : xMB M_X10_fitOf 2 := ⟨lw_ok_in 1103 (by decide +kernel) rfl, lw_ok_in 56 (by decide +kernel) rfl, by decide +kernel, by decide +kernel, by decide +kernel⟩
theorem mvX10_162 : xMV RX10 162 M_X10_fitOf 2 10 := ⟨mb_X10_fitOf, lw_ok_in 1100 (by decide +kernel) rfl, lw_ok_in 1102 (by decide +kernel) rfl, lw_ok_in 32 (by decide +kernel) rfl, _, rfl, rfl⟩
theorem mb_X10_apart : xMB M_X10_apart 2 := ⟨lw_ok_in 1106 (by decide +kernel) rfl, lw_ok_in 56 (by decide +kernel) rfl, by decide +kernel, by decide +kernel, by decide +kernel⟩
theorem msX10_155 : xMS RX10 155 M_X10_apart 2 := ⟨mb_X10_apart, lw_ok_in 1104 (by decide +kernel) rfl, lw_ok_in 1105 (by decide +kernel) rfl⟩
theorem mb_X10_hasWord : xMB M_X10_hasWord 3 := ⟨lw_ok_in 1110 (by decide +kernel) rfl, lw_ok_in 56 (by decide +kernel) rfl, by decide +kernel, by decide +kernel, by decide +kernel⟩
theorem mvX10_159 : xMV RX10 159 M_X10_hasWord 3 10 := ⟨mb_X10_hasWord, lw_ok_in 1107 (by decide +kernel) rfl, lw_ok_in 1109 (by decide +kernel) rfl, lw_ok_in 33 (by decide +kernel) rfl, _, rfl, rfl⟩
theorem mb_X10_best : xMB M_X10_best 0 := ⟨lw_ok_in 1114 (by decide +kernel) rfl, lw_ok_in 56 (by decide +kernel) rfl, by decide +kernel, by decide +kernel, by decide +kernel⟩
theorem mvL_41 : xMV RL 41 M_X10_best 0 10 := ⟨mb_X10_best, lw_ok_in 1111 (by decide +kernel) rfl, lw_ok_in 1112 (by decide +kernel) rfl, lw_ok_in 1113 (by decide +kernel) rfl, _, rfl, rfl⟩
theorem mb_X10_breaksOf : xMB M_X10_breaksOf 4 := ⟨lw_ok_in 1117 (by decide +kernel) rfl, lw_ok_in 56 (by decide +kernel) rfl, by decide +kernel, by decide +kernel, by decide +kernel⟩
theorem msX10_171 : xMS RX10 171 M_X10_breaksOf 4 := ⟨mb_X10_breaksOf, lw_ok_in 1115 (by decide +kernel) rfl, lw_ok_in 1116 (by decide +kernel) rfl⟩
theorem mb_X10_reckon : xMB M_X10_reckon 2 := ⟨lw_ok_in 1121 (by decide +kernel) rfl, lw_ok_in 56 (by decide +kernel) rfl, by decide +kernel, by decide +kernel, by decide +kernel⟩
theorem mvX10_175 : xMV RX10 175 M_X10_reckon 2 10 := ⟨mb_X10_reckon, lw_ok_in 1118 (by decide +kernel) rfl, lw_ok_in 1120 (by decide +kernel) rfl, lw_ok_in 34 (by decide +kernel) rfl, _, rfl, rfl⟩
theorem mb_X10_with : xMB M_X10_with 1 := ⟨lw_ok_in 1125 (by decide +kernel) rfl, lw_ok_in 56 (by decide +kernel) rfl, by decide +kernel, by decide +kernel, by decide +kernel⟩
theorem mvL_45 : xMV RL 45 M_X10_with 1 10 := ⟨mb_X10_with, lw_ok_in 1122 (by decide +kernel) rfl, lw_ok_in 1123 (by decide +kernel) rfl, lw_ok_in 1124 (by decide +kernel) rfl, _, rfl, rfl⟩
theorem mb_X10_paired : xMB M_X10_paired 1 := ⟨lw_ok_in 1129 (by decide +kernel) rfl, lw_ok_in 56 (by decide +kernel) rfl, by decide +kernel, by decide +kernel, by decide +kernel⟩
theorem mvX10_181 : xMV RX10 181 M_X10_paired 1 10 := ⟨mb_X10_paired, lw_ok_in 1126 (by decide +kernel) rfl, lw_ok_in 1128 (by decide +kernel) rfl, lw_ok_in 35 (by decide +kernel) rfl, _, rfl, rfl⟩
theorem mb_X10_rival : xMB M_X10_rival 1 := ⟨lw_ok_in 1133 (by decide +kernel) rfl, lw_ok_in 56 (by decide +kernel) rfl, by decide +kernel, by decide +kernel, by decide +kernel⟩
theorem mvL_49 : xMV RL 49 M_X10_rival 1 10 := ⟨mb_X10_rival, lw_ok_in 1130 (by decide +kernel) rfl, lw_ok_in 1131 (by decide +kernel) rfl, lw_ok_in 1132 (by decide +kernel) rfl, _, rfl, rfl⟩
theorem mb_X10_withoutPair : xMB M_X10_withoutPair 1 := ⟨lw_ok_in 1137 (by decide +kernel) rfl, lw_ok_in 56 (by decide +kernel) rfl, by decide +kernel, by decide +kernel, by decide +kernel⟩
theorem mvX10_185 : xMV RX10 185 M_X10_withoutPair 1 10 := ⟨mb_X10_withoutPair, lw_ok_in 1134 (by decide +kernel) rfl, lw_ok_in 1136 (by decide +kernel) rfl, lw_ok_in 36 (by decide +kernel) rfl, _, rfl, rfl⟩
theorem mb_X10_pair : xMB M_X10_pair 1 := ⟨lw_ok_in 1141 (by decide +kernel) rfl, lw_ok_in 56 (by decide +kernel) rfl, by decide +kernel, by decide +kernel, by decide +kernel⟩
theorem mvL_53 : xMV RL 53 M_X10_pair 1 10 := ⟨mb_X10_pair, lw_ok_in 1138 (by decide +kernel) rfl, lw_ok_in 1139 (by decide +kernel) rfl, lw_ok_in 1140 (by decide +kernel) rfl, _, rfl, rfl⟩
theorem mb_X10_newGroup : xMB M_X10_newGroup 1 := ⟨lw_ok_in 1145 (by decide +kernel) rfl, lw_ok_in 56 (by decide +kernel) rfl, by decide +kernel, by decide +kernel, by decide +kernel⟩
theorem mvX10_188 : xMV RX10 188 M_X10_newGroup 1 10 := ⟨mb_X10_newGroup, lw_ok_in 1142 (by decide +kernel) rfl, lw_ok_in 1144 (by decide +kernel) rfl, lw_ok_in 37 (by decide +kernel) rfl, _, rfl, rfl⟩
theorem mb_X10_add : xMB M_X10_add 2 := ⟨lw_ok_in 1149 (by decide +kernel) rfl, lw_ok_in 56 (by decide +kernel) rfl, by decide +kernel, by decide +kernel, by decide +kernel⟩
theorem mvX10_191 : xMV RX10 191 M_X10_add 2 10 := ⟨mb_X10_add, lw_ok_in 1146 (by decide +kernel) rfl, lw_ok_in 1148 (by decide +kernel) rfl, lw_ok_in 38 (by decide +kernel) rfl, _, rfl, rfl⟩
theorem mb_X10_sets : xMB M_X10_sets 4 := ⟨lw_ok_in 1153 (by decide +kernel) rfl, lw_ok_in 56 (by decide +kernel) rfl, by decide +kernel, by decide +kernel, by decide +kernel⟩
theorem mvL_57 : xMV RL 57 M_X10_sets 4 10 := ⟨mb_X10_sets, lw_ok_in 1150 (by decide +kernel) rfl, lw_ok_in 1151 (by decide +kernel) rfl, lw_ok_in 1152 (by decide +kernel) rfl, _, rfl, rfl⟩
theorem mb_X10_choose : xMB M_X10_choose 6 := ⟨lw_ok_in 1157 (by decide +kernel) rfl, lw_ok_in 56 (by decide +kernel) rfl, by decide +kernel, by decide +kernel, by decide +kernel⟩
theorem mvX10_204 : xMV RX10 204 M_X10_choose 6 10 := ⟨mb_X10_choose, lw_ok_in 1154 (by decide +kernel) rfl, lw_ok_in 1156 (by decide +kernel) rfl, lw_ok_in 39 (by decide +kernel) rfl, _, rfl, rfl⟩
theorem mb_X10_size : xMB M_X10_size 1 := ⟨lw_ok_in 1161 (by decide +kernel) rfl, lw_ok_in 56 (by decide +kernel) rfl, by decide +kernel, by decide +kernel, by decide +kernel⟩
theorem mvL_61 : xMV RL 61 M_X10_size 1 10 := ⟨mb_X10_size, lw_ok_in 1158 (by decide +kernel) rfl, lw_ok_in 1159 (by decide +kernel) rfl, lw_ok_in 1160 (by decide +kernel) rfl, _, rfl, rfl⟩
theorem mb_X10_in : xMB M_X10_in 2 := ⟨lw_ok_in 1165 (by decide +kernel) rfl, lw_ok_in 56 (by decide +kernel) rfl, by decide +kernel, by decide +kernel, by decide +kernel⟩
theorem mvL_65 : xMV RL 65 M_X10_in 2 10 := ⟨mb_X10_in, lw_ok_in 1162 (by decide +kernel) rfl, lw_ok_in 1163 (by decide +kernel) rfl, lw_ok_in 1164 (by decide +kernel) rfl, _, rfl, rfl⟩
theorem mb_X10_set : xMB M_X10_set 1 := ⟨lw_ok_in 1169 (by decide +kernel) rfl, lw_ok_in 56 (by decide +kernel) rfl, by decide +kernel, by decide +kernel, by decide +kernel⟩
theorem mvL_69 : xMV RL 69 M_X10_set 1 10 := ⟨mb_X10_set, lw_ok_in 1166 (by decide +kernel) rfl, lw_ok_in 1167 (by decide +kernel) rfl, lw_ok_in 1168 (by decide +kernel) rfl, _, rfl, rfl⟩
theorem mb_X10_hand : xMB M_X10_hand 2 := ⟨lw_ok_in 1173 (by decide +kernel) rfl, lw_ok_in 56 (by decide +kernel) rfl, by decide +kernel, by decide +kernel, by decide +kernel⟩
theorem mvL_73 : xMV RL 73 M_X10_hand 2 10 := ⟨mb_X10_hand, lw_ok_in 1170 (by decide +kernel) rfl, lw_ok_in 1171 (by decide +kernel) rfl, lw_ok_in 1172 (by decide +kernel) rfl, _, rfl, rfl⟩
theorem mb_X10_join : xMB M_X10_join 3 := ⟨lw_ok_in 1177 (by decide +kernel) rfl, lw_ok_in 56 (by decide +kernel) rfl, by decide +kernel, by decide +kernel, by decide +kernel⟩
theorem mvL_77 : xMV RL 77 M_X10_join 3 10 := ⟨mb_X10_join, lw_ok_in 1174 (by decide +kernel) rfl, lw_ok_in 1175 (by decide +kernel) rfl, lw_ok_in 1176 (by decide +kernel) rfl, _, rfl, rfl⟩
theorem mb_X10_isThere : xMB M_X10_isThere 1 := ⟨lw_ok_in 1181 (by decide +kernel) rfl, lw_ok_in 56 (by decide +kernel) rfl, by decide +kernel, by decide +kernel, by decide +kernel⟩
theorem mvX10_208 : xMV RX10 208 M_X10_isThere 1 10 := ⟨mb_X10_isThere, lw_ok_in 1178 (by decide +kernel) rfl, lw_ok_in 1180 (by decide +kernel) rfl, lw_ok_in 40 (by decide +kernel) rfl, _, rfl, rfl⟩
theorem mb_X10_part : xMB M_X10_part 1 := ⟨lw_ok_in 1185 (by decide +kernel) rfl, lw_ok_in 56 (by decide +kernel) rfl, by decide +kernel, by decide +kernel, by decide +kernel⟩
theorem mvL_81 : xMV RL 81 M_X10_part 1 10 := ⟨mb_X10_part, lw_ok_in 1182 (by decide +kernel) rfl, lw_ok_in 1183 (by decide +kernel) rfl, lw_ok_in 1184 (by decide +kernel) rfl, _, rfl, rfl⟩
theorem mb_X10_lock : xMB M_X10_lock 2 := ⟨lw_ok_in 1189 (by decide +kernel) rfl, lw_ok_in 56 (by decide +kernel) rfl, by decide +kernel, by decide +kernel, by decide +kernel⟩
theorem mvL_85 : xMV RL 85 M_X10_lock 2 10 := ⟨mb_X10_lock, lw_ok_in 1186 (by decide +kernel) rfl, lw_ok_in 1187 (by decide +kernel) rfl, lw_ok_in 1188 (by decide +kernel) rfl, _, rfl, rfl⟩
theorem mb_X10_group : xMB M_X10_group 2 := ⟨lw_ok_in 1193 (by decide +kernel) rfl, lw_ok_in 56 (by decide +kernel) rfl, by decide +kernel, by decide +kernel, by decide +kernel⟩
theorem mvL_89 : xMV RL 89 M_X10_group 2 10 := ⟨mb_X10_group, lw_ok_in 1190 (by decide +kernel) rfl, lw_ok_in 1191 (by decide +kernel) rfl, lw_ok_in 1192 (by decide +kernel) rfl, _, rfl, rfl⟩
theorem mb_X10_differenceOf : xMB M_X10_differenceOf 1 := ⟨lw_ok_in 1198 (by decide +kernel) rfl, lw_ok_in 56 (by decide +kernel) rfl, by decide +kernel, by decide +kernel, by decide +kernel⟩
theorem mvX10_213 : xMV RX10 213 M_X10_differenceOf 1 10 := ⟨mb_X10_differenceOf, lw_ok_in 1195 (by decide +kernel) rfl, lw_ok_in 1197 (by decide +kernel) rfl, lw_ok_in 41 (by decide +kernel) rfl, _, rfl, rfl⟩
theorem mb_X10_breaks : xMB M_X10_breaks 2 := ⟨lw_ok_in 1202 (by decide +kernel) rfl, lw_ok_in 56 (by decide +kernel) rfl, by decide +kernel, by decide +kernel, by decide +kernel⟩
theorem mvL_93 : xMV RL 93 M_X10_breaks 2 10 := ⟨mb_X10_breaks, lw_ok_in 1199 (by decide +kernel) rfl, lw_ok_in 1200 (by decide +kernel) rfl, lw_ok_in 1201 (by decide +kernel) rfl, _, rfl, rfl⟩
theorem mb_X10_broken : xMB M_X10_broken 2 := ⟨lw_ok_in 1206 (by decide +kernel) rfl, lw_ok_in 56 (by decide +kernel) rfl, by decide +kernel, by decide +kernel, by decide +kernel⟩
theorem mvL_97 : xMV RL 97 M_X10_broken 2 10 := ⟨mb_X10_broken, lw_ok_in 1203 (by decide +kernel) rfl, lw_ok_in 1204 (by decide +kernel) rfl, lw_ok_in 1205 (by decide +kernel) rfl, _, rfl, rfl⟩
theorem mb_X10_sum : xMB M_X10_sum 1 := ⟨lw_ok_in 1210 (by decide +kernel) rfl, lw_ok_in 56 (by decide +kernel) rfl, by decide +kernel, by decide +kernel, by decide +kernel⟩
theorem mvL_102 : xMV RL 102 M_X10_sum 1 10 := ⟨mb_X10_sum, lw_ok_in 1207 (by decide +kernel) rfl, lw_ok_in 1208 (by decide +kernel) rfl, lw_ok_in 1209 (by decide +kernel) rfl, _, rfl, rfl⟩
theorem mb_X10_as : xMB M_X10_as 2 := ⟨lw_ok_in 1214 (by decide +kernel) rfl, lw_ok_in 56 (by decide +kernel) rfl, by decide +kernel, by decide +kernel, by decide +kernel⟩
theorem mvL_107 : xMV RL 107 M_X10_as 2 10 := ⟨mb_X10_as, lw_ok_in 1211 (by decide +kernel) rfl, lw_ok_in 1212 (by decide +kernel) rfl, lw_ok_in 1213 (by decide +kernel) rfl, _, rfl, rfl⟩
theorem mb_X10_wasThere : xMB M_X10_wasThere 2 := ⟨lw_ok_in 1219 (by decide +kernel) rfl, lw_ok_in 56 (by decide +kernel) rfl, by decide +kernel, by decide +kernel, by decide +kernel⟩
theorem mvX10_219 : xMV RX10 219 M_X10_wasThere 2 10 := ⟨mb_X10_wasThere, lw_ok_in 1216 (by decide +kernel) rfl, lw_ok_in 1218 (by decide +kernel) rfl, lw_ok_in 42 (by decide +kernel) rfl, _, rfl, rfl⟩
theorem mb_X10_explain : xMB M_X10_explain 0 := ⟨lw_ok_in 1223 (by decide +kernel) rfl, lw_ok_in 56 (by decide +kernel) rfl, by decide +kernel, by decide +kernel, by decide +kernel⟩
theorem mvL_111 : xMV RL 111 M_X10_explain 0 10 := ⟨mb_X10_explain, lw_ok_in 1220 (by decide +kernel) rfl, lw_ok_in 1221 (by decide +kernel) rfl, lw_ok_in 1222 (by decide +kernel) rfl, _, rfl, rfl⟩
theorem mb_X10_addItem : xMB M_X10_addItem 4 := ⟨lw_ok_in 1227 (by decide +kernel) rfl, lw_ok_in 56 (by decide +kernel) rfl, by decide +kernel, by decide +kernel, by decide +kernel⟩
theorem mvX10_226 : xMV RX10 226 M_X10_addItem 4 10 := ⟨mb_X10_addItem, lw_ok_in 1224 (by decide +kernel) rfl, lw_ok_in 1226 (by decide +kernel) rfl, lw_ok_in 43 (by decide +kernel) rfl, _, rfl, rfl⟩
theorem mvX10_229 : xMV RX10 229 M_X10_sum 1 10 := ⟨mb_X10_sum, lw_ok_in 1228 (by decide +kernel) rfl, lw_ok_in 1208 (by decide +kernel) rfl, lw_ok_in 1209 (by decide +kernel) rfl, _, rfl, rfl⟩
theorem mb_X10_find : xMB M_X10_find 4 := ⟨lw_ok_in 1232 (by decide +kernel) rfl, lw_ok_in 56 (by decide +kernel) rfl, by decide +kernel, by decide +kernel, by decide +kernel⟩
theorem mvX10_222 : xMV RX10 222 M_X10_find 4 10 := ⟨mb_X10_find, lw_ok_in 1229 (by decide +kernel) rfl, lw_ok_in 1231 (by decide +kernel) rfl, lw_ok_in 44 (by decide +kernel) rfl, _, rfl, rfl⟩
theorem mb_X10_explained : xMB M_X10_explained 2 := ⟨lw_ok_in 1236 (by decide +kernel) rfl, lw_ok_in 56 (by decide +kernel) rfl, by decide +kernel, by decide +kernel, by decide +kernel⟩
theorem mvL_115 : xMV RL 115 M_X10_explained 2 10 := ⟨mb_X10_explained, lw_ok_in 1233 (by decide +kernel) rfl, lw_ok_in 1234 (by decide +kernel) rfl, lw_ok_in 1235 (by decide +kernel) rfl, _, rfl, rfl⟩
theorem mb_X10_undo : xMB M_X10_undo 0 := ⟨lw_ok_in 1240 (by decide +kernel) rfl, lw_ok_in 56 (by decide +kernel) rfl, by decide +kernel, by decide +kernel, by decide +kernel⟩
theorem mvL_119 : xMV RL 119 M_X10_undo 0 10 := ⟨mb_X10_undo, lw_ok_in 1237 (by decide +kernel) rfl, lw_ok_in 1238 (by decide +kernel) rfl, lw_ok_in 1239 (by decide +kernel) rfl, _, rfl, rfl⟩
theorem mb_X10_count : xMB M_X10_count 1 := ⟨lw_ok_in 1244 (by decide +kernel) rfl, lw_ok_in 56 (by decide +kernel) rfl, by decide +kernel, by decide +kernel, by decide +kernel⟩
theorem mvL_123 : xMV RL 123 M_X10_count 1 10 := ⟨mb_X10_count, lw_ok_in 1241 (by decide +kernel) rfl, lw_ok_in 1242 (by decide +kernel) rfl, lw_ok_in 1243 (by decide +kernel) rfl, _, rfl, rfl⟩
theorem mb_X10_check : xMB M_X10_check 0 := ⟨lw_ok_in 1248 (by decide +kernel) rfl, lw_ok_in 56 (by decide +kernel) rfl, by decide +kernel, by decide +kernel, by decide +kernel⟩
theorem mvL_127 : xMV RL 127 M_X10_check 0 10 := ⟨mb_X10_check, lw_ok_in 1245 (by decide +kernel) rfl, lw_ok_in 1246 (by decide +kernel) rfl, lw_ok_in 1247 (by decide +kernel) rfl, _, rfl, rfl⟩
theorem mo_i : Cond.instanceMethod Lib.objectInit ∈ lw_ok := lw_ok_in 66 (by decide +kernel) rfl
theorem mo_c : Cond.code Lib.objectInit ⟨#[0xb1]⟩ 1 none ∈ lw_ok := lw_ok_in 67 (by decide +kernel) rfl
theorem kcX9_73 : Cond.constant RX9 73 (-1000000) ∈ lw_ok := lw_ok_in 442 (by decide +kernel) rfl
theorem kcX9_74 : Cond.constant RX9 74 (1000000) ∈ lw_ok := lw_ok_in 443 (by decide +kernel) rfl
theorem kcX9_79 : Cond.constant RX9 79 (99999999) ∈ lw_ok := lw_ok_in 447 (by decide +kernel) rfl
theorem kcX9_97 : Cond.constant RX9 97 (99999) ∈ lw_ok := lw_ok_in 467 (by decide +kernel) rfl
theorem kcX9_105 : Cond.constant RX9 105 (-2000000) ∈ lw_ok := lw_ok_in 484 (by decide +kernel) rfl
theorem kcX6_69 : Cond.constant RX6 69 (1000000000) ∈ lw_ok := lw_ok_in 556 (by decide +kernel) rfl
theorem kcX9_238 : Cond.constant RX9 238 (-20000000) ∈ lw_ok := lw_ok_in 736 (by decide +kernel) rfl
theorem kcX9_258 : Cond.constantLong RX9 258 (-2000000000000) ∈ lw_ok := lw_ok_in 777 (by decide +kernel) rfl
theorem kcX2_78 : Cond.constant RX2 78 (262144) ∈ lw_ok := lw_ok_in 847 (by decide +kernel) rfl
theorem kcX8_28 : Cond.constant RX8 28 (1000000000) ∈ lw_ok := lw_ok_in 855 (by decide +kernel) rfl
theorem kcX2_95 : Cond.constant RX2 95 (262143) ∈ lw_ok := lw_ok_in 865 (by decide +kernel) rfl
theorem kcX10_63 : Cond.constant RX10 63 (245760) ∈ lw_ok := lw_ok_in 916 (by decide +kernel) rfl
theorem kcX10_133 : Cond.constant RX10 133 (-1000000) ∈ lw_ok := lw_ok_in 1067 (by decide +kernel) rfl
theorem kcX10_134 : Cond.constant RX10 134 (1000000) ∈ lw_ok := lw_ok_in 1068 (by decide +kernel) rfl
theorem kcX10_135 : Cond.constant RX10 135 (99999999) ∈ lw_ok := lw_ok_in 1069 (by decide +kernel) rfl
theorem kcX10_143 : Cond.constant RX10 143 (99999) ∈ lw_ok := lw_ok_in 1078 (by decide +kernel) rfl
theorem kcX10_154 : Cond.constant RX10 154 (-2000000) ∈ lw_ok := lw_ok_in 1095 (by decide +kernel) rfl
theorem kcX10_212 : Cond.constant RX10 212 (-20000000) ∈ lw_ok := lw_ok_in 1194 (by decide +kernel) rfl
theorem kcX10_217 : Cond.constantLong RX10 217 (-2000000000000) ∈ lw_ok := lw_ok_in 1215 (by decide +kernel) rfl
theorem ac_int : Cond.arrayClass .int ∈ lw_ok := lw_ok_in 173 (by decide +kernel) rfl
theorem ac_bool : Cond.arrayClass .boolean ∈ lw_ok := lw_ok_in 227 (by decide +kernel) rfl
theorem ac_long : Cond.arrayClass .long ∈ lw_ok := lw_ok_in 1059 (by decide +kernel) rfl
theorem clL_7 : Cond.classLink RL 7 RX9 ∈ lw_ok := lw_ok_in 60 (by decide +kernel) rfl
theorem clX9_7 : Cond.classLink RX9 7 RX1 ∈ lw_ok := lw_ok_in 68 (by decide +kernel) rfl
theorem clX1_9 : Cond.classLink RX1 9 RX4 ∈ lw_ok := lw_ok_in 75 (by decide +kernel) rfl
theorem clX9_18 : Cond.classLink RX9 18 RX3 ∈ lw_ok := lw_ok_in 145 (by decide +kernel) rfl
theorem clX9_24 : Cond.classLink RX9 24 RX0 ∈ lw_ok := lw_ok_in 147 (by decide +kernel) rfl
theorem clX9_31 : Cond.classLink RX9 31 RX5 ∈ lw_ok := lw_ok_in 174 (by decide +kernel) rfl
theorem clX5_9 : Cond.classLink RX5 9 RX6 ∈ lw_ok := lw_ok_in 180 (by decide +kernel) rfl
theorem clX6_9 : Cond.classLink RX6 9 "[[I" ∈ lw_ok := lw_ok_in 186 (by decide +kernel) rfl
theorem clX9_38 : Cond.classLink RX9 38 RX7 ∈ lw_ok := lw_ok_in 265 (by decide +kernel) rfl
theorem clX9_45 : Cond.classLink RX9 45 RX2 ∈ lw_ok := lw_ok_in 315 (by decide +kernel) rfl
theorem clX2_21 : Cond.classLink RX2 21 RX8 ∈ lw_ok := lw_ok_in 321 (by decide +kernel) rfl
theorem clX3_9 : Cond.classLink RX3 9 RX4 ∈ lw_ok := lw_ok_in 376 (by decide +kernel) rfl
theorem clL_10 : Cond.classLink RL 10 RX10 ∈ lw_ok := lw_ok_in 910 (by decide +kernel) rfl
theorem inX9 : Cond.instantiable RX9 11 ∈ lw_ok := lw_ok_in 61 (by decide +kernel) rfl
theorem inX1 : Cond.instantiable RX1 2 ∈ lw_ok := lw_ok_in 70 (by decide +kernel) rfl
theorem inX4 : Cond.instantiable RX4 9 ∈ lw_ok := lw_ok_in 77 (by decide +kernel) rfl
theorem inX0 : Cond.instantiable RX0 5 ∈ lw_ok := lw_ok_in 148 (by decide +kernel) rfl
theorem inX5 : Cond.instantiable RX5 9 ∈ lw_ok := lw_ok_in 175 (by decide +kernel) rfl
theorem inX6 : Cond.instantiable RX6 12 ∈ lw_ok := lw_ok_in 181 (by decide +kernel) rfl
theorem inX7 : Cond.instantiable RX7 13 ∈ lw_ok := lw_ok_in 266 (by decide +kernel) rfl
theorem inX2 : Cond.instantiable RX2 10 ∈ lw_ok := lw_ok_in 316 (by decide +kernel) rfl
theorem inX8 : Cond.instantiable RX8 3 ∈ lw_ok := lw_ok_in 322 (by decide +kernel) rfl
theorem inX3 : Cond.instantiable RX3 6 ∈ lw_ok := lw_ok_in 371 (by decide +kernel) rfl
theorem inX10 : Cond.instantiable RX10 47 ∈ lw_ok := lw_ok_in 911 (by decide +kernel) rfl
theorem izL : Cond.initialized RL ∈ lw_ok := lw_ok_in 45 (by decide +kernel) rfl
theorem izX9 : Cond.initialized RX9 ∈ lw_ok := lw_ok_in 46 (by decide +kernel) rfl
theorem izX1 : Cond.initialized RX1 ∈ lw_ok := lw_ok_in 47 (by decide +kernel) rfl
theorem izX4 : Cond.initialized RX4 ∈ lw_ok := lw_ok_in 48 (by decide +kernel) rfl
theorem izX0 : Cond.initialized RX0 ∈ lw_ok := lw_ok_in 49 (by decide +kernel) rfl
theorem izX5 : Cond.initialized RX5 ∈ lw_ok := lw_ok_in 50 (by decide +kernel) rfl
theorem izX6 : Cond.initialized RX6 ∈ lw_ok := lw_ok_in 51 (by decide +kernel) rfl
theorem izX7 : Cond.initialized RX7 ∈ lw_ok := lw_ok_in 52 (by decide +kernel) rfl
theorem izX2 : Cond.initialized RX2 ∈ lw_ok := lw_ok_in 53 (by decide +kernel) rfl
theorem izX8 : Cond.initialized RX8 ∈ lw_ok := lw_ok_in 54 (by decide +kernel) rfl
theorem izX3 : Cond.initialized RX3 ∈ lw_ok := lw_ok_in 55 (by decide +kernel) rfl
theorem izX10 : Cond.initialized RX10 ∈ lw_ok := lw_ok_in 56 (by decide +kernel) rfl
theorem izJ9 : Cond.initialized RJ9 ∈ lw_ok := lw_ok_in 57 (by decide +kernel) rfl
theorem izJ7 : Cond.initialized RJ7 ∈ lw_ok := lw_ok_in 58 (by decide +kernel) rfl
theorem izJ10 : Cond.initialized RJ10 ∈ lw_ok := lw_ok_in 59 (by decide +kernel) rfl
end
