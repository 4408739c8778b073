section
-- ===== PART A: goes FIRST, ahead of the names: the tables' words, and 'selects' of the private methods out of them =====
/-- a private method of a class that the tables say can be made, by its rows of tables_1 -/
def lw_okq (q : MethodName × Nat) : Prop := (q.1.cls ≠ "java/lang/invoke/MethodHandle" ∧ q.1.cls ≠ "java/lang/invoke/VarHandle") ∧ Cond.instantiable q.1.cls q.2 ∈ tables_1 ∧ Cond.privateMethod q.1 ∈ tables_1 ∧ Cond.instanceMethod q.1 ∈ tables_1
theorem lw_p0 : lw_okq (⟨"TwoBooks", "carriedOut", "(III)V"⟩, 11) := ⟨⟨by decide +kernel, by decide +kernel⟩, List.mem_of_getElem? (i := 16) (by decide +kernel), List.mem_of_getElem? (i := 408) (by decide +kernel), List.mem_of_getElem? (i := 409) (by decide +kernel)⟩
theorem lw_p1 : lw_okq (⟨"TwoBooks", "endUndoing", "()V"⟩, 11) := ⟨⟨by decide +kernel, by decide +kernel⟩, List.mem_of_getElem? (i := 16) (by decide +kernel), List.mem_of_getElem? (i := 424) (by decide +kernel), List.mem_of_getElem? (i := 425) (by decide +kernel)⟩
theorem lw_p2 : lw_okq (⟨"TwoBooks", "lineAt", "(II)LTwoBooks$Line;"⟩, 11) := ⟨⟨by decide +kernel, by decide +kernel⟩, List.mem_of_getElem? (i := 16) (by decide +kernel), List.mem_of_getElem? (i := 436) (by decide +kernel), List.mem_of_getElem? (i := 437) (by decide +kernel)⟩
theorem lw_p3 : lw_okq (⟨"TwoBooks", "fitOf", "(LTwoBooks$Line;LTwoBooks$Line;)I"⟩, 11) := ⟨⟨by decide +kernel, by decide +kernel⟩, List.mem_of_getElem? (i := 16) (by decide +kernel), List.mem_of_getElem? (i := 449) (by decide +kernel), List.mem_of_getElem? (i := 450) (by decide +kernel)⟩
theorem lw_p4 : lw_okq (⟨"TwoBooks", "learnt", "(II)I"⟩, 11) := ⟨⟨by decide +kernel, by decide +kernel⟩, List.mem_of_getElem? (i := 16) (by decide +kernel), List.mem_of_getElem? (i := 456) (by decide +kernel), List.mem_of_getElem? (i := 457) (by decide +kernel)⟩
theorem lw_p5 : lw_okq (⟨"TwoBooks$Seats", "seat", "(I)V"⟩, 12) := ⟨⟨by decide +kernel, by decide +kernel⟩, List.mem_of_getElem? (i := 136) (by decide +kernel), List.mem_of_getElem? (i := 504) (by decide +kernel), List.mem_of_getElem? (i := 505) (by decide +kernel)⟩
theorem lw_p6 : lw_okq (⟨"TwoBooks$Seats", "clearSearch", "()V"⟩, 12) := ⟨⟨by decide +kernel, by decide +kernel⟩, List.mem_of_getElem? (i := 136) (by decide +kernel), List.mem_of_getElem? (i := 508) (by decide +kernel), List.mem_of_getElem? (i := 509) (by decide +kernel)⟩
theorem lw_p7 : lw_okq (⟨"TwoBooks$Seats", "nextColumn", "(I)I"⟩, 12) := ⟨⟨by decide +kernel, by decide +kernel⟩, List.mem_of_getElem? (i := 136) (by decide +kernel), List.mem_of_getElem? (i := 513) (by decide +kernel), List.mem_of_getElem? (i := 514) (by decide +kernel)⟩
theorem lw_p8 : lw_okq (⟨"TwoBooks$Seats", "settle", "(I)V"⟩, 12) := ⟨⟨by decide +kernel, by decide +kernel⟩, List.mem_of_getElem? (i := 136) (by decide +kernel), List.mem_of_getElem? (i := 521) (by decide +kernel), List.mem_of_getElem? (i := 522) (by decide +kernel)⟩
theorem lw_p9 : lw_okq (⟨"TwoBooks$Seats", "isTight", "(II)Z"⟩, 12) := ⟨⟨by decide +kernel, by decide +kernel⟩, List.mem_of_getElem? (i := 136) (by decide +kernel), List.mem_of_getElem? (i := 525) (by decide +kernel), List.mem_of_getElem? (i := 526) (by decide +kernel)⟩
theorem lw_p10 : lw_okq (⟨"TwoBooks$Seats", "canSit", "(II)Z"⟩, 12) := ⟨⟨by decide +kernel, by decide +kernel⟩, List.mem_of_getElem? (i := 136) (by decide +kernel), List.mem_of_getElem? (i := 529) (by decide +kernel), List.mem_of_getElem? (i := 530) (by decide +kernel)⟩
theorem lw_p11 : lw_okq (⟨"TwoBooks$Seats", "moves", "(II)Z"⟩, 12) := ⟨⟨by decide +kernel, by decide +kernel⟩, List.mem_of_getElem? (i := 136) (by decide +kernel), List.mem_of_getElem? (i := 537) (by decide +kernel), List.mem_of_getElem? (i := 538) (by decide +kernel)⟩
theorem lw_p12 : lw_okq (⟨"TwoBooks$Seats", "restore", "()V"⟩, 12) := ⟨⟨by decide +kernel, by decide +kernel⟩, List.mem_of_getElem? (i := 136) (by decide +kernel), List.mem_of_getElem? (i := 558) (by decide +kernel), List.mem_of_getElem? (i := 559) (by decide +kernel)⟩
theorem lw_p13 : lw_okq (⟨"TwoBooks", "freshRow", "(I)I"⟩, 11) := ⟨⟨by decide +kernel, by decide +kernel⟩, List.mem_of_getElem? (i := 16) (by decide +kernel), List.mem_of_getElem? (i := 566) (by decide +kernel), List.mem_of_getElem? (i := 567) (by decide +kernel)⟩
theorem lw_p14 : lw_okq (⟨"TwoBooks", "makeGroup", "(ILTwoBooks$Line;LTwoBooks$Line;)I"⟩, 11) := ⟨⟨by decide +kernel, by decide +kernel⟩, List.mem_of_getElem? (i := 16) (by decide +kernel), List.mem_of_getElem? (i := 591) (by decide +kernel), List.mem_of_getElem? (i := 592) (by decide +kernel)⟩
theorem lw_p15 : lw_okq (⟨"TwoBooks", "addTo", "(ILTwoBooks$Line;)V"⟩, 11) := ⟨⟨by decide +kernel, by decide +kernel⟩, List.mem_of_getElem? (i := 16) (by decide +kernel), List.mem_of_getElem? (i := 599) (by decide +kernel), List.mem_of_getElem? (i := 600) (by decide +kernel)⟩
def lw_privs_1 : List (MethodName × Nat) := [(⟨"TwoBooks", "carriedOut", "(III)V"⟩, 11), (⟨"TwoBooks", "endUndoing", "()V"⟩, 11), (⟨"TwoBooks", "lineAt", "(II)LTwoBooks$Line;"⟩, 11), (⟨"TwoBooks", "fitOf", "(LTwoBooks$Line;LTwoBooks$Line;)I"⟩, 11), (⟨"TwoBooks", "learnt", "(II)I"⟩, 11), (⟨"TwoBooks$Seats", "seat", "(I)V"⟩, 12), (⟨"TwoBooks$Seats", "clearSearch", "()V"⟩, 12), (⟨"TwoBooks$Seats", "nextColumn", "(I)I"⟩, 12), (⟨"TwoBooks$Seats", "settle", "(I)V"⟩, 12), (⟨"TwoBooks$Seats", "isTight", "(II)Z"⟩, 12), (⟨"TwoBooks$Seats", "canSit", "(II)Z"⟩, 12), (⟨"TwoBooks$Seats", "moves", "(II)Z"⟩, 12), (⟨"TwoBooks$Seats", "restore", "()V"⟩, 12), (⟨"TwoBooks", "freshRow", "(I)I"⟩, 11), (⟨"TwoBooks", "makeGroup", "(ILTwoBooks$Line;LTwoBooks$Line;)I"⟩, 11), (⟨"TwoBooks", "addTo", "(ILTwoBooks$Line;)V"⟩, 11)]
theorem lw_r1 : ∀ q ∈ lw_privs_1, lw_okq q := List.forall_mem_cons.mpr ⟨lw_p0, List.forall_mem_cons.mpr ⟨lw_p1, List.forall_mem_cons.mpr ⟨lw_p2, List.forall_mem_cons.mpr ⟨lw_p3, List.forall_mem_cons.mpr ⟨lw_p4, List.forall_mem_cons.mpr ⟨lw_p5, List.forall_mem_cons.mpr ⟨lw_p6, List.forall_mem_cons.mpr ⟨lw_p7, List.forall_mem_cons.mpr ⟨lw_p8, List.forall_mem_cons.mpr ⟨lw_p9, List.forall_mem_cons.mpr ⟨lw_p10, List.forall_mem_cons.mpr ⟨lw_p11, List.forall_mem_cons.mpr ⟨lw_p12, List.forall_mem_cons.mpr ⟨lw_p13, List.forall_mem_cons.mpr ⟨lw_p14, List.forall_mem_cons.mpr ⟨lw_p15, fun _ h => absurd h List.not_mem_nil⟩⟩⟩⟩⟩⟩⟩⟩⟩⟩⟩⟩⟩⟩⟩⟩
theorem lw_p16 : lw_okq (⟨"TwoBooks$Sets", "boundAmounts", "()V"⟩, 13) := ⟨⟨by decide +kernel, by decide +kernel⟩, List.mem_of_getElem? (i := 221) (by decide +kernel), List.mem_of_getElem? (i := 617) (by decide +kernel), List.mem_of_getElem? (i := 618) (by decide +kernel)⟩
theorem lw_p17 : lw_okq (⟨"TwoBooks$Sets", "extend", "(IIII)V"⟩, 13) := ⟨⟨by decide +kernel, by decide +kernel⟩, List.mem_of_getElem? (i := 221) (by decide +kernel), List.mem_of_getElem? (i := 627) (by decide +kernel), List.mem_of_getElem? (i := 628) (by decide +kernel)⟩
theorem lw_p18 : lw_okq (⟨"TwoBooks$Sets", "finish", "(III)V"⟩, 13) := ⟨⟨by decide +kernel, by decide +kernel⟩, List.mem_of_getElem? (i := 221) (by decide +kernel), List.mem_of_getElem? (i := 631) (by decide +kernel), List.mem_of_getElem? (i := 632) (by decide +kernel)⟩
theorem lw_p19 : lw_okq (⟨"TwoBooks$Sets", "canReach", "(III)Z"⟩, 13) := ⟨⟨by decide +kernel, by decide +kernel⟩, List.mem_of_getElem? (i := 221) (by decide +kernel), List.mem_of_getElem? (i := 635) (by decide +kernel), List.mem_of_getElem? (i := 636) (by decide +kernel)⟩
theorem lw_p20 : lw_okq (⟨"TwoBooks", "isGroupThere", "(I)Z"⟩, 11) := ⟨⟨by decide +kernel, by decide +kernel⟩, List.mem_of_getElem? (i := 16) (by decide +kernel), List.mem_of_getElem? (i := 672) (by decide +kernel), List.mem_of_getElem? (i := 673) (by decide +kernel)⟩
theorem lw_p21 : lw_okq (⟨"TwoBooks", "booksDifference", "()I"⟩, 11) := ⟨⟨by decide +kernel, by decide +kernel⟩, List.mem_of_getElem? (i := 16) (by decide +kernel), List.mem_of_getElem? (i := 713) (by decide +kernel), List.mem_of_getElem? (i := 714) (by decide +kernel)⟩
theorem lw_p22 : lw_okq (⟨"TwoBooks", "groupsDifference", "()I"⟩, 11) := ⟨⟨by decide +kernel, by decide +kernel⟩, List.mem_of_getElem? (i := 16) (by decide +kernel), List.mem_of_getElem? (i := 725) (by decide +kernel), List.mem_of_getElem? (i := 726) (by decide +kernel)⟩
theorem lw_p23 : lw_okq (⟨"TwoBooks", "countHolders", "(I)I"⟩, 11) := ⟨⟨by decide +kernel, by decide +kernel⟩, List.mem_of_getElem? (i := 16) (by decide +kernel), List.mem_of_getElem? (i := 734) (by decide +kernel), List.mem_of_getElem? (i := 735) (by decide +kernel)⟩
theorem lw_p24 : lw_okq (⟨"TwoBooks", "countUneven", "()I"⟩, 11) := ⟨⟨by decide +kernel, by decide +kernel⟩, List.mem_of_getElem? (i := 16) (by decide +kernel), List.mem_of_getElem? (i := 766) (by decide +kernel), List.mem_of_getElem? (i := 767) (by decide +kernel)⟩
theorem lw_p25 : lw_okq (⟨"TwoBooks$Explanation", "choose", "(I)V"⟩, 10) := ⟨⟨by decide +kernel, by decide +kernel⟩, List.mem_of_getElem? (i := 271) (by decide +kernel), List.mem_of_getElem? (i := 817) (by decide +kernel), List.mem_of_getElem? (i := 818) (by decide +kernel)⟩
theorem lw_p26 : lw_okq (⟨"TwoBooks", "takeBack", "(III)V"⟩, 11) := ⟨⟨by decide +kernel, by decide +kernel⟩, List.mem_of_getElem? (i := 16) (by decide +kernel), List.mem_of_getElem? (i := 834) (by decide +kernel), List.mem_of_getElem? (i := 835) (by decide +kernel)⟩
theorem lw_p27 : lw_okq (⟨"TwoBooks", "countThere", "()I"⟩, 11) := ⟨⟨by decide +kernel, by decide +kernel⟩, List.mem_of_getElem? (i := 16) (by decide +kernel), List.mem_of_getElem? (i := 846) (by decide +kernel), List.mem_of_getElem? (i := 847) (by decide +kernel)⟩
theorem lw_p28 : lw_okq (⟨"TwoBooks", "allHaveBothBooks", "()Z"⟩, 11) := ⟨⟨by decide +kernel, by decide +kernel⟩, List.mem_of_getElem? (i := 16) (by decide +kernel), List.mem_of_getElem? (i := 858) (by decide +kernel), List.mem_of_getElem? (i := 859) (by decide +kernel)⟩
theorem lw_p29 : lw_okq (⟨"TwoBooksModel", "did", "(III)V"⟩, 47) := ⟨⟨by decide +kernel, by decide +kernel⟩, List.mem_of_getElem? (i := 866) (by decide +kernel), List.mem_of_getElem? (i := 1026) (by decide +kernel), List.mem_of_getElem? (i := 1027) (by decide +kernel)⟩
theorem lw_p30 : lw_okq (⟨"TwoBooksModel", "changed", "()V"⟩, 47) := ⟨⟨by decide +kernel, by decide +kernel⟩, List.mem_of_getElem? (i := 866) (by decide +kernel), List.mem_of_getElem? (i := 1035) (by decide +kernel), List.mem_of_getElem? (i := 1036) (by decide +kernel)⟩
theorem lw_p31 : lw_okq (⟨"TwoBooksModel", "isLine", "(II)Z"⟩, 47) := ⟨⟨by decide +kernel, by decide +kernel⟩, List.mem_of_getElem? (i := 866) (by decide +kernel), List.mem_of_getElem? (i := 1047) (by decide +kernel), List.mem_of_getElem? (i := 1048) (by decide +kernel)⟩
def lw_privs_2 : List (MethodName × Nat) := [(⟨"TwoBooks$Sets", "boundAmounts", "()V"⟩, 13), (⟨"TwoBooks$Sets", "extend", "(IIII)V"⟩, 13), (⟨"TwoBooks$Sets", "finish", "(III)V"⟩, 13), (⟨"TwoBooks$Sets", "canReach", "(III)Z"⟩, 13), (⟨"TwoBooks", "isGroupThere", "(I)Z"⟩, 11), (⟨"TwoBooks", "booksDifference", "()I"⟩, 11), (⟨"TwoBooks", "groupsDifference", "()I"⟩, 11), (⟨"TwoBooks", "countHolders", "(I)I"⟩, 11), (⟨"TwoBooks", "countUneven", "()I"⟩, 11), (⟨"TwoBooks$Explanation", "choose", "(I)V"⟩, 10), (⟨"TwoBooks", "takeBack", "(III)V"⟩, 11), (⟨"TwoBooks", "countThere", "()I"⟩, 11), (⟨"TwoBooks", "allHaveBothBooks", "()Z"⟩, 11), (⟨"TwoBooksModel", "did", "(III)V"⟩, 47), (⟨"TwoBooksModel", "changed", "()V"⟩, 47), (⟨"TwoBooksModel", "isLine", "(II)Z"⟩, 47)]
theorem lw_r2 : ∀ q ∈ lw_privs_2, lw_okq q := List.forall_mem_cons.mpr ⟨lw_p16, List.forall_mem_cons.mpr ⟨lw_p17, List.forall_mem_cons.mpr ⟨lw_p18, List.forall_mem_cons.mpr ⟨lw_p19, List.forall_mem_cons.mpr ⟨lw_p20, List.forall_mem_cons.mpr ⟨lw_p21, List.forall_mem_cons.mpr ⟨lw_p22, List.forall_mem_cons.mpr ⟨lw_p23, List.forall_mem_cons.mpr ⟨lw_p24, List.forall_mem_cons.mpr ⟨lw_p25, List.forall_mem_cons.mpr ⟨lw_p26, List.forall_mem_cons.mpr ⟨lw_p27, List.forall_mem_cons.mpr ⟨lw_p28, List.forall_mem_cons.mpr ⟨lw_p29, List.forall_mem_cons.mpr ⟨lw_p30, List.forall_mem_cons.mpr ⟨lw_p31, fun _ h => absurd h List.not_mem_nil⟩⟩⟩⟩⟩⟩⟩⟩⟩⟩⟩⟩⟩⟩⟩⟩
theorem lw_p32 : lw_okq (⟨"TwoBooksModel", "fitOf", "(II)I"⟩, 47) := ⟨⟨by decide +kernel, by decide +kernel⟩, List.mem_of_getElem? (i := 866) (by decide +kernel), List.mem_of_getElem? (i := 1056) (by decide +kernel), List.mem_of_getElem? (i := 1057) (by decide +kernel)⟩
theorem lw_p33 : lw_okq (⟨"TwoBooksModel", "hasWord", "(III)Z"⟩, 47) := ⟨⟨by decide +kernel, by decide +kernel⟩, List.mem_of_getElem? (i := 866) (by decide +kernel), List.mem_of_getElem? (i := 1063) (by decide +kernel), List.mem_of_getElem? (i := 1064) (by decide +kernel)⟩
theorem lw_p34 : lw_okq (⟨"TwoBooksModel", "reckon", "(II)I"⟩, 47) := ⟨⟨by decide +kernel, by decide +kernel⟩, List.mem_of_getElem? (i := 866) (by decide +kernel), List.mem_of_getElem? (i := 1074) (by decide +kernel), List.mem_of_getElem? (i := 1075) (by decide +kernel)⟩
theorem lw_p35 : lw_okq (⟨"TwoBooksModel", "paired", "(I)I"⟩, 47) := ⟨⟨by decide +kernel, by decide +kernel⟩, List.mem_of_getElem? (i := 866) (by decide +kernel), List.mem_of_getElem? (i := 1082) (by decide +kernel), List.mem_of_getElem? (i := 1083) (by decide +kernel)⟩
theorem lw_p36 : lw_okq (⟨"TwoBooksModel", "withoutPair", "(I)I"⟩, 47) := ⟨⟨by decide +kernel, by decide +kernel⟩, List.mem_of_getElem? (i := 866) (by decide +kernel), List.mem_of_getElem? (i := 1090) (by decide +kernel), List.mem_of_getElem? (i := 1091) (by decide +kernel)⟩
theorem lw_p37 : lw_okq (⟨"TwoBooksModel", "newGroup", "(I)I"⟩, 47) := ⟨⟨by decide +kernel, by decide +kernel⟩, List.mem_of_getElem? (i := 866) (by decide +kernel), List.mem_of_getElem? (i := 1098) (by decide +kernel), List.mem_of_getElem? (i := 1099) (by decide +kernel)⟩
theorem lw_p38 : lw_okq (⟨"TwoBooksModel", "add", "(II)V"⟩, 47) := ⟨⟨by decide +kernel, by decide +kernel⟩, List.mem_of_getElem? (i := 866) (by decide +kernel), List.mem_of_getElem? (i := 1102) (by decide +kernel), List.mem_of_getElem? (i := 1103) (by decide +kernel)⟩
theorem lw_p39 : lw_okq (⟨"TwoBooksModel", "choose", "(IIIIJI)V"⟩, 47) := ⟨⟨by decide +kernel, by decide +kernel⟩, List.mem_of_getElem? (i := 866) (by decide +kernel), List.mem_of_getElem? (i := 1110) (by decide +kernel), List.mem_of_getElem? (i := 1111) (by decide +kernel)⟩
theorem lw_p40 : lw_okq (⟨"TwoBooksModel", "isThere", "(I)Z"⟩, 47) := ⟨⟨by decide +kernel, by decide +kernel⟩, List.mem_of_getElem? (i := 866) (by decide +kernel), List.mem_of_getElem? (i := 1134) (by decide +kernel), List.mem_of_getElem? (i := 1135) (by decide +kernel)⟩
theorem lw_p41 : lw_okq (⟨"TwoBooksModel", "differenceOf", "(I)J"⟩, 47) := ⟨⟨by decide +kernel, by decide +kernel⟩, List.mem_of_getElem? (i := 866) (by decide +kernel), List.mem_of_getElem? (i := 1151) (by decide +kernel), List.mem_of_getElem? (i := 1152) (by decide +kernel)⟩
theorem lw_p42 : lw_okq (⟨"TwoBooksModel", "wasThere", "(II)Z"⟩, 47) := ⟨⟨by decide +kernel, by decide +kernel⟩, List.mem_of_getElem? (i := 866) (by decide +kernel), List.mem_of_getElem? (i := 1172) (by decide +kernel), List.mem_of_getElem? (i := 1173) (by decide +kernel)⟩
theorem lw_p43 : lw_okq (⟨"TwoBooksModel", "addItem", "(IIIJ)I"⟩, 47) := ⟨⟨by decide +kernel, by decide +kernel⟩, List.mem_of_getElem? (i := 866) (by decide +kernel), List.mem_of_getElem? (i := 1180) (by decide +kernel), List.mem_of_getElem? (i := 1181) (by decide +kernel)⟩
theorem lw_p44 : lw_okq (⟨"TwoBooksModel", "find", "(IIIJ)I"⟩, 47) := ⟨⟨by decide +kernel, by decide +kernel⟩, List.mem_of_getElem? (i := 866) (by decide +kernel), List.mem_of_getElem? (i := 1185) (by decide +kernel), List.mem_of_getElem? (i := 1186) (by decide +kernel)⟩
def lw_privs_3 : List (MethodName × Nat) := [(⟨"TwoBooksModel", "fitOf", "(II)I"⟩, 47), (⟨"TwoBooksModel", "hasWord", "(III)Z"⟩, 47), (⟨"TwoBooksModel", "reckon", "(II)I"⟩, 47), (⟨"TwoBooksModel", "paired", "(I)I"⟩, 47), (⟨"TwoBooksModel", "withoutPair", "(I)I"⟩, 47), (⟨"TwoBooksModel", "newGroup", "(I)I"⟩, 47), (⟨"TwoBooksModel", "add", "(II)V"⟩, 47), (⟨"TwoBooksModel", "choose", "(IIIIJI)V"⟩, 47), (⟨"TwoBooksModel", "isThere", "(I)Z"⟩, 47), (⟨"TwoBooksModel", "differenceOf", "(I)J"⟩, 47), (⟨"TwoBooksModel", "wasThere", "(II)Z"⟩, 47), (⟨"TwoBooksModel", "addItem", "(IIIJ)I"⟩, 47), (⟨"TwoBooksModel", "find", "(IIIJ)I"⟩, 47)]
theorem lw_r3 : ∀ q ∈ lw_privs_3, lw_okq q := List.forall_mem_cons.mpr ⟨lw_p32, List.forall_mem_cons.mpr ⟨lw_p33, List.forall_mem_cons.mpr ⟨lw_p34, List.forall_mem_cons.mpr ⟨lw_p35, List.forall_mem_cons.mpr ⟨lw_p36, List.forall_mem_cons.mpr ⟨lw_p37, List.forall_mem_cons.mpr ⟨lw_p38, List.forall_mem_cons.mpr ⟨lw_p39, List.forall_mem_cons.mpr ⟨lw_p40, List.forall_mem_cons.mpr ⟨lw_p41, List.forall_mem_cons.mpr ⟨lw_p42, List.forall_mem_cons.mpr ⟨lw_p43, List.forall_mem_cons.mpr ⟨lw_p44, fun _ h => absurd h List.not_mem_nil⟩⟩⟩⟩⟩⟩⟩⟩⟩⟩⟩⟩⟩
def lw_privs : List (MethodName × Nat) := lw_privs_1 ++ (lw_privs_2 ++ (lw_privs_3))
def lw_tbl : List Cond := k2_sels lw_privs ++ tables_1
theorem lw_privs_ok : ∀ q ∈ lw_privs, lw_okq q := by
  show ∀ q ∈ lw_privs_1 ++ (lw_privs_2 ++ (lw_privs_3)), lw_okq q
  exact List.forall_mem_append.mpr ⟨lw_r1, List.forall_mem_append.mpr ⟨lw_r2, lw_r3⟩⟩
end
section
def RX0 : String := "TwoBooks$Acts"
def TX0 : u_T := fun k => match k with
  | 0 => ("TwoBooks$Acts", "kind", "[I", true)
  | 1 => ("TwoBooks$Acts", "subject", "[I", true)
  | 2 => ("TwoBooks$Acts", "before", "[I", true)
  | 3 => ("TwoBooks$Acts", "next", "I", false)
  | _ => ("TwoBooks$Acts", "used", "I", false)
def tyX0 : Nat → FieldType := fun k => match k with
  | 0 => .array .int
  | 1 => .array .int
  | 2 => .array .int
  | 3 => .int
  | _ => .int
abbrev wsX00 : List Cond := u_ws RX0 TX0 5
theorem nmX0 : ∀ a, a < 5 → ∀ b, b < 5 → a ≠ b → (TX0 a).2.1 ≠ (TX0 b).2.1 := by decide +kernel
theorem tyX0_ok : ∀ k, k < 5 → parseFieldDescriptor (TX0 k).2.2.1 = some (tyX0 k) := by decide +kernel
abbrev cX0_init : ByteArray := prog_2_method_1_code
def yX0_init : MethodName := ⟨RX0, "<init>", "()V"⟩
abbrev cX0_put : ByteArray := prog_2_method_2_code
def yX0_put : MethodName := ⟨RX0, "put", "(III)V"⟩
abbrev cX0_takeLatest : ByteArray := prog_2_method_3_code
def yX0_takeLatest : MethodName := ⟨RX0, "takeLatest", "()I"⟩
def RX1 : String := "TwoBooks$Book"
def TX1 : u_T := fun k => match k with
  | 0 => ("TwoBooks$Book", "lines", "[LTwoBooks$Line;", true)
  | _ => ("TwoBooks$Book", "used", "I", false)
def tyX1 : Nat → FieldType := fun k => match k with
  | 0 => .array (.object "TwoBooks$Line")
  | _ => .int
abbrev wsX10 : List Cond := u_ws RX1 TX1 2
theorem nmX1 : ∀ a, a < 2 → ∀ b, b < 2 → a ≠ b → (TX1 a).2.1 ≠ (TX1 b).2.1 := by decide +kernel
theorem tyX1_ok : ∀ k, k < 2 → parseFieldDescriptor (TX1 k).2.2.1 = some (tyX1 k) := by decide +kernel
abbrev cX1_init : ByteArray := prog_3_method_1_code
def yX1_init : MethodName := ⟨RX1, "<init>", "(I)V"⟩
abbrev cX1_breaksAged : ByteArray := prog_3_method_2_code
def yX1_breaksAged : MethodName := ⟨RX1, "breaksAged", "(II)I"⟩
abbrev cX1_breakAt : ByteArray := prog_3_method_3_code
def yX1_breakAt : MethodName := ⟨RX1, "breakAt", "(I)I"⟩
abbrev cX1_sumOfAll : ByteArray := prog_3_method_4_code
def yX1_sumOfAll : MethodName := ⟨RX1, "sumOfAll", "()I"⟩
abbrev cX1_sumOfBreaks : ByteArray := prog_3_method_5_code
def yX1_sumOfBreaks : MethodName := ⟨RX1, "sumOfBreaks", "()I"⟩
abbrev cX1_clearHolders : ByteArray := prog_3_method_6_code
def yX1_clearHolders : MethodName := ⟨RX1, "clearHolders", "()V"⟩
abbrev cX1_countUnheld : ByteArray := prog_3_method_7_code
def yX1_countUnheld : MethodName := ⟨RX1, "countUnheld", "(I)I"⟩
abbrev cX1_sumUnheld : ByteArray := prog_3_method_8_code
def yX1_sumUnheld : MethodName := ⟨RX1, "sumUnheld", "(I)I"⟩
abbrev cX1_isHeldRightly : ByteArray := prog_3_method_9_code
def yX1_isHeldRightly : MethodName := ⟨RX1, "isHeldRightly", "()Z"⟩
def RX2 : String := "TwoBooks$Explanation"
def TX2 : u_T := fun k => match k with
  | 0 => ("TwoBooks$Explanation", "kind", "[I", true)
  | 1 => ("TwoBooks$Explanation", "number", "[I", true)
  | 2 => ("TwoBooks$Explanation", "amount", "[I", true)
  | 3 => ("TwoBooks$Explanation", "early", "LTwoBooks$Sums;", true)
  | 4 => ("TwoBooks$Explanation", "late", "LTwoBooks$Sums;", true)
  | 5 => ("TwoBooks$Explanation", "spare", "LTwoBooks$Sums;", true)
  | 6 => ("TwoBooks$Explanation", "things", "I", false)
  | 7 => ("TwoBooks$Explanation", "chosenKind", "[I", true)
  | 8 => ("TwoBooks$Explanation", "chosenNumber", "[I", true)
  | _ => ("TwoBooks$Explanation", "many", "I", false)
def tyX2 : Nat → FieldType := fun k => match k with
  | 0 => .array .int
  | 1 => .array .int
  | 2 => .array .int
  | 3 => .object "TwoBooks$Sums"
  | 4 => .object "TwoBooks$Sums"
  | 5 => .object "TwoBooks$Sums"
  | 6 => .int
  | 7 => .array .int
  | 8 => .array .int
  | _ => .int
abbrev wsX20 : List Cond := u_ws RX2 TX2 10
theorem nmX2 : ∀ a, a < 10 → ∀ b, b < 10 → a ≠ b → (TX2 a).2.1 ≠ (TX2 b).2.1 := by decide +kernel
theorem tyX2_ok : ∀ k, k < 10 → parseFieldDescriptor (TX2 k).2.2.1 = some (tyX2 k) := by decide +kernel
abbrev cX2_init : ByteArray := prog_4_method_1_code
def yX2_init : MethodName := ⟨RX2, "<init>", "()V"⟩
abbrev cX2_start : ByteArray := prog_4_method_2_code
def yX2_start : MethodName := ⟨RX2, "start", "()V"⟩
abbrev cX2_addBreaks : ByteArray := prog_4_method_3_code
def yX2_addBreaks : MethodName := ⟨RX2, "addBreaks", "(LTwoBooks$Book;I)V"⟩
abbrev cX2_add : ByteArray := prog_4_method_4_code
def yX2_add : MethodName := ⟨RX2, "add", "(III)V"⟩
abbrev cX2_find : ByteArray := prog_4_method_5_code
def yX2_find : MethodName := ⟨RX2, "find", "(I)Z"⟩
abbrev cX2_bitOf : ByteArray := prog_4_method_6_code
def yX2_bitOf : MethodName := ⟨RX2, "bitOf", "(I)I"⟩
abbrev cX2_choose : ByteArray := prog_4_method_7_code
def yX2_choose : MethodName := ⟨RX2, "choose", "(I)V"⟩
def RX3 : String := "TwoBooks$Group"
def TX3 : u_T := fun k => match k with
  | 0 => ("TwoBooks$Group", "lines", "[LTwoBooks$Line;", true)
  | 1 => ("TwoBooks$Group", "used", "I", false)
  | 2 => ("TwoBooks$Group", "sort", "I", false)
  | 3 => ("TwoBooks$Group", "made", "I", false)
  | 4 => ("TwoBooks$Group", "parted", "I", false)
  | _ => ("TwoBooks$Group", "locked", "I", false)
def tyX3 : Nat → FieldType := fun k => match k with
  | 0 => .array (.object "TwoBooks$Line")
  | 1 => .int
  | 2 => .int
  | 3 => .int
  | 4 => .int
  | _ => .int
abbrev wsX30 : List Cond := u_ws RX3 TX3 6
theorem nmX3 : ∀ a, a < 6 → ∀ b, b < 6 → a ≠ b → (TX3 a).2.1 ≠ (TX3 b).2.1 := by decide +kernel
theorem tyX3_ok : ∀ k, k < 6 → parseFieldDescriptor (TX3 k).2.2.1 = some (tyX3 k) := by decide +kernel
abbrev cX3_init : ByteArray := prog_5_method_1_code
def yX3_init : MethodName := ⟨RX3, "<init>", "()V"⟩
abbrev cX3_open : ByteArray := prog_5_method_2_code
def yX3_open : MethodName := ⟨RX3, "open", "(II)V"⟩
abbrev cX3_add : ByteArray := prog_5_method_3_code
def yX3_add : MethodName := ⟨RX3, "add", "(LTwoBooks$Line;)V"⟩
abbrev cX3_dropLatest : ByteArray := prog_5_method_4_code
def yX3_dropLatest : MethodName := ⟨RX3, "dropLatest", "()V"⟩
abbrev cX3_claimLines : ByteArray := prog_5_method_5_code
def yX3_claimLines : MethodName := ⟨RX3, "claimLines", "(I)V"⟩
abbrev cX3_holdLines : ByteArray := prog_5_method_6_code
def yX3_holdLines : MethodName := ⟨RX3, "holdLines", "()V"⟩
abbrev cX3_isThere : ByteArray := prog_5_method_7_code
def yX3_isThere : MethodName := ⟨RX3, "isThere", "()Z"⟩
abbrev cX3_isStandingOn : ByteArray := prog_5_method_8_code
def yX3_isStandingOn : MethodName := ⟨RX3, "isStandingOn", "(I)Z"⟩
abbrev cX3_isUneven : ByteArray := prog_5_method_9_code
def yX3_isUneven : MethodName := ⟨RX3, "isUneven", "()Z"⟩
abbrev cX3_difference : ByteArray := prog_5_method_10_code
def yX3_difference : MethodName := ⟨RX3, "difference", "()I"⟩
abbrev cX3_hasWord : ByteArray := prog_5_method_11_code
def yX3_hasWord : MethodName := ⟨RX3, "hasWord", "(II)Z"⟩
abbrev cX3_hasBothBooks : ByteArray := prog_5_method_12_code
def yX3_hasBothBooks : MethodName := ⟨RX3, "hasBothBooks", "()Z"⟩
def RX4 : String := "TwoBooks$Line"
def TX4 : u_T := fun k => match k with
  | 0 => ("TwoBooks$Line", "book", "I", true)
  | 1 => ("TwoBooks$Line", "number", "I", true)
  | 2 => ("TwoBooks$Line", "amount", "I", false)
  | 3 => ("TwoBooks$Line", "day", "I", false)
  | 4 => ("TwoBooks$Line", "mark", "I", false)
  | 5 => ("TwoBooks$Line", "word", "I", false)
  | 6 => ("TwoBooks$Line", "known", "I", false)
  | 7 => ("TwoBooks$Line", "group", "I", false)
  | _ => ("TwoBooks$Line", "holders", "I", false)
def tyX4 : Nat → FieldType := fun k => match k with
  | 0 => .int
  | 1 => .int
  | 2 => .int
  | 3 => .int
  | 4 => .int
  | 5 => .int
  | 6 => .int
  | 7 => .int
  | _ => .int
abbrev wsX40 : List Cond := u_ws RX4 TX4 9
theorem nmX4 : ∀ a, a < 9 → ∀ b, b < 9 → a ≠ b → (TX4 a).2.1 ≠ (TX4 b).2.1 := by decide +kernel
theorem tyX4_ok : ∀ k, k < 9 → parseFieldDescriptor (TX4 k).2.2.1 = some (tyX4 k) := by decide +kernel
abbrev cX4_init : ByteArray := prog_6_method_1_code
def yX4_init : MethodName := ⟨RX4, "<init>", "(II)V"⟩
abbrev cX4_write : ByteArray := prog_6_method_2_code
def yX4_write : MethodName := ⟨RX4, "write", "(IIIII)V"⟩
abbrev cX4_isBreak : ByteArray := prog_6_method_3_code
def yX4_isBreak : MethodName := ⟨RX4, "isBreak", "()Z"⟩
abbrev cX4_isUnheld : ByteArray := prog_6_method_4_code
def yX4_isUnheld : MethodName := ⟨RX4, "isUnheld", "(I)Z"⟩
def RX5 : String := "TwoBooks$Pairing"
def TX5 : u_T := fun k => match k with
  | 0 => ("TwoBooks$Pairing", "seats", "LTwoBooks$Seats;", true)
  | 1 => ("TwoBooks$Pairing", "rowLine", "[I", true)
  | 2 => ("TwoBooks$Pairing", "columnLine", "[I", true)
  | 3 => ("TwoBooks$Pairing", "partner", "[I", true)
  | 4 => ("TwoBooks$Pairing", "rivals", "[I", true)
  | 5 => ("TwoBooks$Pairing", "rows", "I", false)
  | 6 => ("TwoBooks$Pairing", "columns", "I", false)
  | 7 => ("TwoBooks$Pairing", "total", "I", false)
  | _ => ("TwoBooks$Pairing", "asOf", "I", false)
def tyX5 : Nat → FieldType := fun k => match k with
  | 0 => .object "TwoBooks$Seats"
  | 1 => .array .int
  | 2 => .array .int
  | 3 => .array .int
  | 4 => .array .int
  | 5 => .int
  | 6 => .int
  | 7 => .int
  | _ => .int
abbrev wsX50 : List Cond := u_ws RX5 TX5 9
theorem nmX5 : ∀ a, a < 9 → ∀ b, b < 9 → a ≠ b → (TX5 a).2.1 ≠ (TX5 b).2.1 := by decide +kernel
theorem tyX5_ok : ∀ k, k < 9 → parseFieldDescriptor (TX5 k).2.2.1 = some (tyX5 k) := by decide +kernel
abbrev cX5_init : ByteArray := prog_7_method_1_code
def yX5_init : MethodName := ⟨RX5, "<init>", "()V"⟩
abbrev cX5_gather : ByteArray := prog_7_method_2_code
def yX5_gather : MethodName := ⟨RX5, "gather", "(LTwoBooks$Book;LTwoBooks$Book;)V"⟩
abbrev cX5_gatherBreaks : ByteArray := prog_7_method_3_code
def yX5_gatherBreaks : MethodName := ⟨RX5, "gatherBreaks", "(LTwoBooks$Book;[I)I"⟩
abbrev cX5_find : ByteArray := prog_7_method_4_code
def yX5_find : MethodName := ⟨RX5, "find", "()V"⟩
abbrev cX5_rowOf : ByteArray := prog_7_method_5_code
def yX5_rowOf : MethodName := ⟨RX5, "rowOf", "(I)I"⟩
abbrev cX5_isSure : ByteArray := prog_7_method_6_code
def yX5_isSure : MethodName := ⟨RX5, "isSure", "(II)Z"⟩
abbrev cX5_countSure : ByteArray := prog_7_method_7_code
def yX5_countSure : MethodName := ⟨RX5, "countSure", "(I)I"⟩
def RX6 : String := "TwoBooks$Seats"
def TX6 : u_T := fun k => match k with
  | 0 => ("TwoBooks$Seats", "worth", "[[I", true)
  | 1 => ("TwoBooks$Seats", "side", "I", false)
  | 2 => ("TwoBooks$Seats", "rowPrice", "[I", true)
  | 3 => ("TwoBooks$Seats", "columnPrice", "[I", true)
  | 4 => ("TwoBooks$Seats", "rowAt", "[I", true)
  | 5 => ("TwoBooks$Seats", "keptRowPrice", "[I", true)
  | 6 => ("TwoBooks$Seats", "keptColumnPrice", "[I", true)
  | 7 => ("TwoBooks$Seats", "keptRowAt", "[I", true)
  | 8 => ("TwoBooks$Seats", "gap", "[I", true)
  | 9 => ("TwoBooks$Seats", "cameFrom", "[I", true)
  | 10 => ("TwoBooks$Seats", "reached", "[Z", true)
  | _ => ("TwoBooks$Seats", "settled", "[Z", true)
def tyX6 : Nat → FieldType := fun k => match k with
  | 0 => .array (.array .int)
  | 1 => .int
  | 2 => .array .int
  | 3 => .array .int
  | 4 => .array .int
  | 5 => .array .int
  | 6 => .array .int
  | 7 => .array .int
  | 8 => .array .int
  | 9 => .array .int
  | 10 => .array .boolean
  | _ => .array .boolean
abbrev wsX60 : List Cond := u_ws RX6 TX6 12
theorem nmX6 : ∀ a, a < 12 → ∀ b, b < 12 → a ≠ b → (TX6 a).2.1 ≠ (TX6 b).2.1 := by decide +kernel
theorem tyX6_ok : ∀ k, k < 12 → parseFieldDescriptor (TX6 k).2.2.1 = some (tyX6 k) := by decide +kernel
abbrev cX6_init : ByteArray := prog_8_method_1_code
def yX6_init : MethodName := ⟨RX6, "<init>", "()V"⟩
abbrev cX6_clear : ByteArray := prog_8_method_2_code
def yX6_clear : MethodName := ⟨RX6, "clear", "(I)V"⟩
abbrev cX6_seatAll : ByteArray := prog_8_method_3_code
def yX6_seatAll : MethodName := ⟨RX6, "seatAll", "()V"⟩
abbrev cX6_total : ByteArray := prog_8_method_4_code
def yX6_total : MethodName := ⟨RX6, "total", "()I"⟩
abbrev cX6_columnOf : ByteArray := prog_8_method_5_code
def yX6_columnOf : MethodName := ⟨RX6, "columnOf", "(I)I"⟩
abbrev cX6_seat : ByteArray := prog_8_method_6_code
def yX6_seat : MethodName := ⟨RX6, "seat", "(I)V"⟩
abbrev cX6_clearSearch : ByteArray := prog_8_method_7_code
def yX6_clearSearch : MethodName := ⟨RX6, "clearSearch", "()V"⟩
abbrev cX6_nextColumn : ByteArray := prog_8_method_8_code
def yX6_nextColumn : MethodName := ⟨RX6, "nextColumn", "(I)I"⟩
abbrev cX6_favourFirst : ByteArray := prog_8_method_9_code
def yX6_favourFirst : MethodName := ⟨RX6, "favourFirst", "()V"⟩
abbrev cX6_settle : ByteArray := prog_8_method_10_code
def yX6_settle : MethodName := ⟨RX6, "settle", "(I)V"⟩
abbrev cX6_isTight : ByteArray := prog_8_method_11_code
def yX6_isTight : MethodName := ⟨RX6, "isTight", "(II)Z"⟩
abbrev cX6_canSit : ByteArray := prog_8_method_12_code
def yX6_canSit : MethodName := ⟨RX6, "canSit", "(II)Z"⟩
abbrev cX6_moves : ByteArray := prog_8_method_13_code
def yX6_moves : MethodName := ⟨RX6, "moves", "(II)Z"⟩
abbrev cX6_keep : ByteArray := prog_8_method_14_code
def yX6_keep : MethodName := ⟨RX6, "keep", "()V"⟩
abbrev cX6_restore : ByteArray := prog_8_method_15_code
def yX6_restore : MethodName := ⟨RX6, "restore", "()V"⟩
abbrev cX6_totalWithout : ByteArray := prog_8_method_16_code
def yX6_totalWithout : MethodName := ⟨RX6, "totalWithout", "(II)I"⟩
def RX7 : String := "TwoBooks$Sets"
def TX7 : u_T := fun k => match k with
  | 0 => ("TwoBooks$Sets", "packed", "[I", true)
  | 1 => ("TwoBooks$Sets", "number", "[I", true)
  | 2 => ("TwoBooks$Sets", "amount", "[I", true)
  | 3 => ("TwoBooks$Sets", "leastFrom", "[I", true)
  | 4 => ("TwoBooks$Sets", "mostFrom", "[I", true)
  | 5 => ("TwoBooks$Sets", "candidates", "I", false)
  | 6 => ("TwoBooks$Sets", "target", "I", false)
  | 7 => ("TwoBooks$Sets", "slack", "I", false)
  | 8 => ("TwoBooks$Sets", "wanted", "I", false)
  | 9 => ("TwoBooks$Sets", "many", "I", false)
  | 10 => ("TwoBooks$Sets", "book", "I", false)
  | 11 => ("TwoBooks$Sets", "line", "I", false)
  | _ => ("TwoBooks$Sets", "asOf", "I", false)
def tyX7 : Nat → FieldType := fun k => match k with
  | 0 => .array .int
  | 1 => .array .int
  | 2 => .array .int
  | 3 => .array .int
  | 4 => .array .int
  | 5 => .int
  | 6 => .int
  | 7 => .int
  | 8 => .int
  | 9 => .int
  | 10 => .int
  | 11 => .int
  | _ => .int
abbrev wsX70 : List Cond := u_ws RX7 TX7 13
theorem nmX7 : ∀ a, a < 13 → ∀ b, b < 13 → a ≠ b → (TX7 a).2.1 ≠ (TX7 b).2.1 := by decide +kernel
theorem tyX7_ok : ∀ k, k < 13 → parseFieldDescriptor (TX7 k).2.2.1 = some (tyX7 k) := by decide +kernel
abbrev cX7_init : ByteArray := prog_9_method_1_code
def yX7_init : MethodName := ⟨RX7, "<init>", "()V"⟩
abbrev cX7_gather : ByteArray := prog_9_method_2_code
def yX7_gather : MethodName := ⟨RX7, "gather", "(LTwoBooks$Line;LTwoBooks$Book;I)V"⟩
abbrev cX7_boundAmounts : ByteArray := prog_9_method_3_code
def yX7_boundAmounts : MethodName := ⟨RX7, "boundAmounts", "()V"⟩
abbrev cX7_find : ByteArray := prog_9_method_4_code
def yX7_find : MethodName := ⟨RX7, "find", "(II)V"⟩
abbrev cX7_extend : ByteArray := prog_9_method_5_code
def yX7_extend : MethodName := ⟨RX7, "extend", "(IIII)V"⟩
abbrev cX7_canReach : ByteArray := prog_9_method_6_code
def yX7_canReach : MethodName := ⟨RX7, "canReach", "(III)Z"⟩
abbrev cX7_finish : ByteArray := prog_9_method_7_code
def yX7_finish : MethodName := ⟨RX7, "finish", "(III)V"⟩
abbrev cX7_isThere : ByteArray := prog_9_method_8_code
def yX7_isThere : MethodName := ⟨RX7, "isThere", "(I)Z"⟩
abbrev cX7_sizeOf : ByteArray := prog_9_method_9_code
def yX7_sizeOf : MethodName := ⟨RX7, "sizeOf", "(I)I"⟩
abbrev cX7_lineIn : ByteArray := prog_9_method_10_code
def yX7_lineIn : MethodName := ⟨RX7, "lineIn", "(II)I"⟩
def RX8 : String := "TwoBooks$Sums"
def TX8 : u_T := fun k => match k with
  | 0 => ("TwoBooks$Sums", "sums", "[I", true)
  | 1 => ("TwoBooks$Sums", "prices", "[I", true)
  | _ => ("TwoBooks$Sums", "used", "I", false)
def tyX8 : Nat → FieldType := fun k => match k with
  | 0 => .array .int
  | 1 => .array .int
  | _ => .int
abbrev wsX80 : List Cond := u_ws RX8 TX8 3
theorem nmX8 : ∀ a, a < 3 → ∀ b, b < 3 → a ≠ b → (TX8 a).2.1 ≠ (TX8 b).2.1 := by decide +kernel
theorem tyX8_ok : ∀ k, k < 3 → parseFieldDescriptor (TX8 k).2.2.1 = some (tyX8 k) := by decide +kernel
abbrev cX8_init : ByteArray := prog_10_method_1_code
def yX8_init : MethodName := ⟨RX8, "<init>", "()V"⟩
abbrev cX8_start : ByteArray := prog_10_method_2_code
def yX8_start : MethodName := ⟨RX8, "start", "()V"⟩
abbrev cX8_copy : ByteArray := prog_10_method_3_code
def yX8_copy : MethodName := ⟨RX8, "copy", "(LTwoBooks$Sums;)V"⟩
abbrev cX8_merge : ByteArray := prog_10_method_4_code
def yX8_merge : MethodName := ⟨RX8, "merge", "(LTwoBooks$Sums;II)V"⟩
abbrev cX8_cheapestWith : ByteArray := prog_10_method_5_code
def yX8_cheapestWith : MethodName := ⟨RX8, "cheapestWith", "(LTwoBooks$Sums;I)I"⟩
def RX9 : String := "TwoBooks"
def TX9 : u_T := fun k => match k with
  | 0 => ("TwoBooks", "books", "[LTwoBooks$Book;", true)
  | 1 => ("TwoBooks", "groups", "[LTwoBooks$Group;", true)
  | 2 => ("TwoBooks", "acts", "LTwoBooks$Acts;", true)
  | 3 => ("TwoBooks", "pairing", "LTwoBooks$Pairing;", true)
  | 4 => ("TwoBooks", "found", "LTwoBooks$Sets;", true)
  | 5 => ("TwoBooks", "explanation", "LTwoBooks$Explanation;", true)
  | 6 => ("TwoBooks", "groupsMade", "I", false)
  | 7 => ("TwoBooks", "now", "I", false)
  | 8 => ("TwoBooks", "span", "I", false)
  | 9 => ("TwoBooks", "coins", "I", false)
  | _ => ("TwoBooks", "changes", "I", false)
def tyX9 : Nat → FieldType := fun k => match k with
  | 0 => .array (.object "TwoBooks$Book")
  | 1 => .array (.object "TwoBooks$Group")
  | 2 => .object "TwoBooks$Acts"
  | 3 => .object "TwoBooks$Pairing"
  | 4 => .object "TwoBooks$Sets"
  | 5 => .object "TwoBooks$Explanation"
  | 6 => .int
  | 7 => .int
  | 8 => .int
  | 9 => .int
  | _ => .int
abbrev wsX90 : List Cond := u_ws RX9 TX9 11
theorem nmX9 : ∀ a, a < 11 → ∀ b, b < 11 → a ≠ b → (TX9 a).2.1 ≠ (TX9 b).2.1 := by decide +kernel
theorem tyX9_ok : ∀ k, k < 11 → parseFieldDescriptor (TX9 k).2.2.1 = some (tyX9 k) := by decide +kernel
abbrev cX9_init : ByteArray := prog_1_method_1_code
def yX9_init : MethodName := ⟨RX9, "<init>", "()V"⟩
abbrev cX9_line : ByteArray := prog_1_method_2_code
def yX9_line : MethodName := ⟨RX9, "line", "(IIII)I"⟩
abbrev cX9_today : ByteArray := prog_1_method_3_code
def yX9_today : MethodName := ⟨RX9, "today", "(I)I"⟩
abbrev cX9_terms : ByteArray := prog_1_method_4_code
def yX9_terms : MethodName := ⟨RX9, "terms", "(II)I"⟩
abbrev cX9_told : ByteArray := prog_1_method_5_code
def yX9_told : MethodName := ⟨RX9, "told", "(III)I"⟩
abbrev cX9_fit : ByteArray := prog_1_method_6_code
def yX9_fit : MethodName := ⟨RX9, "fit", "(II)I"⟩
abbrev cX9_best : ByteArray := prog_1_method_7_code
def yX9_best : MethodName := ⟨RX9, "best", "()I"⟩
abbrev cX9_with : ByteArray := prog_1_method_8_code
def yX9_with : MethodName := ⟨RX9, "with", "(I)I"⟩
abbrev cX9_rival : ByteArray := prog_1_method_9_code
def yX9_rival : MethodName := ⟨RX9, "rival", "(I)I"⟩
abbrev cX9_pair : ByteArray := prog_1_method_10_code
def yX9_pair : MethodName := ⟨RX9, "pair", "(I)I"⟩
abbrev cX9_sets : ByteArray := prog_1_method_11_code
def yX9_sets : MethodName := ⟨RX9, "sets", "(IIII)I"⟩
abbrev cX9_size : ByteArray := prog_1_method_12_code
def yX9_size : MethodName := ⟨RX9, "size", "(I)I"⟩
abbrev cX9_in : ByteArray := prog_1_method_13_code
def yX9_in : MethodName := ⟨RX9, "in", "(II)I"⟩
abbrev cX9_set : ByteArray := prog_1_method_14_code
def yX9_set : MethodName := ⟨RX9, "set", "(I)I"⟩
abbrev cX9_hand : ByteArray := prog_1_method_15_code
def yX9_hand : MethodName := ⟨RX9, "hand", "(II)I"⟩
abbrev cX9_join : ByteArray := prog_1_method_16_code
def yX9_join : MethodName := ⟨RX9, "join", "(III)I"⟩
abbrev cX9_part : ByteArray := prog_1_method_17_code
def yX9_part : MethodName := ⟨RX9, "part", "(I)I"⟩
abbrev cX9_lock : ByteArray := prog_1_method_18_code
def yX9_lock : MethodName := ⟨RX9, "lock", "(II)I"⟩
abbrev cX9_group : ByteArray := prog_1_method_19_code
def yX9_group : MethodName := ⟨RX9, "group", "(II)I"⟩
abbrev cX9_breaks : ByteArray := prog_1_method_20_code
def yX9_breaks : MethodName := ⟨RX9, "breaks", "(II)I"⟩
abbrev cX9_broken : ByteArray := prog_1_method_21_code
def yX9_broken : MethodName := ⟨RX9, "broken", "(II)I"⟩
abbrev cX9_sum : ByteArray := prog_1_method_22_code
def yX9_sum : MethodName := ⟨RX9, "sum", "(I)J"⟩
abbrev cX9_as : ByteArray := prog_1_method_23_code
def yX9_as : MethodName := ⟨RX9, "as", "(II)J"⟩
abbrev cX9_explain : ByteArray := prog_1_method_24_code
def yX9_explain : MethodName := ⟨RX9, "explain", "()I"⟩
abbrev cX9_explained : ByteArray := prog_1_method_25_code
def yX9_explained : MethodName := ⟨RX9, "explained", "(II)I"⟩
abbrev cX9_undo : ByteArray := prog_1_method_26_code
def yX9_undo : MethodName := ⟨RX9, "undo", "()I"⟩
abbrev cX9_count : ByteArray := prog_1_method_27_code
def yX9_count : MethodName := ⟨RX9, "count", "(I)I"⟩
abbrev cX9_check : ByteArray := prog_1_method_28_code
def yX9_check : MethodName := ⟨RX9, "check", "()I"⟩
abbrev cX9_isWithin : ByteArray := prog_1_method_29_code
def yX9_isWithin : MethodName := ⟨RX9, "isWithin", "(III)Z"⟩
abbrev cX9_isBook : ByteArray := prog_1_method_30_code
def yX9_isBook : MethodName := ⟨RX9, "isBook", "(I)Z"⟩
abbrev cX9_lineAt : ByteArray := prog_1_method_31_code
def yX9_lineAt : MethodName := ⟨RX9, "lineAt", "(II)LTwoBooks$Line;"⟩
abbrev cX9_isGroupThere : ByteArray := prog_1_method_32_code
def yX9_isGroupThere : MethodName := ⟨RX9, "isGroupThere", "(I)Z"⟩
abbrev cX9_fitOf : ByteArray := prog_1_method_33_code
def yX9_fitOf : MethodName := ⟨RX9, "fitOf", "(LTwoBooks$Line;LTwoBooks$Line;)I"⟩
abbrev cX9_learnt : ByteArray := prog_1_method_34_code
def yX9_learnt : MethodName := ⟨RX9, "learnt", "(II)I"⟩
abbrev cX9_freshRow : ByteArray := prog_1_method_35_code
def yX9_freshRow : MethodName := ⟨RX9, "freshRow", "(I)I"⟩
abbrev cX9_makeGroup : ByteArray := prog_1_method_36_code
def yX9_makeGroup : MethodName := ⟨RX9, "makeGroup", "(ILTwoBooks$Line;LTwoBooks$Line;)I"⟩
abbrev cX9_addTo : ByteArray := prog_1_method_37_code
def yX9_addTo : MethodName := ⟨RX9, "addTo", "(ILTwoBooks$Line;)V"⟩
abbrev cX9_carriedOut : ByteArray := prog_1_method_38_code
def yX9_carriedOut : MethodName := ⟨RX9, "carriedOut", "(III)V"⟩
abbrev cX9_endUndoing : ByteArray := prog_1_method_39_code
def yX9_endUndoing : MethodName := ⟨RX9, "endUndoing", "()V"⟩
abbrev cX9_takeBack : ByteArray := prog_1_method_40_code
def yX9_takeBack : MethodName := ⟨RX9, "takeBack", "(III)V"⟩
abbrev cX9_booksDifference : ByteArray := prog_1_method_41_code
def yX9_booksDifference : MethodName := ⟨RX9, "booksDifference", "()I"⟩
abbrev cX9_groupsDifference : ByteArray := prog_1_method_42_code
def yX9_groupsDifference : MethodName := ⟨RX9, "groupsDifference", "()I"⟩
abbrev cX9_countThere : ByteArray := prog_1_method_43_code
def yX9_countThere : MethodName := ⟨RX9, "countThere", "()I"⟩
abbrev cX9_countUneven : ByteArray := prog_1_method_44_code
def yX9_countUneven : MethodName := ⟨RX9, "countUneven", "()I"⟩
abbrev cX9_allHaveBothBooks : ByteArray := prog_1_method_45_code
def yX9_allHaveBothBooks : MethodName := ⟨RX9, "allHaveBothBooks", "()Z"⟩
abbrev cX9_countHolders : ByteArray := prog_1_method_46_code
def yX9_countHolders : MethodName := ⟨RX9, "countHolders", "(I)I"⟩
def RX10 : String := "TwoBooksModel"
def TX10 : u_T := fun k => match k with
  | 0 => ("TwoBooksModel", "amount", "[I", true)
  | 1 => ("TwoBooksModel", "day", "[I", true)
  | 2 => ("TwoBooksModel", "word", "[I", true)
  | 3 => ("TwoBooksModel", "mark", "[I", true)
  | 4 => ("TwoBooksModel", "known", "[I", true)
  | 5 => ("TwoBooksModel", "group", "[I", true)
  | 6 => ("TwoBooksModel", "lines", "[I", true)
  | 7 => ("TwoBooksModel", "today", "I", false)
  | 8 => ("TwoBooksModel", "span", "I", false)
  | 9 => ("TwoBooksModel", "coins", "I", false)
  | 10 => ("TwoBooksModel", "sort", "[I", true)
  | 11 => ("TwoBooksModel", "line", "[I", true)
  | 12 => ("TwoBooksModel", "many", "[I", true)
  | 13 => ("TwoBooksModel", "made", "[I", true)
  | 14 => ("TwoBooksModel", "parted", "[I", true)
  | 15 => ("TwoBooksModel", "locked", "[Z", true)
  | 16 => ("TwoBooksModel", "groups", "I", false)
  | 17 => ("TwoBooksModel", "hasPairing", "Z", false)
  | 18 => ("TwoBooksModel", "ours", "[I", true)
  | 19 => ("TwoBooksModel", "theirs", "[I", true)
  | 20 => ("TwoBooksModel", "ourMany", "I", false)
  | 21 => ("TwoBooksModel", "theirMany", "I", false)
  | 22 => ("TwoBooksModel", "fits", "[I", true)
  | 23 => ("TwoBooksModel", "table", "[I", true)
  | 24 => ("TwoBooksModel", "with", "[I", true)
  | 25 => ("TwoBooksModel", "worth", "I", false)
  | 26 => ("TwoBooksModel", "hasWithout", "[Z", true)
  | 27 => ("TwoBooksModel", "fitsOur", "I", false)
  | 28 => ("TwoBooksModel", "fitsTheir", "I", false)
  | 29 => ("TwoBooksModel", "without", "[I", true)
  | 30 => ("TwoBooksModel", "hasSets", "Z", false)
  | 31 => ("TwoBooksModel", "setBook", "I", false)
  | 32 => ("TwoBooksModel", "setLine", "I", false)
  | 33 => ("TwoBooksModel", "setSize", "[I", true)
  | 34 => ("TwoBooksModel", "setIn", "[I", true)
  | 35 => ("TwoBooksModel", "sets", "I", false)
  | 36 => ("TwoBooksModel", "picked", "[I", true)
  | 37 => ("TwoBooksModel", "itemSort", "[I", true)
  | 38 => ("TwoBooksModel", "itemNumber", "[I", true)
  | 39 => ("TwoBooksModel", "itemSum", "[J", true)
  | 40 => ("TwoBooksModel", "toldSort", "[I", true)
  | 41 => ("TwoBooksModel", "toldNumber", "[I", true)
  | 42 => ("TwoBooksModel", "explained", "I", false)
  | 43 => ("TwoBooksModel", "act", "[I", true)
  | 44 => ("TwoBooksModel", "actOf", "[I", true)
  | 45 => ("TwoBooksModel", "actWas", "[I", true)
  | _ => ("TwoBooksModel", "acts", "I", false)
def tyX10 : Nat → FieldType := fun k => match k with
  | 0 => .array .int
  | 1 => .array .int
  | 2 => .array .int
  | 3 => .array .int
  | 4 => .array .int
  | 5 => .array .int
  | 6 => .array .int
  | 7 => .int
  | 8 => .int
  | 9 => .int
  | 10 => .array .int
  | 11 => .array .int
  | 12 => .array .int
  | 13 => .array .int
  | 14 => .array .int
  | 15 => .array .boolean
  | 16 => .int
  | 17 => .boolean
  | 18 => .array .int
  | 19 => .array .int
  | 20 => .int
  | 21 => .int
  | 22 => .array .int
  | 23 => .array .int
  | 24 => .array .int
  | 25 => .int
  | 26 => .array .boolean
  | 27 => .int
  | 28 => .int
  | 29 => .array .int
  | 30 => .boolean
  | 31 => .int
  | 32 => .int
  | 33 => .array .int
  | 34 => .array .int
  | 35 => .int
  | 36 => .array .int
  | 37 => .array .int
  | 38 => .array .int
  | 39 => .array .long
  | 40 => .array .int
  | 41 => .array .int
  | 42 => .int
  | 43 => .array .int
  | 44 => .array .int
  | 45 => .array .int
  | _ => .int
abbrev wsX100 : List Cond := u_ws RX10 TX10 47
theorem nmX10 : ∀ a, a < 47 → ∀ b, b < 47 → a ≠ b → (TX10 a).2.1 ≠ (TX10 b).2.1 := by decide +kernel
theorem tyX10_ok : ∀ k, k < 47 → parseFieldDescriptor (TX10 k).2.2.1 = some (tyX10 k) := by decide +kernel
abbrev cX10_init : ByteArray := prog_12_method_1_code
def yX10_init : MethodName := ⟨RX10, "<init>", "()V"⟩
abbrev cX10_within : ByteArray := prog_12_method_2_code
def yX10_within : MethodName := ⟨RX10, "within", "(III)Z"⟩
abbrev cX10_isLine : ByteArray := prog_12_method_3_code
def yX10_isLine : MethodName := ⟨RX10, "isLine", "(II)Z"⟩
abbrev cX10_isThere : ByteArray := prog_12_method_4_code
def yX10_isThere : MethodName := ⟨RX10, "isThere", "(I)Z"⟩
abbrev cX10_did : ByteArray := prog_12_method_5_code
def yX10_did : MethodName := ⟨RX10, "did", "(III)V"⟩
abbrev cX10_line : ByteArray := prog_12_method_6_code
def yX10_line : MethodName := ⟨RX10, "line", "(IIII)I"⟩
abbrev cX10_changed : ByteArray := prog_12_method_7_code
def yX10_changed : MethodName := ⟨RX10, "changed", "()V"⟩
abbrev cX10_today : ByteArray := prog_12_method_8_code
def yX10_today : MethodName := ⟨RX10, "today", "(I)I"⟩
abbrev cX10_terms : ByteArray := prog_12_method_9_code
def yX10_terms : MethodName := ⟨RX10, "terms", "(II)I"⟩
abbrev cX10_told : ByteArray := prog_12_method_10_code
def yX10_told : MethodName := ⟨RX10, "told", "(III)I"⟩
abbrev cX10_apart : ByteArray := prog_12_method_11_code
def yX10_apart : MethodName := ⟨RX10, "apart", "(II)I"⟩
abbrev cX10_hasWord : ByteArray := prog_12_method_12_code
def yX10_hasWord : MethodName := ⟨RX10, "hasWord", "(III)Z"⟩
abbrev cX10_fitOf : ByteArray := prog_12_method_13_code
def yX10_fitOf : MethodName := ⟨RX10, "fitOf", "(II)I"⟩
abbrev cX10_fit : ByteArray := prog_12_method_14_code
def yX10_fit : MethodName := ⟨RX10, "fit", "(II)I"⟩
abbrev cX10_reckon : ByteArray := prog_12_method_15_code
def yX10_reckon : MethodName := ⟨RX10, "reckon", "(II)I"⟩
abbrev cX10_breaksOf : ByteArray := prog_12_method_16_code
def yX10_breaksOf : MethodName := ⟨RX10, "breaksOf", "([III[I)I"⟩
abbrev cX10_best : ByteArray := prog_12_method_17_code
def yX10_best : MethodName := ⟨RX10, "best", "()I"⟩
abbrev cX10_paired : ByteArray := prog_12_method_18_code
def yX10_paired : MethodName := ⟨RX10, "paired", "(I)I"⟩
abbrev cX10_with : ByteArray := prog_12_method_19_code
def yX10_with : MethodName := ⟨RX10, "with", "(I)I"⟩
abbrev cX10_rival : ByteArray := prog_12_method_20_code
def yX10_rival : MethodName := ⟨RX10, "rival", "(I)I"⟩
abbrev cX10_withoutPair : ByteArray := prog_12_method_21_code
def yX10_withoutPair : MethodName := ⟨RX10, "withoutPair", "(I)I"⟩
abbrev cX10_newGroup : ByteArray := prog_12_method_22_code
def yX10_newGroup : MethodName := ⟨RX10, "newGroup", "(I)I"⟩
abbrev cX10_add : ByteArray := prog_12_method_23_code
def yX10_add : MethodName := ⟨RX10, "add", "(II)V"⟩
abbrev cX10_pair : ByteArray := prog_12_method_24_code
def yX10_pair : MethodName := ⟨RX10, "pair", "(I)I"⟩
abbrev cX10_choose : ByteArray := prog_12_method_25_code
def yX10_choose : MethodName := ⟨RX10, "choose", "(IIIIJI)V"⟩
abbrev cX10_sets : ByteArray := prog_12_method_26_code
def yX10_sets : MethodName := ⟨RX10, "sets", "(IIII)I"⟩
abbrev cX10_size : ByteArray := prog_12_method_27_code
def yX10_size : MethodName := ⟨RX10, "size", "(I)I"⟩
abbrev cX10_in : ByteArray := prog_12_method_28_code
def yX10_in : MethodName := ⟨RX10, "in", "(II)I"⟩
abbrev cX10_set : ByteArray := prog_12_method_29_code
def yX10_set : MethodName := ⟨RX10, "set", "(I)I"⟩
abbrev cX10_hand : ByteArray := prog_12_method_30_code
def yX10_hand : MethodName := ⟨RX10, "hand", "(II)I"⟩
abbrev cX10_join : ByteArray := prog_12_method_31_code
def yX10_join : MethodName := ⟨RX10, "join", "(III)I"⟩
abbrev cX10_part : ByteArray := prog_12_method_32_code
def yX10_part : MethodName := ⟨RX10, "part", "(I)I"⟩
abbrev cX10_lock : ByteArray := prog_12_method_33_code
def yX10_lock : MethodName := ⟨RX10, "lock", "(II)I"⟩
abbrev cX10_differenceOf : ByteArray := prog_12_method_34_code
def yX10_differenceOf : MethodName := ⟨RX10, "differenceOf", "(I)J"⟩
abbrev cX10_group : ByteArray := prog_12_method_35_code
def yX10_group : MethodName := ⟨RX10, "group", "(II)I"⟩
abbrev cX10_breaks : ByteArray := prog_12_method_36_code
def yX10_breaks : MethodName := ⟨RX10, "breaks", "(II)I"⟩
abbrev cX10_broken : ByteArray := prog_12_method_37_code
def yX10_broken : MethodName := ⟨RX10, "broken", "(II)I"⟩
abbrev cX10_sum : ByteArray := prog_12_method_38_code
def yX10_sum : MethodName := ⟨RX10, "sum", "(I)J"⟩
abbrev cX10_wasThere : ByteArray := prog_12_method_39_code
def yX10_wasThere : MethodName := ⟨RX10, "wasThere", "(II)Z"⟩
abbrev cX10_as : ByteArray := prog_12_method_40_code
def yX10_as : MethodName := ⟨RX10, "as", "(II)J"⟩
abbrev cX10_addItem : ByteArray := prog_12_method_41_code
def yX10_addItem : MethodName := ⟨RX10, "addItem", "(IIIJ)I"⟩
abbrev cX10_find : ByteArray := prog_12_method_42_code
def yX10_find : MethodName := ⟨RX10, "find", "(IIIJ)I"⟩
abbrev cX10_explain : ByteArray := prog_12_method_43_code
def yX10_explain : MethodName := ⟨RX10, "explain", "()I"⟩
abbrev cX10_explained : ByteArray := prog_12_method_44_code
def yX10_explained : MethodName := ⟨RX10, "explained", "(II)I"⟩
abbrev cX10_undo : ByteArray := prog_12_method_45_code
def yX10_undo : MethodName := ⟨RX10, "undo", "()I"⟩
abbrev cX10_count : ByteArray := prog_12_method_46_code
def yX10_count : MethodName := ⟨RX10, "count", "(I)I"⟩
abbrev cX10_check : ByteArray := prog_12_method_47_code
def yX10_check : MethodName := ⟨RX10, "check", "()I"⟩
def RJ9 : String := "java/lang/Math"
def TJ9 : u_T := fun k => match k with
  | _ => ("", "", "", false)
def tyJ9 : Nat → FieldType := fun k => match k with
  | _ => .int
abbrev wsJ90 : List Cond := u_ws RJ9 TJ9 0
theorem nmJ9 : ∀ a, a < 0 → ∀ b, b < 0 → a ≠ b → (TJ9 a).2.1 ≠ (TJ9 b).2.1 := by decide +kernel
theorem tyJ9_ok : ∀ k, k < 0 → parseFieldDescriptor (TJ9 k).2.2.1 = some (tyJ9 k) := by decide +kernel
abbrev cJ9_abs_0f7a4 : ByteArray := prog_13_method_59_code
def yJ9_abs_0f7a4 : MethodName := ⟨RJ9, "abs", "(I)I"⟩
abbrev cJ9_max_7cf53 : ByteArray := prog_13_method_65_code
def yJ9_max_7cf53 : MethodName := ⟨RJ9, "max", "(II)I"⟩
abbrev cJ9_min_7cf53 : ByteArray := prog_13_method_69_code
def yJ9_min_7cf53 : MethodName := ⟨RJ9, "min", "(II)I"⟩
def RJ10 : String := "java/lang/System"
def TJ10 : u_T := fun k => match k with
  | _ => ("", "", "", false)
def tyJ10 : Nat → FieldType := fun k => match k with
  | _ => .int
abbrev wsJ100 : List Cond := u_ws RJ10 TJ10 0
theorem nmJ10 : ∀ a, a < 0 → ∀ b, b < 0 → a ≠ b → (TJ10 a).2.1 ≠ (TJ10 b).2.1 := by decide +kernel
theorem tyJ10_ok : ∀ k, k < 0 → parseFieldDescriptor (TJ10 k).2.2.1 = some (tyJ10 k) := by decide +kernel
def RJ7 : String := "java/util/Arrays"
def TJ7 : u_T := fun k => match k with
  | _ => ("", "", "", false)
def tyJ7 : Nat → FieldType := fun k => match k with
  | _ => .int
abbrev wsJ70 : List Cond := u_ws RJ7 TJ7 0
theorem nmJ7 : ∀ a, a < 0 → ∀ b, b < 0 → a ≠ b → (TJ7 a).2.1 ≠ (TJ7 b).2.1 := by decide +kernel
theorem tyJ7_ok : ∀ k, k < 0 → parseFieldDescriptor (TJ7 k).2.2.1 = some (tyJ7 k) := by decide +kernel
abbrev cJ7_fill_53178 : ByteArray := prog_15_method_103_code
def yJ7_fill_53178 : MethodName := ⟨RJ7, "fill", "([II)V"⟩
def RL : String := "TwoBooksLaw"
abbrev cL_law : ByteArray := code
def yL_law : MethodName := ⟨RL, "law", "([I)Z"⟩
abbrev vwCl : List vw_C := [(RX0, TX0, 5), (RX1, TX1, 2), (RX2, TX2, 10), (RX3, TX3, 6), (RX4, TX4, 9), (RX5, TX5, 9), (RX6, TX6, 12), (RX7, TX7, 13), (RX8, TX8, 3), (RX9, TX9, 11), (RX10, TX10, 47)]
end
section
/-! ===== xV: W with the machine's context, the heap and the locals in an abstract form: a cell's name is a plain number (its place behind the base), the heap a function of it ===== -/
abbrev vx_G : Type := Launch × va_G × (Nat → ClassId) × Nat
abbrev vx_M : Type := MethodName × ByteArray × Nat × Option FieldType
abbrev vx_H : Type := Nat → va_E
abbrev vx_F : Type := vx_G × vx_M × Room × (List Frame → Array Value → State → State → Prop) × (State → Prop) × List (Nat × Value)
def rv (b : Nat) (v : Value) : Value := match v with
  | .ref a => .ref (b + a)
  | v => v
theorem rv_cat (b : Nat) (v : Value) : (rv b v).category = v.category := by cases v <;> rfl
def cvA (b : Nat) (a : vp_A) : vp_A := match a with
  | (n, .inl f) => (n, .inl f)
  | (n, .inr (.inl f)) => (n, .inr (.inl f))
  | (n, .inr (.inr (.inl f))) => (n, .inr (.inr (.inl f)))
  | (n, .inr (.inr (.inr (.inl f)))) => (n, .inr (.inr (.inr (.inl f))))
  | (n, .inr (.inr (.inr (.inr f)))) => (n, .inr (.inr (.inr (.inr (fun i => (f i).map (fun a => b + a))))))
def cvE (G : vx_G) (e : va_E) : va_E := match e with
  | .inl (k, a) => .inl (G.2.2.1 k, cvA G.2.2.2 a)
  | .inr (ci, fs) => .inr (ci, fs.map (rv G.2.2.2))
def wl (G : vx_G) (n : Nat) (h : vx_H) : va_W := (List.range n).map fun a => (G.2.2.2 + a, cvE G (h a))
theorem wl_get {G : vx_G} {n : Nat} {h : vx_H} {a : Nat} (ha : a < n) : (wl G n h)[a]? = some (G.2.2.2 + a, cvE G (h a)) := by
  simp [wl, ha]
theorem wl_at {G : vx_G} {n : Nat} {h : vx_H} {k : Nat} {q : Nat × va_E} (hk : (wl G n h)[k]? = some q) : k < n ∧ q = (G.2.2.2 + k, cvE G (h k)) := by
  by_cases hn : k < n
  · rw [wl_get hn] at hk
    exact ⟨hn, (Option.some.inj hk).symm⟩
  · simp [wl, hn] at hk
theorem wl_len (G : vx_G) (n : Nat) (h : vx_H) : (wl G n h).length = n := by simp [wl]
theorem wl_set {G : vx_G} {n : Nat} {h : vx_H} {a : Nat} (e : va_E) : (wl G n h).set a (G.2.2.2 + a, cvE G e) = wl G n (va_up h a e) := by
  apply List.ext_getElem?
  intro k
  by_cases hk : k < n
  · rw [wl_get hk]
    by_cases hka : k = a
    · subst hka
      rw [List.getElem?_set_self (by rw [wl_len]; exact hk)]
      simp [va_up]
    · rw [List.getElem?_set_ne (fun q => hka q.symm), wl_get hk]
      simp [va_up, hka]
  · rw [List.getElem?_eq_none (by rw [List.length_set, wl_len]; omega), List.getElem?_eq_none (by rw [wl_len]; omega)]
theorem wl_push {G : vx_G} {n : Nat} {h : vx_H} (e : va_E) : wl G n h ++ [(G.2.2.2 + n, cvE G e)] = wl G (n + 1) (va_up h n e) := by
  unfold wl
  rw [List.range_succ, List.map_append]
  congr 1
  · apply List.map_congr_left
    intro a ha
    have := List.mem_range.mp ha
    simp [va_up, show ¬ a = n by omega]
  · simp [va_up]
theorem wl_D (G : vx_G) (n : Nat) (h : vx_H) : va_D (fun q => G.2.2.2 ≤ q) (wl G n h) := by
  refine ⟨fun i j p q hi hj e => ?_, fun k q hk => ?_⟩
  · obtain ⟨-, rfl⟩ := wl_at hi
    obtain ⟨-, rfl⟩ := wl_at hj
    simp at e
    exact e
  · obtain ⟨-, rfl⟩ := wl_at hk
    exact Nat.le_add_right _ _
theorem wl_ext {G : vx_G} {n : Nat} {h h' : vx_H} (e : ∀ a, a < n → h a = h' a) : wl G n h = wl G n h' := by
  unfold wl
  apply List.map_congr_left
  intro a ha
  rw [e a (List.mem_range.mp ha)]
def HR (G : vx_G) (n : Nat) (h : vx_H) (H : Heap) : Prop := va_P G.2.1 vwCl (wl G n h) H ∧ H.size = G.2.2.2 + n
abbrev vx_ty (G : vx_G) : List (ClassId × FieldType) := [(G.2.2.1 0, .int), (G.2.2.1 1, .boolean), (G.2.2.1 2, .long), (G.2.2.1 3, .object RX4), (G.2.2.1 4, .object RX3), (G.2.2.1 5, .object RX1), (G.2.2.1 6, .array .int)]
def lw_ok : List Cond := lw_tbl.filter goodWord
theorem lw_ok_in {w : Cond} (i : Nat) (h : lw_tbl[i]? = some w) (hg : goodWord w = true) : w ∈ lw_ok := List.mem_filter.mpr ⟨List.mem_of_getElem? h, hg⟩
theorem lw_ok_sub {w : Cond} (h : w ∈ lw_ok) : w ∈ lw_tbl := (List.mem_filter.mp h).1
theorem lw_ok_good {ws : List Cond} (h : ∀ w ∈ ws, w ∈ lw_ok) : GoodIn lw_ok ws := fun w hw => ⟨h w hw, good_of_word (List.mem_filter.mp (h w hw)).2⟩
def isNest : Cond → Bool
  | .methodLinkNest .. => true
  | .arrayOver (.object _) => true
  | _ => false
def xN (U : State) : Prop := ∀ w ∈ lw_tbl, isNest w = true → w.before #[] U = true
theorem xN.warm {s U : State} (hW : s.WarmedH U.vm) (h : xN s) : xN U := by
  intro w hw hn
  have hs := h w hw hn
  cases w with
  | methodLinkNest a i x b => exact va_Nw.warmM hW hs
  | arrayOver t =>
    cases t with
    | object C => exact va_AO.moved hW.alike hs
    | _ => simp [isNest] at hn
  | _ => simp [isNest] at hn
theorem xN.blind {U : State} {g : JFrame} {mk : MethodId} {a : Array Value} (h : xN U) : xN (U.calling g mk a) := by
  intro w hw hn
  have hs := h w hw hn
  cases w with
  | methodLinkNest a i x b => exact va_Nw.same (u := U) rfl rfl hs
  | arrayOver t =>
    cases t with
    | object C => exact va_AO.moved (u := U) (Vm.Alike.refl U.vm) hs
    | _ => simp [isNest] at hn
  | _ => simp [isNest] at hn
/-- what a method's walk may use -/
def xC (F : vx_F) (p : Program) (s : State) (m : MethodId) (args : Array Value) (meth : Method) (c : Code) : Prop :=
  p.tables.exec = Jvm.exec ∧ c.code = F.2.1.2.1 ∧ meth.sig.returnType = F.2.1.2.2.2 ∧ c.maxLocals = F.2.1.2.2.1 ∧ s.vm.findClass F.2.1.1.cls = some m.cls ∧ (∀ w ∈ lw_ok, w.before args s = true) ∧ meth.locks = false ∧ va_K F.1.2.1 vwCl (vx_ty F.1) s ∧ F.1.2.2.2 ≤ s.heap.size ∧ meth.name = F.2.1.1.name ∧ xN s ∧ F.2.2.2.2.1 s
/-- the locals, by their places; none: nothing is said -/
def lvE (b : Nat) : Nat → List (Option Value) → List (Nat × Value)
  | _, [] => []
  | i, none :: t => lvE b (i + 1) t
  | i, some v :: t => (i, rv b v) :: lvE b (i + 1) t
theorem lvE_in (b : Nat) : ∀ (i : Nat) (L : List (Option Value)) (j : Nat) (v : Value), L[j]? = some (some v) → (i + j, rv b v) ∈ lvE b i L
  | i, [], j, v, h => by simp at h
  | i, none :: t, 0, v, h => by simp at h
  | i, none :: t, j + 1, v, h => by
    have := lvE_in b (i + 1) t j v (by simpa using h)
    rw [show i + (j + 1) = i + 1 + j by omega]
    exact this
  | i, some w :: t, 0, v, h => by
    simp at h
    subst h
    exact List.mem_cons_self
  | i, some w :: t, j + 1, v, h => by
    have := lvE_in b (i + 1) t j v (by simpa using h)
    rw [show i + (j + 1) = i + 1 + j by omega]
    exact List.mem_cons_of_mem _ this
theorem lvE_of (b : Nat) : ∀ (i : Nat) (L : List (Option Value)) (q : Nat × Value), q ∈ lvE b i L → ∃ (j : Nat) (v : Value), L[j]? = some (some v) ∧ q = (i + j, rv b v)
  | i, [], q, h => by cases h
  | i, none :: t, q, h => by
    obtain ⟨j, v, h1, h2⟩ := lvE_of b (i + 1) t q h
    exact ⟨j + 1, v, by simpa using h1, by rw [h2, show i + (j + 1) = i + 1 + j by omega]⟩
  | i, some w :: t, q, h => by
    rcases List.mem_cons.mp h with rfl | h
    · exact ⟨0, w, rfl, rfl⟩
    · obtain ⟨j, v, h1, h2⟩ := lvE_of b (i + 1) t q h
      exact ⟨j + 1, v, by simpa using h1, by rw [h2, show i + (j + 1) = i + 1 + j by omega]⟩
def xL (F : vx_F) (ls : Array Slot) (L : List (Option Value)) : Prop := lv_has ls F.2.1.2.2.1 (F.2.2.2.2.2 ++ lvE F.1.2.2.2 0 L)
theorem xL.at {F : vx_F} {ls : Array Slot} {L : List (Option Value)} (h : xL F ls L) {i : Nat} {v : Value} (hi : L[i]? = some (some v)) : ls[i]? = some (.val (rv F.1.2.2.2 v)) := by
  have := lvE_in F.1.2.2.2 0 L i v hi
  rw [Nat.zero_add] at this
  exact h.2.2 _ (List.mem_append_right _ this)
/-- the judgement -/
def xV (F : vx_F) (pc : Nat) (L : List (Option Value)) (st : List Value) (n : Nat) (h : vx_H) (ce sl : Nat) : Prop :=
  ∀ (p : Program) (e : Env) (s : State) (m : MethodId) (args : Array Value) (below : List Frame) (meth : Method) (c : Code), xC F p s m args meth c → ∀ (H : Heap) (locs : List Loc) (ls : Array Slot), HR F.1 n h H → va_S (fun q => F.1.2.2.2 ≤ q) s.heap H locs → xL F ls L →
    W p F.1.1 e F.2.2.1 s m args below meth c H locs ce sl (F.2.2.2.1 below args s) (F0 m pc ls (st.map (rv F.1.2.2.2)))
section XV
variable {F : vx_F} {pc : Nat} {L : List (Option Value)} {st : List Value} {n : Nat} {h : vx_H} {ce sl : Nat}
/-- the heap may be told otherwise -/
theorem xV.heap {h' : vx_H} (e : ∀ a, a < n → h a = h' a) (k : xV F pc L st n h' ce sl) : xV F pc L st n h ce sl := by
  intro p e' s m args below meth c C H locs ls hH hS hl
  refine k p e' s m args below meth c C H locs ls ?_ hS hl
  unfold HR at hH ⊢
  rw [← wl_ext e]
  exact hH
theorem xV.heq {h' : vx_H} (e : h = h') (k : xV F pc L st n h' ce sl) : xV F pc L st n h ce sl := e ▸ k
theorem xV.steq {st' : List Value} (e : st = st') (k : xV F pc L st' n h ce sl) : xV F pc L st n h ce sl := e ▸ k
theorem xV.lveq {L' : List (Option Value)} (e : L = L') (k : xV F pc L' st n h ce sl) : xV F pc L st n h ce sl := e ▸ k
/-- fewer locals are told -/
theorem xV.lvsub {L' : List (Option Value)} (e : ∀ (i : Nat) (v : Value), L'[i]? = some (some v) → L[i]? = some (some v)) (k : xV F pc L' st n h ce sl) : xV F pc L st n h ce sl := by
  intro p e' s m args below meth c C H locs ls hH hS hl
  refine k p e' s m args below meth c C H locs ls hH hS ⟨hl.1, hl.2.1, fun q hq => ?_⟩
  rcases List.mem_append.mp hq with h1 | h1
  · exact hl.2.2 q (List.mem_append_left _ h1)
  · obtain ⟨j, v, h2, h3⟩ := lvE_of _ _ _ _ h1
    rw [h3, Nat.zero_add]
    exact xL.at hl (e j v h2)
/-- of a list of locals another, place by place: a 'some' that stays or falls away -/
def lvle : List (Option Value) → List (Option Value) → Prop
  | _, [] => True
  | [], none :: t => lvle [] t
  | [], some _ :: _ => False
  | _ :: s, none :: t => lvle s t
  | a :: s, some v :: t => a = some v ∧ lvle s t
theorem lvle_at : ∀ (L L' : List (Option Value)), lvle L L' → ∀ (i : Nat) (v : Value), L'[i]? = some (some v) → L[i]? = some (some v)
  | _, [], _, i, v, h => by simp at h
  | [], none :: t, hl, 0, v, h => by simp at h
  | [], none :: t, hl, i + 1, v, h => by
    have := lvle_at [] t hl i v (by simpa using h)
    simp at this
  | a :: s, none :: t, hl, 0, v, h => by simp at h
  | a :: s, none :: t, hl, i + 1, v, h => by
    have := lvle_at s t hl i v (by simpa using h)
    simpa using this
  | a :: s, some w :: t, hl, 0, v, h => by
    simp at h
    subst h
    simp [hl.1]
  | a :: s, some w :: t, hl, i + 1, v, h => by
    have := lvle_at s t hl.2 i v (by simpa using h)
    simpa using this
theorem xV.lvle {L' : List (Option Value)} (e : lvle L L') (k : xV F pc L' st n h ce sl) : xV F pc L st n h ce sl := xV.lvsub (lvle_at L L' e) k
theorem xV.wide {ce' sl' : Nat} (h1 : ce ≤ ce') (h2 : sl ≤ sl') (k : xV F pc L st n h ce' sl') : xV F pc L st n h ce sl := by
  intro p e s m args below meth c C H locs ls hH hS hl
  exact W.widen h1 h2 (k p e s m args below meth c C H locs ls hH hS hl)
/-- a computed number gets a name -/
theorem xV.topi {x : Int32} (k : ∀ y : Int32, y = x → xV F pc L (.int y :: st) n h ce sl) : xV F pc L (.int x :: st) n h ce sl := k x rfl
theorem xV.topl {x : Int64} (k : ∀ y : Int64, y = x → xV F pc L (.long y :: st) n h ce sl) : xV F pc L (.long x :: st) n h ce sl := k x rfl
theorem xV.toi {x : Int32} (y : Int32) (e : x = y) (k : xV F pc L (.int y :: st) n h ce sl) : xV F pc L (.int x :: st) n h ce sl := e ▸ k
theorem xV.tol {x : Int64} (y : Int64) (e : x = y) (k : xV F pc L (.long y :: st) n h ce sl) : xV F pc L (.long x :: st) n h ce sl := e ▸ k

theorem x_iconst {z : Int} (v : Int32) (hd : decode F.2.1.2.1 pc = .ok (.iconst z, 1)) (hv : Int32.ofInt z = v) (k : xV F (pc + 1) L (.int v :: st) n h ce sl) : xV F pc L (st) n h ce sl := by
  intro p e s m args below meth c C H locs ls hH hS hl
  exact lv_iconst C.1 C.2.1 hd hv (k p e s m args below meth c C H locs ls hH hS hl)
theorem x_bipush {z : Int} (v : Int32) (hd : decode F.2.1.2.1 pc = .ok (.bipush z, 2)) (hv : (Int8.ofInt z).toInt32 = v) (k : xV F (pc + 2) L (.int v :: st) n h ce sl) : xV F pc L (st) n h ce sl := by
  intro p e s m args below meth c C H locs ls hH hS hl
  exact lv_bipush C.1 C.2.1 hd hv (k p e s m args below meth c C H locs ls hH hS hl)
theorem x_sipush {z : Int} (v : Int32) (hd : decode F.2.1.2.1 pc = .ok (.sipush z, 3)) (hv : (Int16.ofInt z).toInt32 = v) (k : xV F (pc + 3) L (.int v :: st) n h ce sl) : xV F pc L (st) n h ce sl := by
  intro p e s m args below meth c C H locs ls hH hS hl
  exact lv_sipush C.1 C.2.1 hd hv (k p e s m args below meth c C H locs ls hH hS hl)
theorem x_lconst {z : Fin 2} (v : Int64) (hd : decode F.2.1.2.1 pc = .ok (.lconst z, 1)) (hv : Int64.ofNat (z : Nat) = v) (k : xV F (pc + 1) L (.long v :: st) n h ce sl) : xV F pc L (st) n h ce sl := by
  intro p e s m args below meth c C H locs ls hH hS hl
  exact lv_lconst C.1 C.2.1 hd hv (k p e s m args below meth c C H locs ls hH hS hl)
theorem x_ldc {i : Nat} {v : Int32} (hw : Cond.constant F.2.1.1.cls i v ∈ lw_ok) (hd : decode F.2.1.2.1 pc = .ok (.ldc i, 2)) (k : xV F (pc + 2) L (.int v :: st) n h ce sl) : xV F pc L st n h ce sl := by
  intro p e s m args below meth c C H locs ls hH hS hl
  exact lv_ldc C.1 C.2.1 C.2.2.2.2.1 (C.2.2.2.2.2.1 _ hw) hd (k p e s m args below meth c C H locs ls hH hS hl)
theorem x_ldc2 {i : Nat} {v : Int64} (hw : Cond.constantLong F.2.1.1.cls i v ∈ lw_ok) (hd : decode F.2.1.2.1 pc = .ok (.ldc2_w i, 3)) (k : xV F (pc + 3) L (.long v :: st) n h ce sl) : xV F pc L st n h ce sl := by
  intro p e s m args below meth c C H locs ls hH hS hl
  exact lv_ldc2 C.1 C.2.1 C.2.2.2.2.1 (C.2.2.2.2.2.1 _ hw) hd (k p e s m args below meth c C H locs ls hH hS hl)
theorem x_aconst_null (hd : decode F.2.1.2.1 pc = .ok (.aconst_null, 1)) (k : xV F (pc + 1) L (.null :: st) n h ce sl) : xV F pc L st n h ce sl := by
  intro p e s m args below meth c C H locs ls hH hS hl
  exact lv_null C.1 C.2.1 hd (k p e s m args below meth c C H locs ls hH hS hl)
theorem x_iadd {x y : Int32} (hd : decode F.2.1.2.1 pc = .ok (.iadd, 1)) (k : xV F (pc + 1) L (.int (x + y) :: st) n h ce sl) : xV F pc L (.int y :: .int x :: st) n h ce sl := by
  intro p e s m args below meth c C H locs ls hH hS hl
  exact lv_iadd C.1 C.2.1 hd (k p e s m args below meth c C H locs ls hH hS hl)
theorem x_isub {x y : Int32} (hd : decode F.2.1.2.1 pc = .ok (.isub, 1)) (k : xV F (pc + 1) L (.int (x - y) :: st) n h ce sl) : xV F pc L (.int y :: .int x :: st) n h ce sl := by
  intro p e s m args below meth c C H locs ls hH hS hl
  exact lv_isub C.1 C.2.1 hd (k p e s m args below meth c C H locs ls hH hS hl)
theorem x_imul {x y : Int32} (hd : decode F.2.1.2.1 pc = .ok (.imul, 1)) (k : xV F (pc + 1) L (.int (x * y) :: st) n h ce sl) : xV F pc L (.int y :: .int x :: st) n h ce sl := by
  intro p e s m args below meth c C H locs ls hH hS hl
  exact lv_imul C.1 C.2.1 hd (k p e s m args below meth c C H locs ls hH hS hl)
theorem x_iand {x y : Int32} (hd : decode F.2.1.2.1 pc = .ok (.iand, 1)) (k : xV F (pc + 1) L (.int (x &&& y) :: st) n h ce sl) : xV F pc L (.int y :: .int x :: st) n h ce sl := by
  intro p e s m args below meth c C H locs ls hH hS hl
  exact lv_iand C.1 C.2.1 hd (k p e s m args below meth c C H locs ls hH hS hl)
theorem x_ior {x y : Int32} (hd : decode F.2.1.2.1 pc = .ok (.ior, 1)) (k : xV F (pc + 1) L (.int (x ||| y) :: st) n h ce sl) : xV F pc L (.int y :: .int x :: st) n h ce sl := by
  intro p e s m args below meth c C H locs ls hH hS hl
  exact lv_ior C.1 C.2.1 hd (k p e s m args below meth c C H locs ls hH hS hl)
theorem x_ixor {x y : Int32} (hd : decode F.2.1.2.1 pc = .ok (.ixor, 1)) (k : xV F (pc + 1) L (.int (x ^^^ y) :: st) n h ce sl) : xV F pc L (.int y :: .int x :: st) n h ce sl := by
  intro p e s m args below meth c C H locs ls hH hS hl
  exact lv_ixor C.1 C.2.1 hd (k p e s m args below meth c C H locs ls hH hS hl)
theorem x_idiv {x y : Int32} (hd : decode F.2.1.2.1 pc = .ok (.idiv, 1)) (hne : ¬ y = 0) (k : xV F (pc + 1) L (.int (x / y) :: st) n h ce sl) : xV F pc L (.int y :: .int x :: st) n h ce sl := by
  intro p e s m args below meth c C H locs ls hH hS hl
  exact lv_idiv C.1 C.2.1 hd hne (k p e s m args below meth c C H locs ls hH hS hl)
theorem x_irem {x y : Int32} (hd : decode F.2.1.2.1 pc = .ok (.irem, 1)) (hne : ¬ y = 0) (k : xV F (pc + 1) L (.int (x - x / y * y) :: st) n h ce sl) : xV F pc L (.int y :: .int x :: st) n h ce sl := by
  intro p e s m args below meth c C H locs ls hH hS hl
  exact lv_irem C.1 C.2.1 hd hne (k p e s m args below meth c C H locs ls hH hS hl)
theorem x_ineg {x : Int32} (hd : decode F.2.1.2.1 pc = .ok (.ineg, 1)) (k : xV F (pc + 1) L (.int (-x) :: st) n h ce sl) : xV F pc L (.int x :: st) n h ce sl := by
  intro p e s m args below meth c C H locs ls hH hS hl
  exact lv_ineg C.1 C.2.1 hd (k p e s m args below meth c C H locs ls hH hS hl)
theorem x_ishl {x y : Int32} (hd : decode F.2.1.2.1 pc = .ok (.ishl, 1)) (k : xV F (pc + 1) L (.int (x <<< (y &&& 31)) :: st) n h ce sl) : xV F pc L (.int y :: .int x :: st) n h ce sl := by
  intro p e s m args below meth c C H locs ls hH hS hl
  exact lv_ishl C.1 C.2.1 hd (k p e s m args below meth c C H locs ls hH hS hl)
theorem x_ishr {x y : Int32} (hd : decode F.2.1.2.1 pc = .ok (.ishr, 1)) (k : xV F (pc + 1) L (.int (x >>> (y &&& 31)) :: st) n h ce sl) : xV F pc L (.int y :: .int x :: st) n h ce sl := by
  intro p e s m args below meth c C H locs ls hH hS hl
  exact lv_ishr C.1 C.2.1 hd (k p e s m args below meth c C H locs ls hH hS hl)
theorem x_ladd {x y : Int64} (hd : decode F.2.1.2.1 pc = .ok (.ladd, 1)) (k : xV F (pc + 1) L (.long (x + y) :: st) n h ce sl) : xV F pc L (.long y :: .long x :: st) n h ce sl := by
  intro p e s m args below meth c C H locs ls hH hS hl
  exact lv_ladd C.1 C.2.1 hd (k p e s m args below meth c C H locs ls hH hS hl)
theorem x_lsub {x y : Int64} (hd : decode F.2.1.2.1 pc = .ok (.lsub, 1)) (k : xV F (pc + 1) L (.long (x - y) :: st) n h ce sl) : xV F pc L (.long y :: .long x :: st) n h ce sl := by
  intro p e s m args below meth c C H locs ls hH hS hl
  exact lv_lsub C.1 C.2.1 hd (k p e s m args below meth c C H locs ls hH hS hl)
theorem x_lneg {x : Int64} (hd : decode F.2.1.2.1 pc = .ok (.lneg, 1)) (k : xV F (pc + 1) L (.long (-x) :: st) n h ce sl) : xV F pc L (.long x :: st) n h ce sl := by
  intro p e s m args below meth c C H locs ls hH hS hl
  exact lv_lneg C.1 C.2.1 hd (k p e s m args below meth c C H locs ls hH hS hl)
theorem x_i2l {x : Int32} (hd : decode F.2.1.2.1 pc = .ok (.i2l, 1)) (k : xV F (pc + 1) L (.long x.toInt64 :: st) n h ce sl) : xV F pc L (.int x :: st) n h ce sl := by
  intro p e s m args below meth c C H locs ls hH hS hl
  exact lv_i2l C.1 C.2.1 hd rfl (k p e s m args below meth c C H locs ls hH hS hl)
theorem x_l2i {x : Int64} (hd : decode F.2.1.2.1 pc = .ok (.l2i, 1)) (k : xV F (pc + 1) L (.int x.toInt32 :: st) n h ce sl) : xV F pc L (.long x :: st) n h ce sl := by
  intro p e s m args below meth c C H locs ls hH hS hl
  exact lv_l2i C.1 C.2.1 hd rfl (k p e s m args below meth c C H locs ls hH hS hl)
theorem x_lcmp {x y : Int64} (hd : decode F.2.1.2.1 pc = .ok (.lcmp, 1)) (k : xV F (pc + 1) L (.int (lg_cmp x y) :: st) n h ce sl) : xV F pc L (.long y :: .long x :: st) n h ce sl := by
  intro p e s m args below meth c C H locs ls hH hS hl
  exact W.lcmp C.1 C.2.1 hd (k p e s m args below meth c C H locs ls hH hS hl)
theorem x_dup {v : Value} (hd : decode F.2.1.2.1 pc = .ok (.dup, 1)) (hc : v.category = 1) (k : xV F (pc + 1) L (v :: v :: st) n h ce sl) : xV F pc L (v :: st) n h ce sl := by
  intro p e s m args below meth c C H locs ls hH hS hl
  exact lv_dup C.1 C.2.1 hd ((rv_cat _ v).trans hc) (k p e s m args below meth c C H locs ls hH hS hl)
theorem x_pop {v : Value} (hd : decode F.2.1.2.1 pc = .ok (.pop, 1)) (hc : v.category = 1) (k : xV F (pc + 1) L st n h ce sl) : xV F pc L (v :: st) n h ce sl := by
  intro p e s m args below meth c C H locs ls hH hS hl
  exact lv_pop C.1 C.2.1 hd ((rv_cat _ v).trans hc) (k p e s m args below meth c C H locs ls hH hS hl)
theorem x_dup2 {v u : Value} (hd : decode F.2.1.2.1 pc = .ok (.dup2, 1)) (hc : v.category = 1) (hc2 : u.category = 1) (k : xV F (pc + 1) L (v :: u :: v :: u :: st) n h ce sl) : xV F pc L (v :: u :: st) n h ce sl := by
  intro p e s m args below meth c C H locs ls hH hS hl
  exact lv_dup2_11 C.1 C.2.1 hd ((rv_cat _ v).trans hc) ((rv_cat _ u).trans hc2) (k p e s m args below meth c C H locs ls hH hS hl)
theorem x_if_eq {x : Int32} {off : Int} (tgt : Nat) (hd : decode F.2.1.2.1 pc = .ok (.ifCond .eq off, 3)) (ht : (pc : Int) + off = (tgt : Int)) (kt : x = 0 → xV F tgt L st n h ce sl) (kf : ¬ (x = 0) → xV F (pc + 3) L st n h ce sl) : xV F pc L (.int x :: st) n h ce sl := by
  intro p e s m args below meth c C H locs ls hH hS hl
  exact lv_if_eq C.1 C.2.1 hd ht (fun q => kt q p e s m args below meth c C H locs ls hH hS hl) (fun q => kf q p e s m args below meth c C H locs ls hH hS hl)
theorem x_icmp_eq {x y : Int32} {off : Int} (tgt : Nat) (hd : decode F.2.1.2.1 pc = .ok (.if_icmp .eq off, 3)) (ht : (pc : Int) + off = (tgt : Int)) (kt : x = y → xV F tgt L st n h ce sl) (kf : ¬ (x = y) → xV F (pc + 3) L st n h ce sl) : xV F pc L (.int y :: .int x :: st) n h ce sl := by
  intro p e s m args below meth c C H locs ls hH hS hl
  exact lv_icmp_eq C.1 C.2.1 hd ht (fun q => kt q p e s m args below meth c C H locs ls hH hS hl) (fun q => kf q p e s m args below meth c C H locs ls hH hS hl)
theorem x_if_ne {x : Int32} {off : Int} (tgt : Nat) (hd : decode F.2.1.2.1 pc = .ok (.ifCond .ne off, 3)) (ht : (pc : Int) + off = (tgt : Int)) (kt : ¬ x = 0 → xV F tgt L st n h ce sl) (kf : x = 0 → xV F (pc + 3) L st n h ce sl) : xV F pc L (.int x :: st) n h ce sl := by
  intro p e s m args below meth c C H locs ls hH hS hl
  exact lv_if_ne C.1 C.2.1 hd ht (fun q => kt q p e s m args below meth c C H locs ls hH hS hl) (fun q => kf q p e s m args below meth c C H locs ls hH hS hl)
theorem x_icmp_ne {x y : Int32} {off : Int} (tgt : Nat) (hd : decode F.2.1.2.1 pc = .ok (.if_icmp .ne off, 3)) (ht : (pc : Int) + off = (tgt : Int)) (kt : ¬ x = y → xV F tgt L st n h ce sl) (kf : x = y → xV F (pc + 3) L st n h ce sl) : xV F pc L (.int y :: .int x :: st) n h ce sl := by
  intro p e s m args below meth c C H locs ls hH hS hl
  exact lv_icmp_ne C.1 C.2.1 hd ht (fun q => kt q p e s m args below meth c C H locs ls hH hS hl) (fun q => kf q p e s m args below meth c C H locs ls hH hS hl)
theorem x_if_lt {x : Int32} {off : Int} (tgt : Nat) (hd : decode F.2.1.2.1 pc = .ok (.ifCond .lt off, 3)) (ht : (pc : Int) + off = (tgt : Int)) (kt : x < 0 → xV F tgt L st n h ce sl) (kf : ¬ (x < 0) → xV F (pc + 3) L st n h ce sl) : xV F pc L (.int x :: st) n h ce sl := by
  intro p e s m args below meth c C H locs ls hH hS hl
  exact lv_if_lt C.1 C.2.1 hd ht (fun q => kt q p e s m args below meth c C H locs ls hH hS hl) (fun q => kf q p e s m args below meth c C H locs ls hH hS hl)
theorem x_icmp_lt {x y : Int32} {off : Int} (tgt : Nat) (hd : decode F.2.1.2.1 pc = .ok (.if_icmp .lt off, 3)) (ht : (pc : Int) + off = (tgt : Int)) (kt : x < y → xV F tgt L st n h ce sl) (kf : ¬ (x < y) → xV F (pc + 3) L st n h ce sl) : xV F pc L (.int y :: .int x :: st) n h ce sl := by
  intro p e s m args below meth c C H locs ls hH hS hl
  exact lv_icmp_lt C.1 C.2.1 hd ht (fun q => kt q p e s m args below meth c C H locs ls hH hS hl) (fun q => kf q p e s m args below meth c C H locs ls hH hS hl)
theorem x_if_ge {x : Int32} {off : Int} (tgt : Nat) (hd : decode F.2.1.2.1 pc = .ok (.ifCond .ge off, 3)) (ht : (pc : Int) + off = (tgt : Int)) (kt : 0 ≤ x → xV F tgt L st n h ce sl) (kf : ¬ (0 ≤ x) → xV F (pc + 3) L st n h ce sl) : xV F pc L (.int x :: st) n h ce sl := by
  intro p e s m args below meth c C H locs ls hH hS hl
  exact lv_if_ge C.1 C.2.1 hd ht (fun q => kt q p e s m args below meth c C H locs ls hH hS hl) (fun q => kf q p e s m args below meth c C H locs ls hH hS hl)
theorem x_icmp_ge {x y : Int32} {off : Int} (tgt : Nat) (hd : decode F.2.1.2.1 pc = .ok (.if_icmp .ge off, 3)) (ht : (pc : Int) + off = (tgt : Int)) (kt : y ≤ x → xV F tgt L st n h ce sl) (kf : ¬ (y ≤ x) → xV F (pc + 3) L st n h ce sl) : xV F pc L (.int y :: .int x :: st) n h ce sl := by
  intro p e s m args below meth c C H locs ls hH hS hl
  exact lv_icmp_ge C.1 C.2.1 hd ht (fun q => kt q p e s m args below meth c C H locs ls hH hS hl) (fun q => kf q p e s m args below meth c C H locs ls hH hS hl)
theorem x_if_gt {x : Int32} {off : Int} (tgt : Nat) (hd : decode F.2.1.2.1 pc = .ok (.ifCond .gt off, 3)) (ht : (pc : Int) + off = (tgt : Int)) (kt : 0 < x → xV F tgt L st n h ce sl) (kf : ¬ (0 < x) → xV F (pc + 3) L st n h ce sl) : xV F pc L (.int x :: st) n h ce sl := by
  intro p e s m args below meth c C H locs ls hH hS hl
  exact lv_if_gt C.1 C.2.1 hd ht (fun q => kt q p e s m args below meth c C H locs ls hH hS hl) (fun q => kf q p e s m args below meth c C H locs ls hH hS hl)
theorem x_icmp_gt {x y : Int32} {off : Int} (tgt : Nat) (hd : decode F.2.1.2.1 pc = .ok (.if_icmp .gt off, 3)) (ht : (pc : Int) + off = (tgt : Int)) (kt : y < x → xV F tgt L st n h ce sl) (kf : ¬ (y < x) → xV F (pc + 3) L st n h ce sl) : xV F pc L (.int y :: .int x :: st) n h ce sl := by
  intro p e s m args below meth c C H locs ls hH hS hl
  exact lv_icmp_gt C.1 C.2.1 hd ht (fun q => kt q p e s m args below meth c C H locs ls hH hS hl) (fun q => kf q p e s m args below meth c C H locs ls hH hS hl)
theorem x_if_le {x : Int32} {off : Int} (tgt : Nat) (hd : decode F.2.1.2.1 pc = .ok (.ifCond .le off, 3)) (ht : (pc : Int) + off = (tgt : Int)) (kt : x ≤ 0 → xV F tgt L st n h ce sl) (kf : ¬ (x ≤ 0) → xV F (pc + 3) L st n h ce sl) : xV F pc L (.int x :: st) n h ce sl := by
  intro p e s m args below meth c C H locs ls hH hS hl
  exact lv_if_le C.1 C.2.1 hd ht (fun q => kt q p e s m args below meth c C H locs ls hH hS hl) (fun q => kf q p e s m args below meth c C H locs ls hH hS hl)
theorem x_icmp_le {x y : Int32} {off : Int} (tgt : Nat) (hd : decode F.2.1.2.1 pc = .ok (.if_icmp .le off, 3)) (ht : (pc : Int) + off = (tgt : Int)) (kt : x ≤ y → xV F tgt L st n h ce sl) (kf : ¬ (x ≤ y) → xV F (pc + 3) L st n h ce sl) : xV F pc L (.int y :: .int x :: st) n h ce sl := by
  intro p e s m args below meth c C H locs ls hH hS hl
  exact lv_icmp_le C.1 C.2.1 hd ht (fun q => kt q p e s m args below meth c C H locs ls hH hS hl) (fun q => kf q p e s m args below meth c C H locs ls hH hS hl)
theorem x_goto {off : Int} (tgt : Nat) (hd : decode F.2.1.2.1 pc = .ok (.goto off, 3)) (ht : (pc : Int) + off = (tgt : Int)) (k : xV F tgt L st n h ce sl) : xV F pc L st n h ce sl := by
  intro p e s m args below meth c C H locs ls hH hS hl
  exact lv_goto C.1 C.2.1 hd ht (k p e s m args below meth c C H locs ls hH hS hl)
theorem x_ifnull_r {a : Nat} {off : Int} (hd : decode F.2.1.2.1 pc = .ok (.ifnull off, 3)) (k : xV F (pc + 3) L st n h ce sl) : xV F pc L (.ref a :: st) n h ce sl := by
  intro p e s m args below meth c C H locs ls hH hS hl
  exact lv_ifnull C.1 C.2.1 hd (k p e s m args below meth c C H locs ls hH hS hl)
theorem x_ifnull_n {off : Int} (tgt : Nat) (hd : decode F.2.1.2.1 pc = .ok (.ifnull off, 3)) (ht : (pc : Int) + off = (tgt : Int)) (k : xV F tgt L st n h ce sl) : xV F pc L (.null :: st) n h ce sl := by
  intro p e s m args below meth c C H locs ls hH hS hl
  exact lv_ifnullN C.1 C.2.1 hd ht (k p e s m args below meth c C H locs ls hH hS hl)
theorem x_ifnonnull_r {a : Nat} {off : Int} (tgt : Nat) (hd : decode F.2.1.2.1 pc = .ok (.ifnonnull off, 3)) (ht : (pc : Int) + off = (tgt : Int)) (k : xV F tgt L st n h ce sl) : xV F pc L (.ref a :: st) n h ce sl := by
  intro p e s m args below meth c C H locs ls hH hS hl
  exact lv_ifnonnull C.1 C.2.1 hd ht (k p e s m args below meth c C H locs ls hH hS hl)
theorem x_ifnonnull_n {off : Int} (hd : decode F.2.1.2.1 pc = .ok (.ifnonnull off, 3)) (k : xV F (pc + 3) L st n h ce sl) : xV F pc L (.null :: st) n h ce sl := by
  intro p e s m args below meth c C H locs ls hH hS hl
  exact lv_ifnonnullN C.1 C.2.1 hd (k p e s m args below meth c C H locs ls hH hS hl)
theorem x_tableIn {dflt lo hi : Int} {offs : Array Int} {len : Nat} {x : Int32} {off : Int} (tgt : Nat) (hd : decode F.2.1.2.1 pc = .ok (.tableswitch dflt lo hi offs, len)) (h1 : ¬ x.toInt < lo) (h2 : ¬ hi < x.toInt) (ho : offs[(x.toInt - lo).toNat]? = some off) (ht : (pc : Int) + off = (tgt : Int)) (k : xV F tgt L st n h ce sl) : xV F pc L (.int x :: st) n h ce sl := by
  intro p e s m args below meth c C H locs ls hH hS hl
  exact lv_tableIn C.1 C.2.1 hd h1 h2 ho ht (k p e s m args below meth c C H locs ls hH hS hl)
theorem x_tableOut {dflt lo hi : Int} {offs : Array Int} {len : Nat} {x : Int32} (tgt : Nat) (hd : decode F.2.1.2.1 pc = .ok (.tableswitch dflt lo hi offs, len)) (hx : x.toInt < lo ∨ hi < x.toInt) (ht : (pc : Int) + dflt = (tgt : Int)) (k : xV F tgt L st n h ce sl) : xV F pc L (.int x :: st) n h ce sl := by
  intro p e s m args below meth c C H locs ls hH hS hl
  exact lv_tableOut C.1 C.2.1 hd hx ht (k p e s m args below meth c C H locs ls hH hS hl)
theorem x_lookup {dflt : Int} {ps : Array (Int × Int)} {len : Nat} {x : Int32} {off : Int} (tgt : Nat) (hd : decode F.2.1.2.1 pc = .ok (.lookupswitch dflt ps, len)) (hp : (ps.toList.zip (ps.toList.drop 1)).all (fun (a, next) => a.1 < next.1) = true) (ho : Op.lookupswitch.offset ps.toList dflt x.toInt = off) (ht : (pc : Int) + off = (tgt : Int)) (k : xV F tgt L st n h ce sl) : xV F pc L (.int x :: st) n h ce sl := by
  intro p e s m args below meth c C H locs ls hH hS hl
  exact lv_lookup C.1 C.2.1 hd hp ho ht (k p e s m args below meth c C H locs ls hH hS hl)

theorem xL.put1 {ls ls' : Array Slot} {i : Nat} {v : Value} (hl : xL F ls L) (hi : i < L.length) (hp : ∀ w : Value, 0 < i → L[i - 1]? = some (some w) → w.category = 1) (hr : F.2.2.2.2.2.all (fun q => !(q.1 == i) && !(q.1 + 1 == i)) = true)
    (h' : lv_has ls' F.2.1.2.2.1 ((i, rv F.1.2.2.2 v) :: (F.2.2.2.2.2 ++ lvE F.1.2.2.2 0 L).filter (fun q => !(q.1 == i) && !(q.1 + 1 == i && q.2.category == 2)))) : xL F ls' (L.set i (some v)) := by
  refine ⟨h'.1, h'.2.1, fun q hq => h'.2.2 q ?_⟩
  rcases List.mem_append.mp hq with h1 | h1
  · have h2 := List.all_eq_true.mp hr q h1
    refine List.mem_cons_of_mem _ (List.mem_filter.mpr ⟨List.mem_append_left _ h1, ?_⟩)
    simp only [Bool.and_eq_true] at h2
    simp only [Bool.and_eq_true]
    refine ⟨h2.1, ?_⟩
    have h3 := h2.2
    simp only [Bool.not_eq_true'] at h3 ⊢
    rw [h3]
    rfl
  · obtain ⟨j, w, h2, rfl⟩ := lvE_of _ _ _ _ h1
    rw [Nat.zero_add]
    by_cases hj : j = i
    · subst hj
      rw [List.getElem?_set_self hi] at h2
      cases h2
      exact List.mem_cons_self
    · rw [List.getElem?_set_ne (fun z => hj z.symm)] at h2
      refine List.mem_cons_of_mem _ (List.mem_filter.mpr ⟨List.mem_append_right _ (by have := lvE_in F.1.2.2.2 0 L j w h2; rwa [Nat.zero_add] at this), ?_⟩)
      simp only [Bool.and_eq_true, Bool.not_eq_true']
      refine ⟨beq_false_of_ne hj, ?_⟩
      by_cases hj1 : j + 1 = i
      · have := hp w (by omega) (by rw [← hj1]; exact h2)
        rw [rv_cat, this]
        simp
      · rw [beq_false_of_ne hj1]
        rfl
theorem xL.put2 {ls ls' : Array Slot} {i : Nat} {v : Value} (hl : xL F ls L) (hi : i + 1 < L.length) (hp : ∀ w : Value, 0 < i → L[i - 1]? = some (some w) → w.category = 1) (hr : F.2.2.2.2.2.all (fun q => !(q.1 == i) && !(q.1 + 1 == i) && !(q.1 == i + 1)) = true)
    (h' : lv_has ls' F.2.1.2.2.1 ((i, rv F.1.2.2.2 v) :: (F.2.2.2.2.2 ++ lvE F.1.2.2.2 0 L).filter (fun q => !(q.1 == i) && (!(q.1 == i + 1) && !(q.1 + 1 == i && q.2.category == 2))))) : xL F ls' ((L.set i (some v)).set (i + 1) none) := by
  refine ⟨h'.1, h'.2.1, fun q hq => h'.2.2 q ?_⟩
  rcases List.mem_append.mp hq with h1 | h1
  · have h2 := List.all_eq_true.mp hr q h1
    refine List.mem_cons_of_mem _ (List.mem_filter.mpr ⟨List.mem_append_left _ h1, ?_⟩)
    simp only [Bool.and_eq_true] at h2
    simp only [Bool.and_eq_true]
    refine ⟨h2.1.1, h2.2, ?_⟩
    have h3 := h2.1.2
    simp only [Bool.not_eq_true'] at h3 ⊢
    rw [h3]
    rfl
  · obtain ⟨j, w, h2, rfl⟩ := lvE_of _ _ _ _ h1
    rw [Nat.zero_add]
    by_cases hj2 : j = i + 1
    · subst hj2
      rw [List.getElem?_set_self (by rw [List.length_set]; exact hi)] at h2
      cases h2
    rw [List.getElem?_set_ne (fun z => hj2 z.symm)] at h2
    by_cases hj : j = i
    · subst hj
      rw [List.getElem?_set_self (by omega)] at h2
      cases h2
      exact List.mem_cons_self
    · rw [List.getElem?_set_ne (fun z => hj z.symm)] at h2
      refine List.mem_cons_of_mem _ (List.mem_filter.mpr ⟨List.mem_append_right _ (by have := lvE_in F.1.2.2.2 0 L j w h2; rwa [Nat.zero_add] at this), ?_⟩)
      simp only [Bool.and_eq_true, Bool.not_eq_true']
      refine ⟨beq_false_of_ne hj, beq_false_of_ne hj2, ?_⟩
      by_cases hj1 : j + 1 = i
      · have := hp w (by omega) (by rw [← hj1]; exact h2)
        rw [rv_cat, this]
        simp
      · rw [beq_false_of_ne hj1]
        rfl
/-- a local that is no long -/
def oc1 (a : Option Value) : Bool := match a with
  | none => true
  | some v => v.category == 1
theorem oc1_of {a : Option Value} (h : oc1 a = true) : ∀ w : Value, a = some w → w.category = 1 := by
  intro w hw
  subst hw
  simpa [oc1] using h

theorem y_iload_n {i : Nat} {j : Fin 4} {x : Int32} (hi : L[i]? = some (some (.int x))) (hd : decode F.2.1.2.1 pc = .ok (.iload_n j, 1)) (hj : (j : Nat) = i) (k : xV F (pc + 1) L (.int x :: st) n h ce sl) : xV F pc L st n h ce sl := by
  intro p e s m args below meth c C H locs ls hH hS hl
  exact lv_iload_n C.1 C.2.1 hd hj (xL.at hl hi) (k p e s m args below meth c C H locs ls hH hS hl)
theorem y_iload_w {i : Nat} {x : Int32} (hi : L[i]? = some (some (.int x))) (hd : decode F.2.1.2.1 pc = .ok (.iload i, 2)) (k : xV F (pc + 2) L (.int x :: st) n h ce sl) : xV F pc L st n h ce sl := by
  intro p e s m args below meth c C H locs ls hH hS hl
  exact lv_iload C.1 C.2.1 hd (xL.at hl hi) (k p e s m args below meth c C H locs ls hH hS hl)
theorem y_lload_n {i : Nat} {j : Fin 4} {x : Int64} (hi : L[i]? = some (some (.long x))) (hd : decode F.2.1.2.1 pc = .ok (.lload_n j, 1)) (hj : (j : Nat) = i) (k : xV F (pc + 1) L (.long x :: st) n h ce sl) : xV F pc L st n h ce sl := by
  intro p e s m args below meth c C H locs ls hH hS hl
  exact lv_lload_n C.1 C.2.1 hd hj (xL.at hl hi) (k p e s m args below meth c C H locs ls hH hS hl)
theorem y_lload_w {i : Nat} {x : Int64} (hi : L[i]? = some (some (.long x))) (hd : decode F.2.1.2.1 pc = .ok (.lload i, 2)) (k : xV F (pc + 2) L (.long x :: st) n h ce sl) : xV F pc L st n h ce sl := by
  intro p e s m args below meth c C H locs ls hH hS hl
  exact lv_lload C.1 C.2.1 hd (xL.at hl hi) (k p e s m args below meth c C H locs ls hH hS hl)
theorem y_aload_n {i : Nat} {j : Fin 4} {x : Nat} (hi : L[i]? = some (some (.ref x))) (hd : decode F.2.1.2.1 pc = .ok (.aload_n j, 1)) (hj : (j : Nat) = i) (k : xV F (pc + 1) L (.ref x :: st) n h ce sl) : xV F pc L st n h ce sl := by
  intro p e s m args below meth c C H locs ls hH hS hl
  exact lv_aload_n C.1 C.2.1 hd hj (xL.at hl hi) (k p e s m args below meth c C H locs ls hH hS hl)
theorem y_aload_w {i : Nat} {x : Nat} (hi : L[i]? = some (some (.ref x))) (hd : decode F.2.1.2.1 pc = .ok (.aload i, 2)) (k : xV F (pc + 2) L (.ref x :: st) n h ce sl) : xV F pc L st n h ce sl := by
  intro p e s m args below meth c C H locs ls hH hS hl
  exact lv_aload C.1 C.2.1 hd (xL.at hl hi) (k p e s m args below meth c C H locs ls hH hS hl)
theorem y_aloadN_n {i : Nat} {j : Fin 4} (hi : L[i]? = some (some .null)) (hd : decode F.2.1.2.1 pc = .ok (.aload_n j, 1)) (hj : (j : Nat) = i) (k : xV F (pc + 1) L (.null :: st) n h ce sl) : xV F pc L st n h ce sl := by
  intro p e s m args below meth c C H locs ls hH hS hl
  exact lv_aload_nN C.1 C.2.1 hd hj (xL.at hl hi) (k p e s m args below meth c C H locs ls hH hS hl)
theorem y_aloadN_w {i : Nat} (hi : L[i]? = some (some .null)) (hd : decode F.2.1.2.1 pc = .ok (.aload i, 2)) (k : xV F (pc + 2) L (.null :: st) n h ce sl) : xV F pc L st n h ce sl := by
  intro p e s m args below meth c C H locs ls hH hS hl
  exact lv_aloadN C.1 C.2.1 hd (xL.at hl hi) (k p e s m args below meth c C H locs ls hH hS hl)
theorem y_istore_n {i : Nat} {j : Fin 4} {x : Int32} (hd : decode F.2.1.2.1 pc = .ok (.istore_n j, 1)) (hj : (j : Nat) = i) (hn : i < F.2.1.2.2.1) (hi : i < L.length) (hp : ∀ w : Value, 0 < i → L[i - 1]? = some (some w) → w.category = 1) (hr : F.2.2.2.2.2.all (fun q => !(q.1 == i) && !(q.1 + 1 == i)) = true) (k : xV F (pc + 1) (L.set i (some (.int x))) st n h ce sl) : xV F pc L (.int x :: st) n h ce sl := by
  intro p e s m args below meth c C H locs ls hH hS hl
  exact lv_istore_n C.1 C.2.1 hd hj hl hn rfl (fun ls' hl' => (k p e s m args below meth c C H locs ls' hH hS (xL.put1 hl hi hp hr hl')))
theorem y_istore_w {i : Nat} {x : Int32} (hd : decode F.2.1.2.1 pc = .ok (.istore i, 2)) (hn : i < F.2.1.2.2.1) (hi : i < L.length) (hp : ∀ w : Value, 0 < i → L[i - 1]? = some (some w) → w.category = 1) (hr : F.2.2.2.2.2.all (fun q => !(q.1 == i) && !(q.1 + 1 == i)) = true) (k : xV F (pc + 2) (L.set i (some (.int x))) st n h ce sl) : xV F pc L (.int x :: st) n h ce sl := by
  intro p e s m args below meth c C H locs ls hH hS hl
  exact lv_istore C.1 C.2.1 hd hl hn rfl (fun ls' hl' => (k p e s m args below meth c C H locs ls' hH hS (xL.put1 hl hi hp hr hl')))
theorem y_lstore_n {i : Nat} {j : Fin 4} {x : Int64} (hd : decode F.2.1.2.1 pc = .ok (.lstore_n j, 1)) (hj : (j : Nat) = i) (hn : i + 1 < F.2.1.2.2.1) (hi : i + 1 < L.length) (hp : ∀ w : Value, 0 < i → L[i - 1]? = some (some w) → w.category = 1) (hr : F.2.2.2.2.2.all (fun q => !(q.1 == i) && !(q.1 + 1 == i) && !(q.1 == i + 1)) = true) (k : xV F (pc + 1) ((L.set i (some (.long x))).set (i + 1) none) st n h ce sl) : xV F pc L (.long x :: st) n h ce sl := by
  intro p e s m args below meth c C H locs ls hH hS hl
  exact lv_lstore_n C.1 C.2.1 hd hj hl hn rfl (fun ls' hl' => (k p e s m args below meth c C H locs ls' hH hS (xL.put2 hl hi hp hr hl')))
theorem y_lstore_w {i : Nat} {x : Int64} (hd : decode F.2.1.2.1 pc = .ok (.lstore i, 2)) (hn : i + 1 < F.2.1.2.2.1) (hi : i + 1 < L.length) (hp : ∀ w : Value, 0 < i → L[i - 1]? = some (some w) → w.category = 1) (hr : F.2.2.2.2.2.all (fun q => !(q.1 == i) && !(q.1 + 1 == i) && !(q.1 == i + 1)) = true) (k : xV F (pc + 2) ((L.set i (some (.long x))).set (i + 1) none) st n h ce sl) : xV F pc L (.long x :: st) n h ce sl := by
  intro p e s m args below meth c C H locs ls hH hS hl
  exact lv_lstore C.1 C.2.1 hd hl hn rfl (fun ls' hl' => (k p e s m args below meth c C H locs ls' hH hS (xL.put2 hl hi hp hr hl')))
theorem y_astore_n {i : Nat} {j : Fin 4} {x : Nat} (hd : decode F.2.1.2.1 pc = .ok (.astore_n j, 1)) (hj : (j : Nat) = i) (hn : i < F.2.1.2.2.1) (hi : i < L.length) (hp : ∀ w : Value, 0 < i → L[i - 1]? = some (some w) → w.category = 1) (hr : F.2.2.2.2.2.all (fun q => !(q.1 == i) && !(q.1 + 1 == i)) = true) (k : xV F (pc + 1) (L.set i (some (.ref x))) st n h ce sl) : xV F pc L (.ref x :: st) n h ce sl := by
  intro p e s m args below meth c C H locs ls hH hS hl
  exact lv_astore_n C.1 C.2.1 hd hj hl hn rfl (fun ls' hl' => (k p e s m args below meth c C H locs ls' hH hS (xL.put1 hl hi hp hr hl')))
theorem y_astore_w {i : Nat} {x : Nat} (hd : decode F.2.1.2.1 pc = .ok (.astore i, 2)) (hn : i < F.2.1.2.2.1) (hi : i < L.length) (hp : ∀ w : Value, 0 < i → L[i - 1]? = some (some w) → w.category = 1) (hr : F.2.2.2.2.2.all (fun q => !(q.1 == i) && !(q.1 + 1 == i)) = true) (k : xV F (pc + 2) (L.set i (some (.ref x))) st n h ce sl) : xV F pc L (.ref x :: st) n h ce sl := by
  intro p e s m args below meth c C H locs ls hH hS hl
  exact lv_astore C.1 C.2.1 hd hl hn rfl (fun ls' hl' => (k p e s m args below meth c C H locs ls' hH hS (xL.put1 hl hi hp hr hl')))
theorem y_astoreN_n {i : Nat} {j : Fin 4} (hd : decode F.2.1.2.1 pc = .ok (.astore_n j, 1)) (hj : (j : Nat) = i) (hn : i < F.2.1.2.2.1) (hi : i < L.length) (hp : ∀ w : Value, 0 < i → L[i - 1]? = some (some w) → w.category = 1) (hr : F.2.2.2.2.2.all (fun q => !(q.1 == i) && !(q.1 + 1 == i)) = true) (k : xV F (pc + 1) (L.set i (some (.null))) st n h ce sl) : xV F pc L (.null :: st) n h ce sl := by
  intro p e s m args below meth c C H locs ls hH hS hl
  exact lv_astore_nN C.1 C.2.1 hd hj hl hn rfl (fun ls' hl' => (k p e s m args below meth c C H locs ls' hH hS (xL.put1 hl hi hp hr hl')))
theorem y_astoreN_w {i : Nat} (hd : decode F.2.1.2.1 pc = .ok (.astore i, 2)) (hn : i < F.2.1.2.2.1) (hi : i < L.length) (hp : ∀ w : Value, 0 < i → L[i - 1]? = some (some w) → w.category = 1) (hr : F.2.2.2.2.2.all (fun q => !(q.1 == i) && !(q.1 + 1 == i)) = true) (k : xV F (pc + 2) (L.set i (some (.null))) st n h ce sl) : xV F pc L (.null :: st) n h ce sl := by
  intro p e s m args below meth c C H locs ls hH hS hl
  exact lv_astoreN C.1 C.2.1 hd hl hn rfl (fun ls' hl' => (k p e s m args below meth c C H locs ls' hH hS (xL.put1 hl hi hp hr hl')))
theorem y_iinc {i : Nat} {z : Int} {x v : Int32} (hx : L[i]? = some (some (.int x))) (hd : decode F.2.1.2.1 pc = .ok (.iinc i z, 3)) (hv : x + Int32.ofInt z = v) (hn : i < F.2.1.2.2.1) (hp : ∀ w : Value, 0 < i → L[i - 1]? = some (some w) → w.category = 1) (hr : F.2.2.2.2.2.all (fun q => !(q.1 == i) && !(q.1 + 1 == i)) = true) (k : xV F (pc + 3) (L.set i (some (.int v))) st n h ce sl) : xV F pc L st n h ce sl := by
  intro p e s m args below meth c C H locs ls hH hS hl
  have hi : i < L.length := (List.getElem?_eq_some_iff.mp hx).1
  have hm : (i, Value.int x) ∈ F.2.2.2.2.2 ++ lvE F.1.2.2.2 0 L := List.mem_append_right _ (by have := lvE_in F.1.2.2.2 0 L i _ hx; rw [Nat.zero_add] at this; exact this)
  obtain ⟨kk, hkk⟩ := List.getElem?_of_mem hm
  exact lv_iinc C.1 C.2.1 hd hl hkk hv hn rfl (fun ls' hl' => (k p e s m args below meth c C H locs ls' hH hS (xL.put1 hl hi hp hr hl')))
end XV
section XP
variable {F : vx_F} {pc : Nat} {st : List Value} {n : Nat} {h : vx_H} {ce sl : Nat}
theorem x_iload0 {tl : List (Option Value)} {x : Int32} (hd : decode F.2.1.2.1 pc = .ok (.iload_n 0, 1)) (k : xV F (pc + 1) (some (.int x) :: tl) (.int x :: st) n h ce sl) : xV F pc (some (.int x) :: tl) st n h ce sl := y_iload_n (i := 0) rfl hd rfl k
theorem x_lload0 {tl : List (Option Value)} {x : Int64} (hd : decode F.2.1.2.1 pc = .ok (.lload_n 0, 1)) (k : xV F (pc + 1) (some (.long x) :: tl) (.long x :: st) n h ce sl) : xV F pc (some (.long x) :: tl) st n h ce sl := y_lload_n (i := 0) rfl hd rfl k
theorem x_aload0 {tl : List (Option Value)} {x : Nat} (hd : decode F.2.1.2.1 pc = .ok (.aload_n 0, 1)) (k : xV F (pc + 1) (some (.ref x) :: tl) (.ref x :: st) n h ce sl) : xV F pc (some (.ref x) :: tl) st n h ce sl := y_aload_n (i := 0) rfl hd rfl k
theorem x_aloadN0 {tl : List (Option Value)} (hd : decode F.2.1.2.1 pc = .ok (.aload_n 0, 1)) (k : xV F (pc + 1) (some .null :: tl) (.null :: st) n h ce sl) : xV F pc (some .null :: tl) st n h ce sl := y_aloadN_n (i := 0) rfl hd rfl k
theorem x_istore0 {tl : List (Option Value)} {b : Option Value} {x : Int32} (hd : decode F.2.1.2.1 pc = .ok (.istore_n 0, 1)) (hn : Nat.ble 1 F.2.1.2.2.1 = true) (hr : F.2.2.2.2.2.all (fun q => !(q.1 == 0) && !(q.1 + 1 == 0)) = true) (k : xV F (pc + 1) (some (.int x) :: tl) st n h ce sl) : xV F pc (b :: tl) (.int x :: st) n h ce sl := y_istore_n (i := 0) hd rfl (Nat.le_of_ble_eq_true hn) (by simp) (fun w h0 => absurd h0 (Nat.lt_irrefl 0)) hr k
theorem x_astore0 {tl : List (Option Value)} {b : Option Value} {x : Nat} (hd : decode F.2.1.2.1 pc = .ok (.astore_n 0, 1)) (hn : Nat.ble 1 F.2.1.2.2.1 = true) (hr : F.2.2.2.2.2.all (fun q => !(q.1 == 0) && !(q.1 + 1 == 0)) = true) (k : xV F (pc + 1) (some (.ref x) :: tl) st n h ce sl) : xV F pc (b :: tl) (.ref x :: st) n h ce sl := y_astore_n (i := 0) hd rfl (Nat.le_of_ble_eq_true hn) (by simp) (fun w h0 => absurd h0 (Nat.lt_irrefl 0)) hr k
theorem x_astoreN0 {tl : List (Option Value)} {b : Option Value} (hd : decode F.2.1.2.1 pc = .ok (.astore_n 0, 1)) (hn : Nat.ble 1 F.2.1.2.2.1 = true) (hr : F.2.2.2.2.2.all (fun q => !(q.1 == 0) && !(q.1 + 1 == 0)) = true) (k : xV F (pc + 1) (some (.null) :: tl) st n h ce sl) : xV F pc (b :: tl) (.null :: st) n h ce sl := y_astoreN_n (i := 0) hd rfl (Nat.le_of_ble_eq_true hn) (by simp) (fun w h0 => absurd h0 (Nat.lt_irrefl 0)) hr k
theorem x_lstore0 {tl : List (Option Value)} {b b2 : Option Value} {x : Int64} (hd : decode F.2.1.2.1 pc = .ok (.lstore_n 0, 1)) (hn : Nat.ble 2 F.2.1.2.2.1 = true) (hr : F.2.2.2.2.2.all (fun q => !(q.1 == 0) && !(q.1 + 1 == 0) && !(q.1 == 0 + 1)) = true) (k : xV F (pc + 1) (some (.long x) :: none :: tl) st n h ce sl) : xV F pc (b :: b2 :: tl) (.long x :: st) n h ce sl := y_lstore_n (i := 0) hd rfl (Nat.le_of_ble_eq_true hn) (by simp) (fun w h0 => absurd h0 (Nat.lt_irrefl 0)) hr k
theorem x_iinc0 {tl : List (Option Value)} {x : Int32} {z : Int} (v : Int32) (hd : decode F.2.1.2.1 pc = .ok (.iinc 0 z, 3)) (hv : x + Int32.ofInt z = v) (hn : Nat.ble 1 F.2.1.2.2.1 = true) (hr : F.2.2.2.2.2.all (fun q => !(q.1 == 0) && !(q.1 + 1 == 0)) = true) (k : xV F (pc + 3) (some (.int v) :: tl) st n h ce sl) : xV F pc (some (.int x) :: tl) st n h ce sl := y_iinc (i := 0) rfl hd hv (Nat.le_of_ble_eq_true hn) (fun w h0 => absurd h0 (Nat.lt_irrefl 0)) hr k
theorem x_iload1 {a0 : Option Value} {tl : List (Option Value)} {x : Int32} (hd : decode F.2.1.2.1 pc = .ok (.iload_n 1, 1)) (k : xV F (pc + 1) (a0 :: some (.int x) :: tl) (.int x :: st) n h ce sl) : xV F pc (a0 :: some (.int x) :: tl) st n h ce sl := y_iload_n (i := 1) rfl hd rfl k
theorem x_lload1 {a0 : Option Value} {tl : List (Option Value)} {x : Int64} (hd : decode F.2.1.2.1 pc = .ok (.lload_n 1, 1)) (k : xV F (pc + 1) (a0 :: some (.long x) :: tl) (.long x :: st) n h ce sl) : xV F pc (a0 :: some (.long x) :: tl) st n h ce sl := y_lload_n (i := 1) rfl hd rfl k
theorem x_aload1 {a0 : Option Value} {tl : List (Option Value)} {x : Nat} (hd : decode F.2.1.2.1 pc = .ok (.aload_n 1, 1)) (k : xV F (pc + 1) (a0 :: some (.ref x) :: tl) (.ref x :: st) n h ce sl) : xV F pc (a0 :: some (.ref x) :: tl) st n h ce sl := y_aload_n (i := 1) rfl hd rfl k
theorem x_aloadN1 {a0 : Option Value} {tl : List (Option Value)} (hd : decode F.2.1.2.1 pc = .ok (.aload_n 1, 1)) (k : xV F (pc + 1) (a0 :: some .null :: tl) (.null :: st) n h ce sl) : xV F pc (a0 :: some .null :: tl) st n h ce sl := y_aloadN_n (i := 1) rfl hd rfl k
theorem x_istore1 {a0 : Option Value} {tl : List (Option Value)} {b : Option Value} {x : Int32} (hd : decode F.2.1.2.1 pc = .ok (.istore_n 1, 1)) (hn : Nat.ble 2 F.2.1.2.2.1 = true) (hp : oc1 a0 = true) (hr : F.2.2.2.2.2.all (fun q => !(q.1 == 1) && !(q.1 + 1 == 1)) = true) (k : xV F (pc + 1) (a0 :: some (.int x) :: tl) st n h ce sl) : xV F pc (a0 :: b :: tl) (.int x :: st) n h ce sl := y_istore_n (i := 1) hd rfl (Nat.le_of_ble_eq_true hn) (by simp) (fun w _ h1 => oc1_of hp w (Option.some.inj h1)) hr k
theorem x_astore1 {a0 : Option Value} {tl : List (Option Value)} {b : Option Value} {x : Nat} (hd : decode F.2.1.2.1 pc = .ok (.astore_n 1, 1)) (hn : Nat.ble 2 F.2.1.2.2.1 = true) (hp : oc1 a0 = true) (hr : F.2.2.2.2.2.all (fun q => !(q.1 == 1) && !(q.1 + 1 == 1)) = true) (k : xV F (pc + 1) (a0 :: some (.ref x) :: tl) st n h ce sl) : xV F pc (a0 :: b :: tl) (.ref x :: st) n h ce sl := y_astore_n (i := 1) hd rfl (Nat.le_of_ble_eq_true hn) (by simp) (fun w _ h1 => oc1_of hp w (Option.some.inj h1)) hr k
theorem x_astoreN1 {a0 : Option Value} {tl : List (Option Value)} {b : Option Value} (hd : decode F.2.1.2.1 pc = .ok (.astore_n 1, 1)) (hn : Nat.ble 2 F.2.1.2.2.1 = true) (hp : oc1 a0 = true) (hr : F.2.2.2.2.2.all (fun q => !(q.1 == 1) && !(q.1 + 1 == 1)) = true) (k : xV F (pc + 1) (a0 :: some (.null) :: tl) st n h ce sl) : xV F pc (a0 :: b :: tl) (.null :: st) n h ce sl := y_astoreN_n (i := 1) hd rfl (Nat.le_of_ble_eq_true hn) (by simp) (fun w _ h1 => oc1_of hp w (Option.some.inj h1)) hr k
theorem x_lstore1 {a0 : Option Value} {tl : List (Option Value)} {b b2 : Option Value} {x : Int64} (hd : decode F.2.1.2.1 pc = .ok (.lstore_n 1, 1)) (hn : Nat.ble 3 F.2.1.2.2.1 = true) (hp : oc1 a0 = true) (hr : F.2.2.2.2.2.all (fun q => !(q.1 == 1) && !(q.1 + 1 == 1) && !(q.1 == 1 + 1)) = true) (k : xV F (pc + 1) (a0 :: some (.long x) :: none :: tl) st n h ce sl) : xV F pc (a0 :: b :: b2 :: tl) (.long x :: st) n h ce sl := y_lstore_n (i := 1) hd rfl (Nat.le_of_ble_eq_true hn) (by simp) (fun w _ h1 => oc1_of hp w (Option.some.inj h1)) hr k
theorem x_iinc1 {a0 : Option Value} {tl : List (Option Value)} {x : Int32} {z : Int} (v : Int32) (hd : decode F.2.1.2.1 pc = .ok (.iinc 1 z, 3)) (hv : x + Int32.ofInt z = v) (hn : Nat.ble 2 F.2.1.2.2.1 = true) (hp : oc1 a0 = true) (hr : F.2.2.2.2.2.all (fun q => !(q.1 == 1) && !(q.1 + 1 == 1)) = true) (k : xV F (pc + 3) (a0 :: some (.int v) :: tl) st n h ce sl) : xV F pc (a0 :: some (.int x) :: tl) st n h ce sl := y_iinc (i := 1) rfl hd hv (Nat.le_of_ble_eq_true hn) (fun w _ h1 => oc1_of hp w (Option.some.inj h1)) hr k
theorem x_iload2 {a0 a1 : Option Value} {tl : List (Option Value)} {x : Int32} (hd : decode F.2.1.2.1 pc = .ok (.iload_n 2, 1)) (k : xV F (pc + 1) (a0 :: a1 :: some (.int x) :: tl) (.int x :: st) n h ce sl) : xV F pc (a0 :: a1 :: some (.int x) :: tl) st n h ce sl := y_iload_n (i := 2) rfl hd rfl k
theorem x_lload2 {a0 a1 : Option Value} {tl : List (Option Value)} {x : Int64} (hd : decode F.2.1.2.1 pc = .ok (.lload_n 2, 1)) (k : xV F (pc + 1) (a0 :: a1 :: some (.long x) :: tl) (.long x :: st) n h ce sl) : xV F pc (a0 :: a1 :: some (.long x) :: tl) st n h ce sl := y_lload_n (i := 2) rfl hd rfl k
theorem x_aload2 {a0 a1 : Option Value} {tl : List (Option Value)} {x : Nat} (hd : decode F.2.1.2.1 pc = .ok (.aload_n 2, 1)) (k : xV F (pc + 1) (a0 :: a1 :: some (.ref x) :: tl) (.ref x :: st) n h ce sl) : xV F pc (a0 :: a1 :: some (.ref x) :: tl) st n h ce sl := y_aload_n (i := 2) rfl hd rfl k
theorem x_aloadN2 {a0 a1 : Option Value} {tl : List (Option Value)} (hd : decode F.2.1.2.1 pc = .ok (.aload_n 2, 1)) (k : xV F (pc + 1) (a0 :: a1 :: some .null :: tl) (.null :: st) n h ce sl) : xV F pc (a0 :: a1 :: some .null :: tl) st n h ce sl := y_aloadN_n (i := 2) rfl hd rfl k
theorem x_istore2 {a0 a1 : Option Value} {tl : List (Option Value)} {b : Option Value} {x : Int32} (hd : decode F.2.1.2.1 pc = .ok (.istore_n 2, 1)) (hn : Nat.ble 3 F.2.1.2.2.1 = true) (hp : oc1 a1 = true) (hr : F.2.2.2.2.2.all (fun q => !(q.1 == 2) && !(q.1 + 1 == 2)) = true) (k : xV F (pc + 1) (a0 :: a1 :: some (.int x) :: tl) st n h ce sl) : xV F pc (a0 :: a1 :: b :: tl) (.int x :: st) n h ce sl := y_istore_n (i := 2) hd rfl (Nat.le_of_ble_eq_true hn) (by simp) (fun w _ h1 => oc1_of hp w (Option.some.inj h1)) hr k
theorem x_astore2 {a0 a1 : Option Value} {tl : List (Option Value)} {b : Option Value} {x : Nat} (hd : decode F.2.1.2.1 pc = .ok (.astore_n 2, 1)) (hn : Nat.ble 3 F.2.1.2.2.1 = true) (hp : oc1 a1 = true) (hr : F.2.2.2.2.2.all (fun q => !(q.1 == 2) && !(q.1 + 1 == 2)) = true) (k : xV F (pc + 1) (a0 :: a1 :: some (.ref x) :: tl) st n h ce sl) : xV F pc (a0 :: a1 :: b :: tl) (.ref x :: st) n h ce sl := y_astore_n (i := 2) hd rfl (Nat.le_of_ble_eq_true hn) (by simp) (fun w _ h1 => oc1_of hp w (Option.some.inj h1)) hr k
theorem x_astoreN2 {a0 a1 : Option Value} {tl : List (Option Value)} {b : Option Value} (hd : decode F.2.1.2.1 pc = .ok (.astore_n 2, 1)) (hn : Nat.ble 3 F.2.1.2.2.1 = true) (hp : oc1 a1 = true) (hr : F.2.2.2.2.2.all (fun q => !(q.1 == 2) && !(q.1 + 1 == 2)) = true) (k : xV F (pc + 1) (a0 :: a1 :: some (.null) :: tl) st n h ce sl) : xV F pc (a0 :: a1 :: b :: tl) (.null :: st) n h ce sl := y_astoreN_n (i := 2) hd rfl (Nat.le_of_ble_eq_true hn) (by simp) (fun w _ h1 => oc1_of hp w (Option.some.inj h1)) hr k
theorem x_lstore2 {a0 a1 : Option Value} {tl : List (Option Value)} {b b2 : Option Value} {x : Int64} (hd : decode F.2.1.2.1 pc = .ok (.lstore_n 2, 1)) (hn : Nat.ble 4 F.2.1.2.2.1 = true) (hp : oc1 a1 = true) (hr : F.2.2.2.2.2.all (fun q => !(q.1 == 2) && !(q.1 + 1 == 2) && !(q.1 == 2 + 1)) = true) (k : xV F (pc + 1) (a0 :: a1 :: some (.long x) :: none :: tl) st n h ce sl) : xV F pc (a0 :: a1 :: b :: b2 :: tl) (.long x :: st) n h ce sl := y_lstore_n (i := 2) hd rfl (Nat.le_of_ble_eq_true hn) (by simp) (fun w _ h1 => oc1_of hp w (Option.some.inj h1)) hr k
theorem x_iinc2 {a0 a1 : Option Value} {tl : List (Option Value)} {x : Int32} {z : Int} (v : Int32) (hd : decode F.2.1.2.1 pc = .ok (.iinc 2 z, 3)) (hv : x + Int32.ofInt z = v) (hn : Nat.ble 3 F.2.1.2.2.1 = true) (hp : oc1 a1 = true) (hr : F.2.2.2.2.2.all (fun q => !(q.1 == 2) && !(q.1 + 1 == 2)) = true) (k : xV F (pc + 3) (a0 :: a1 :: some (.int v) :: tl) st n h ce sl) : xV F pc (a0 :: a1 :: some (.int x) :: tl) st n h ce sl := y_iinc (i := 2) rfl hd hv (Nat.le_of_ble_eq_true hn) (fun w _ h1 => oc1_of hp w (Option.some.inj h1)) hr k
theorem x_iload3 {a0 a1 a2 : Option Value} {tl : List (Option Value)} {x : Int32} (hd : decode F.2.1.2.1 pc = .ok (.iload_n 3, 1)) (k : xV F (pc + 1) (a0 :: a1 :: a2 :: some (.int x) :: tl) (.int x :: st) n h ce sl) : xV F pc (a0 :: a1 :: a2 :: some (.int x) :: tl) st n h ce sl := y_iload_n (i := 3) rfl hd rfl k
theorem x_lload3 {a0 a1 a2 : Option Value} {tl : List (Option Value)} {x : Int64} (hd : decode F.2.1.2.1 pc = .ok (.lload_n 3, 1)) (k : xV F (pc + 1) (a0 :: a1 :: a2 :: some (.long x) :: tl) (.long x :: st) n h ce sl) : xV F pc (a0 :: a1 :: a2 :: some (.long x) :: tl) st n h ce sl := y_lload_n (i := 3) rfl hd rfl k
theorem x_aload3 {a0 a1 a2 : Option Value} {tl : List (Option Value)} {x : Nat} (hd : decode F.2.1.2.1 pc = .ok (.aload_n 3, 1)) (k : xV F (pc + 1) (a0 :: a1 :: a2 :: some (.ref x) :: tl) (.ref x :: st) n h ce sl) : xV F pc (a0 :: a1 :: a2 :: some (.ref x) :: tl) st n h ce sl := y_aload_n (i := 3) rfl hd rfl k
theorem x_aloadN3 {a0 a1 a2 : Option Value} {tl : List (Option Value)} (hd : decode F.2.1.2.1 pc = .ok (.aload_n 3, 1)) (k : xV F (pc + 1) (a0 :: a1 :: a2 :: some .null :: tl) (.null :: st) n h ce sl) : xV F pc (a0 :: a1 :: a2 :: some .null :: tl) st n h ce sl := y_aloadN_n (i := 3) rfl hd rfl k
theorem x_istore3 {a0 a1 a2 : Option Value} {tl : List (Option Value)} {b : Option Value} {x : Int32} (hd : decode F.2.1.2.1 pc = .ok (.istore_n 3, 1)) (hn : Nat.ble 4 F.2.1.2.2.1 = true) (hp : oc1 a2 = true) (hr : F.2.2.2.2.2.all (fun q => !(q.1 == 3) && !(q.1 + 1 == 3)) = true) (k : xV F (pc + 1) (a0 :: a1 :: a2 :: some (.int x) :: tl) st n h ce sl) : xV F pc (a0 :: a1 :: a2 :: b :: tl) (.int x :: st) n h ce sl := y_istore_n (i := 3) hd rfl (Nat.le_of_ble_eq_true hn) (by simp) (fun w _ h1 => oc1_of hp w (Option.some.inj h1)) hr k
theorem x_astore3 {a0 a1 a2 : Option Value} {tl : List (Option Value)} {b : Option Value} {x : Nat} (hd : decode F.2.1.2.1 pc = .ok (.astore_n 3, 1)) (hn : Nat.ble 4 F.2.1.2.2.1 = true) (hp : oc1 a2 = true) (hr : F.2.2.2.2.2.all (fun q => !(q.1 == 3) && !(q.1 + 1 == 3)) = true) (k : xV F (pc + 1) (a0 :: a1 :: a2 :: some (.ref x) :: tl) st n h ce sl) : xV F pc (a0 :: a1 :: a2 :: b :: tl) (.ref x :: st) n h ce sl := y_astore_n (i := 3) hd rfl (Nat.le_of_ble_eq_true hn) (by simp) (fun w _ h1 => oc1_of hp w (Option.some.inj h1)) hr k
theorem x_astoreN3 {a0 a1 a2 : Option Value} {tl : List (Option Value)} {b : Option Value} (hd : decode F.2.1.2.1 pc = .ok (.astore_n 3, 1)) (hn : Nat.ble 4 F.2.1.2.2.1 = true) (hp : oc1 a2 = true) (hr : F.2.2.2.2.2.all (fun q => !(q.1 == 3) && !(q.1 + 1 == 3)) = true) (k : xV F (pc + 1) (a0 :: a1 :: a2 :: some (.null) :: tl) st n h ce sl) : xV F pc (a0 :: a1 :: a2 :: b :: tl) (.null :: st) n h ce sl := y_astoreN_n (i := 3) hd rfl (Nat.le_of_ble_eq_true hn) (by simp) (fun w _ h1 => oc1_of hp w (Option.some.inj h1)) hr k
theorem x_lstore3 {a0 a1 a2 : Option Value} {tl : List (Option Value)} {b b2 : Option Value} {x : Int64} (hd : decode F.2.1.2.1 pc = .ok (.lstore_n 3, 1)) (hn : Nat.ble 5 F.2.1.2.2.1 = true) (hp : oc1 a2 = true) (hr : F.2.2.2.2.2.all (fun q => !(q.1 == 3) && !(q.1 + 1 == 3) && !(q.1 == 3 + 1)) = true) (k : xV F (pc + 1) (a0 :: a1 :: a2 :: some (.long x) :: none :: tl) st n h ce sl) : xV F pc (a0 :: a1 :: a2 :: b :: b2 :: tl) (.long x :: st) n h ce sl := y_lstore_n (i := 3) hd rfl (Nat.le_of_ble_eq_true hn) (by simp) (fun w _ h1 => oc1_of hp w (Option.some.inj h1)) hr k
theorem x_iinc3 {a0 a1 a2 : Option Value} {tl : List (Option Value)} {x : Int32} {z : Int} (v : Int32) (hd : decode F.2.1.2.1 pc = .ok (.iinc 3 z, 3)) (hv : x + Int32.ofInt z = v) (hn : Nat.ble 4 F.2.1.2.2.1 = true) (hp : oc1 a2 = true) (hr : F.2.2.2.2.2.all (fun q => !(q.1 == 3) && !(q.1 + 1 == 3)) = true) (k : xV F (pc + 3) (a0 :: a1 :: a2 :: some (.int v) :: tl) st n h ce sl) : xV F pc (a0 :: a1 :: a2 :: some (.int x) :: tl) st n h ce sl := y_iinc (i := 3) rfl hd hv (Nat.le_of_ble_eq_true hn) (fun w _ h1 => oc1_of hp w (Option.some.inj h1)) hr k
theorem x_iload4 {a0 a1 a2 a3 : Option Value} {tl : List (Option Value)} {x : Int32} (hd : decode F.2.1.2.1 pc = .ok (.iload 4, 2)) (k : xV F (pc + 2) (a0 :: a1 :: a2 :: a3 :: some (.int x) :: tl) (.int x :: st) n h ce sl) : xV F pc (a0 :: a1 :: a2 :: a3 :: some (.int x) :: tl) st n h ce sl := y_iload_w (i := 4) rfl hd k
theorem x_lload4 {a0 a1 a2 a3 : Option Value} {tl : List (Option Value)} {x : Int64} (hd : decode F.2.1.2.1 pc = .ok (.lload 4, 2)) (k : xV F (pc + 2) (a0 :: a1 :: a2 :: a3 :: some (.long x) :: tl) (.long x :: st) n h ce sl) : xV F pc (a0 :: a1 :: a2 :: a3 :: some (.long x) :: tl) st n h ce sl := y_lload_w (i := 4) rfl hd k
theorem x_aload4 {a0 a1 a2 a3 : Option Value} {tl : List (Option Value)} {x : Nat} (hd : decode F.2.1.2.1 pc = .ok (.aload 4, 2)) (k : xV F (pc + 2) (a0 :: a1 :: a2 :: a3 :: some (.ref x) :: tl) (.ref x :: st) n h ce sl) : xV F pc (a0 :: a1 :: a2 :: a3 :: some (.ref x) :: tl) st n h ce sl := y_aload_w (i := 4) rfl hd k
theorem x_aloadN4 {a0 a1 a2 a3 : Option Value} {tl : List (Option Value)} (hd : decode F.2.1.2.1 pc = .ok (.aload 4, 2)) (k : xV F (pc + 2) (a0 :: a1 :: a2 :: a3 :: some .null :: tl) (.null :: st) n h ce sl) : xV F pc (a0 :: a1 :: a2 :: a3 :: some .null :: tl) st n h ce sl := y_aloadN_w (i := 4) rfl hd k
theorem x_istore4 {a0 a1 a2 a3 : Option Value} {tl : List (Option Value)} {b : Option Value} {x : Int32} (hd : decode F.2.1.2.1 pc = .ok (.istore 4, 2)) (hn : Nat.ble 5 F.2.1.2.2.1 = true) (hp : oc1 a3 = true) (hr : F.2.2.2.2.2.all (fun q => !(q.1 == 4) && !(q.1 + 1 == 4)) = true) (k : xV F (pc + 2) (a0 :: a1 :: a2 :: a3 :: some (.int x) :: tl) st n h ce sl) : xV F pc (a0 :: a1 :: a2 :: a3 :: b :: tl) (.int x :: st) n h ce sl := y_istore_w (i := 4) hd (Nat.le_of_ble_eq_true hn) (by simp) (fun w _ h1 => oc1_of hp w (Option.some.inj h1)) hr k
theorem x_astore4 {a0 a1 a2 a3 : Option Value} {tl : List (Option Value)} {b : Option Value} {x : Nat} (hd : decode F.2.1.2.1 pc = .ok (.astore 4, 2)) (hn : Nat.ble 5 F.2.1.2.2.1 = true) (hp : oc1 a3 = true) (hr : F.2.2.2.2.2.all (fun q => !(q.1 == 4) && !(q.1 + 1 == 4)) = true) (k : xV F (pc + 2) (a0 :: a1 :: a2 :: a3 :: some (.ref x) :: tl) st n h ce sl) : xV F pc (a0 :: a1 :: a2 :: a3 :: b :: tl) (.ref x :: st) n h ce sl := y_astore_w (i := 4) hd (Nat.le_of_ble_eq_true hn) (by simp) (fun w _ h1 => oc1_of hp w (Option.some.inj h1)) hr k
theorem x_astoreN4 {a0 a1 a2 a3 : Option Value} {tl : List (Option Value)} {b : Option Value} (hd : decode F.2.1.2.1 pc = .ok (.astore 4, 2)) (hn : Nat.ble 5 F.2.1.2.2.1 = true) (hp : oc1 a3 = true) (hr : F.2.2.2.2.2.all (fun q => !(q.1 == 4) && !(q.1 + 1 == 4)) = true) (k : xV F (pc + 2) (a0 :: a1 :: a2 :: a3 :: some (.null) :: tl) st n h ce sl) : xV F pc (a0 :: a1 :: a2 :: a3 :: b :: tl) (.null :: st) n h ce sl := y_astoreN_w (i := 4) hd (Nat.le_of_ble_eq_true hn) (by simp) (fun w _ h1 => oc1_of hp w (Option.some.inj h1)) hr k
theorem x_lstore4 {a0 a1 a2 a3 : Option Value} {tl : List (Option Value)} {b b2 : Option Value} {x : Int64} (hd : decode F.2.1.2.1 pc = .ok (.lstore 4, 2)) (hn : Nat.ble 6 F.2.1.2.2.1 = true) (hp : oc1 a3 = true) (hr : F.2.2.2.2.2.all (fun q => !(q.1 == 4) && !(q.1 + 1 == 4) && !(q.1 == 4 + 1)) = true) (k : xV F (pc + 2) (a0 :: a1 :: a2 :: a3 :: some (.long x) :: none :: tl) st n h ce sl) : xV F pc (a0 :: a1 :: a2 :: a3 :: b :: b2 :: tl) (.long x :: st) n h ce sl := y_lstore_w (i := 4) hd (Nat.le_of_ble_eq_true hn) (by simp) (fun w _ h1 => oc1_of hp w (Option.some.inj h1)) hr k
theorem x_iinc4 {a0 a1 a2 a3 : Option Value} {tl : List (Option Value)} {x : Int32} {z : Int} (v : Int32) (hd : decode F.2.1.2.1 pc = .ok (.iinc 4 z, 3)) (hv : x + Int32.ofInt z = v) (hn : Nat.ble 5 F.2.1.2.2.1 = true) (hp : oc1 a3 = true) (hr : F.2.2.2.2.2.all (fun q => !(q.1 == 4) && !(q.1 + 1 == 4)) = true) (k : xV F (pc + 3) (a0 :: a1 :: a2 :: a3 :: some (.int v) :: tl) st n h ce sl) : xV F pc (a0 :: a1 :: a2 :: a3 :: some (.int x) :: tl) st n h ce sl := y_iinc (i := 4) rfl hd hv (Nat.le_of_ble_eq_true hn) (fun w _ h1 => oc1_of hp w (Option.some.inj h1)) hr k
theorem x_iload5 {a0 a1 a2 a3 a4 : Option Value} {tl : List (Option Value)} {x : Int32} (hd : decode F.2.1.2.1 pc = .ok (.iload 5, 2)) (k : xV F (pc + 2) (a0 :: a1 :: a2 :: a3 :: a4 :: some (.int x) :: tl) (.int x :: st) n h ce sl) : xV F pc (a0 :: a1 :: a2 :: a3 :: a4 :: some (.int x) :: tl) st n h ce sl := y_iload_w (i := 5) rfl hd k
theorem x_lload5 {a0 a1 a2 a3 a4 : Option Value} {tl : List (Option Value)} {x : Int64} (hd : decode F.2.1.2.1 pc = .ok (.lload 5, 2)) (k : xV F (pc + 2) (a0 :: a1 :: a2 :: a3 :: a4 :: some (.long x) :: tl) (.long x :: st) n h ce sl) : xV F pc (a0 :: a1 :: a2 :: a3 :: a4 :: some (.long x) :: tl) st n h ce sl := y_lload_w (i := 5) rfl hd k
theorem x_aload5 {a0 a1 a2 a3 a4 : Option Value} {tl : List (Option Value)} {x : Nat} (hd : decode F.2.1.2.1 pc = .ok (.aload 5, 2)) (k : xV F (pc + 2) (a0 :: a1 :: a2 :: a3 :: a4 :: some (.ref x) :: tl) (.ref x :: st) n h ce sl) : xV F pc (a0 :: a1 :: a2 :: a3 :: a4 :: some (.ref x) :: tl) st n h ce sl := y_aload_w (i := 5) rfl hd k
theorem x_aloadN5 {a0 a1 a2 a3 a4 : Option Value} {tl : List (Option Value)} (hd : decode F.2.1.2.1 pc = .ok (.aload 5, 2)) (k : xV F (pc + 2) (a0 :: a1 :: a2 :: a3 :: a4 :: some .null :: tl) (.null :: st) n h ce sl) : xV F pc (a0 :: a1 :: a2 :: a3 :: a4 :: some .null :: tl) st n h ce sl := y_aloadN_w (i := 5) rfl hd k
theorem x_istore5 {a0 a1 a2 a3 a4 : Option Value} {tl : List (Option Value)} {b : Option Value} {x : Int32} (hd : decode F.2.1.2.1 pc = .ok (.istore 5, 2)) (hn : Nat.ble 6 F.2.1.2.2.1 = true) (hp : oc1 a4 = true) (hr : F.2.2.2.2.2.all (fun q => !(q.1 == 5) && !(q.1 + 1 == 5)) = true) (k : xV F (pc + 2) (a0 :: a1 :: a2 :: a3 :: a4 :: some (.int x) :: tl) st n h ce sl) : xV F pc (a0 :: a1 :: a2 :: a3 :: a4 :: b :: tl) (.int x :: st) n h ce sl := y_istore_w (i := 5) hd (Nat.le_of_ble_eq_true hn) (by simp) (fun w _ h1 => oc1_of hp w (Option.some.inj h1)) hr k
theorem x_astore5 {a0 a1 a2 a3 a4 : Option Value} {tl : List (Option Value)} {b : Option Value} {x : Nat} (hd : decode F.2.1.2.1 pc = .ok (.astore 5, 2)) (hn : Nat.ble 6 F.2.1.2.2.1 = true) (hp : oc1 a4 = true) (hr : F.2.2.2.2.2.all (fun q => !(q.1 == 5) && !(q.1 + 1 == 5)) = true) (k : xV F (pc + 2) (a0 :: a1 :: a2 :: a3 :: a4 :: some (.ref x) :: tl) st n h ce sl) : xV F pc (a0 :: a1 :: a2 :: a3 :: a4 :: b :: tl) (.ref x :: st) n h ce sl := y_astore_w (i := 5) hd (Nat.le_of_ble_eq_true hn) (by simp) (fun w _ h1 => oc1_of hp w (Option.some.inj h1)) hr k
theorem x_astoreN5 {a0 a1 a2 a3 a4 : Option Value} {tl : List (Option Value)} {b : Option Value} (hd : decode F.2.1.2.1 pc = .ok (.astore 5, 2)) (hn : Nat.ble 6 F.2.1.2.2.1 = true) (hp : oc1 a4 = true) (hr : F.2.2.2.2.2.all (fun q => !(q.1 == 5) && !(q.1 + 1 == 5)) = true) (k : xV F (pc + 2) (a0 :: a1 :: a2 :: a3 :: a4 :: some (.null) :: tl) st n h ce sl) : xV F pc (a0 :: a1 :: a2 :: a3 :: a4 :: b :: tl) (.null :: st) n h ce sl := y_astoreN_w (i := 5) hd (Nat.le_of_ble_eq_true hn) (by simp) (fun w _ h1 => oc1_of hp w (Option.some.inj h1)) hr k
theorem x_lstore5 {a0 a1 a2 a3 a4 : Option Value} {tl : List (Option Value)} {b b2 : Option Value} {x : Int64} (hd : decode F.2.1.2.1 pc = .ok (.lstore 5, 2)) (hn : Nat.ble 7 F.2.1.2.2.1 = true) (hp : oc1 a4 = true) (hr : F.2.2.2.2.2.all (fun q => !(q.1 == 5) && !(q.1 + 1 == 5) && !(q.1 == 5 + 1)) = true) (k : xV F (pc + 2) (a0 :: a1 :: a2 :: a3 :: a4 :: some (.long x) :: none :: tl) st n h ce sl) : xV F pc (a0 :: a1 :: a2 :: a3 :: a4 :: b :: b2 :: tl) (.long x :: st) n h ce sl := y_lstore_w (i := 5) hd (Nat.le_of_ble_eq_true hn) (by simp) (fun w _ h1 => oc1_of hp w (Option.some.inj h1)) hr k
theorem x_iinc5 {a0 a1 a2 a3 a4 : Option Value} {tl : List (Option Value)} {x : Int32} {z : Int} (v : Int32) (hd : decode F.2.1.2.1 pc = .ok (.iinc 5 z, 3)) (hv : x + Int32.ofInt z = v) (hn : Nat.ble 6 F.2.1.2.2.1 = true) (hp : oc1 a4 = true) (hr : F.2.2.2.2.2.all (fun q => !(q.1 == 5) && !(q.1 + 1 == 5)) = true) (k : xV F (pc + 3) (a0 :: a1 :: a2 :: a3 :: a4 :: some (.int v) :: tl) st n h ce sl) : xV F pc (a0 :: a1 :: a2 :: a3 :: a4 :: some (.int x) :: tl) st n h ce sl := y_iinc (i := 5) rfl hd hv (Nat.le_of_ble_eq_true hn) (fun w _ h1 => oc1_of hp w (Option.some.inj h1)) hr k
theorem x_iload6 {a0 a1 a2 a3 a4 a5 : Option Value} {tl : List (Option Value)} {x : Int32} (hd : decode F.2.1.2.1 pc = .ok (.iload 6, 2)) (k : xV F (pc + 2) (a0 :: a1 :: a2 :: a3 :: a4 :: a5 :: some (.int x) :: tl) (.int x :: st) n h ce sl) : xV F pc (a0 :: a1 :: a2 :: a3 :: a4 :: a5 :: some (.int x) :: tl) st n h ce sl := y_iload_w (i := 6) rfl hd k
theorem x_lload6 {a0 a1 a2 a3 a4 a5 : Option Value} {tl : List (Option Value)} {x : Int64} (hd : decode F.2.1.2.1 pc = .ok (.lload 6, 2)) (k : xV F (pc + 2) (a0 :: a1 :: a2 :: a3 :: a4 :: a5 :: some (.long x) :: tl) (.long x :: st) n h ce sl) : xV F pc (a0 :: a1 :: a2 :: a3 :: a4 :: a5 :: some (.long x) :: tl) st n h ce sl := y_lload_w (i := 6) rfl hd k
theorem x_aload6 {a0 a1 a2 a3 a4 a5 : Option Value} {tl : List (Option Value)} {x : Nat} (hd : decode F.2.1.2.1 pc = .ok (.aload 6, 2)) (k : xV F (pc + 2) (a0 :: a1 :: a2 :: a3 :: a4 :: a5 :: some (.ref x) :: tl) (.ref x :: st) n h ce sl) : xV F pc (a0 :: a1 :: a2 :: a3 :: a4 :: a5 :: some (.ref x) :: tl) st n h ce sl := y_aload_w (i := 6) rfl hd k
theorem x_aloadN6 {a0 a1 a2 a3 a4 a5 : Option Value} {tl : List (Option Value)} (hd : decode F.2.1.2.1 pc = .ok (.aload 6, 2)) (k : xV F (pc + 2) (a0 :: a1 :: a2 :: a3 :: a4 :: a5 :: some .null :: tl) (.null :: st) n h ce sl) : xV F pc (a0 :: a1 :: a2 :: a3 :: a4 :: a5 :: some .null :: tl) st n h ce sl := y_aloadN_w (i := 6) rfl hd k
theorem x_istore6 {a0 a1 a2 a3 a4 a5 : Option Value} {tl : List (Option Value)} {b : Option Value} {x : Int32} (hd : decode F.2.1.2.1 pc = .ok (.istore 6, 2)) (hn : Nat.ble 7 F.2.1.2.2.1 = true) (hp : oc1 a5 = true) (hr : F.2.2.2.2.2.all (fun q => !(q.1 == 6) && !(q.1 + 1 == 6)) = true) (k : xV F (pc + 2) (a0 :: a1 :: a2 :: a3 :: a4 :: a5 :: some (.int x) :: tl) st n h ce sl) : xV F pc (a0 :: a1 :: a2 :: a3 :: a4 :: a5 :: b :: tl) (.int x :: st) n h ce sl := y_istore_w (i := 6) hd (Nat.le_of_ble_eq_true hn) (by simp) (fun w _ h1 => oc1_of hp w (Option.some.inj h1)) hr k
theorem x_astore6 {a0 a1 a2 a3 a4 a5 : Option Value} {tl : List (Option Value)} {b : Option Value} {x : Nat} (hd : decode F.2.1.2.1 pc = .ok (.astore 6, 2)) (hn : Nat.ble 7 F.2.1.2.2.1 = true) (hp : oc1 a5 = true) (hr : F.2.2.2.2.2.all (fun q => !(q.1 == 6) && !(q.1 + 1 == 6)) = true) (k : xV F (pc + 2) (a0 :: a1 :: a2 :: a3 :: a4 :: a5 :: some (.ref x) :: tl) st n h ce sl) : xV F pc (a0 :: a1 :: a2 :: a3 :: a4 :: a5 :: b :: tl) (.ref x :: st) n h ce sl := y_astore_w (i := 6) hd (Nat.le_of_ble_eq_true hn) (by simp) (fun w _ h1 => oc1_of hp w (Option.some.inj h1)) hr k
theorem x_astoreN6 {a0 a1 a2 a3 a4 a5 : Option Value} {tl : List (Option Value)} {b : Option Value} (hd : decode F.2.1.2.1 pc = .ok (.astore 6, 2)) (hn : Nat.ble 7 F.2.1.2.2.1 = true) (hp : oc1 a5 = true) (hr : F.2.2.2.2.2.all (fun q => !(q.1 == 6) && !(q.1 + 1 == 6)) = true) (k : xV F (pc + 2) (a0 :: a1 :: a2 :: a3 :: a4 :: a5 :: some (.null) :: tl) st n h ce sl) : xV F pc (a0 :: a1 :: a2 :: a3 :: a4 :: a5 :: b :: tl) (.null :: st) n h ce sl := y_astoreN_w (i := 6) hd (Nat.le_of_ble_eq_true hn) (by simp) (fun w _ h1 => oc1_of hp w (Option.some.inj h1)) hr k
theorem x_lstore6 {a0 a1 a2 a3 a4 a5 : Option Value} {tl : List (Option Value)} {b b2 : Option Value} {x : Int64} (hd : decode F.2.1.2.1 pc = .ok (.lstore 6, 2)) (hn : Nat.ble 8 F.2.1.2.2.1 = true) (hp : oc1 a5 = true) (hr : F.2.2.2.2.2.all (fun q => !(q.1 == 6) && !(q.1 + 1 == 6) && !(q.1 == 6 + 1)) = true) (k : xV F (pc + 2) (a0 :: a1 :: a2 :: a3 :: a4 :: a5 :: some (.long x) :: none :: tl) st n h ce sl) : xV F pc (a0 :: a1 :: a2 :: a3 :: a4 :: a5 :: b :: b2 :: tl) (.long x :: st) n h ce sl := y_lstore_w (i := 6) hd (Nat.le_of_ble_eq_true hn) (by simp) (fun w _ h1 => oc1_of hp w (Option.some.inj h1)) hr k
theorem x_iinc6 {a0 a1 a2 a3 a4 a5 : Option Value} {tl : List (Option Value)} {x : Int32} {z : Int} (v : Int32) (hd : decode F.2.1.2.1 pc = .ok (.iinc 6 z, 3)) (hv : x + Int32.ofInt z = v) (hn : Nat.ble 7 F.2.1.2.2.1 = true) (hp : oc1 a5 = true) (hr : F.2.2.2.2.2.all (fun q => !(q.1 == 6) && !(q.1 + 1 == 6)) = true) (k : xV F (pc + 3) (a0 :: a1 :: a2 :: a3 :: a4 :: a5 :: some (.int v) :: tl) st n h ce sl) : xV F pc (a0 :: a1 :: a2 :: a3 :: a4 :: a5 :: some (.int x) :: tl) st n h ce sl := y_iinc (i := 6) rfl hd hv (Nat.le_of_ble_eq_true hn) (fun w _ h1 => oc1_of hp w (Option.some.inj h1)) hr k
theorem x_iload7 {a0 a1 a2 a3 a4 a5 a6 : Option Value} {tl : List (Option Value)} {x : Int32} (hd : decode F.2.1.2.1 pc = .ok (.iload 7, 2)) (k : xV F (pc + 2) (a0 :: a1 :: a2 :: a3 :: a4 :: a5 :: a6 :: some (.int x) :: tl) (.int x :: st) n h ce sl) : xV F pc (a0 :: a1 :: a2 :: a3 :: a4 :: a5 :: a6 :: some (.int x) :: tl) st n h ce sl := y_iload_w (i := 7) rfl hd k
theorem x_lload7 {a0 a1 a2 a3 a4 a5 a6 : Option Value} {tl : List (Option Value)} {x : Int64} (hd : decode F.2.1.2.1 pc = .ok (.lload 7, 2)) (k : xV F (pc + 2) (a0 :: a1 :: a2 :: a3 :: a4 :: a5 :: a6 :: some (.long x) :: tl) (.long x :: st) n h ce sl) : xV F pc (a0 :: a1 :: a2 :: a3 :: a4 :: a5 :: a6 :: some (.long x) :: tl) st n h ce sl := y_lload_w (i := 7) rfl hd k
theorem x_aload7 {a0 a1 a2 a3 a4 a5 a6 : Option Value} {tl : List (Option Value)} {x : Nat} (hd : decode F.2.1.2.1 pc = .ok (.aload 7, 2)) (k : xV F (pc + 2) (a0 :: a1 :: a2 :: a3 :: a4 :: a5 :: a6 :: some (.ref x) :: tl) (.ref x :: st) n h ce sl) : xV F pc (a0 :: a1 :: a2 :: a3 :: a4 :: a5 :: a6 :: some (.ref x) :: tl) st n h ce sl := y_aload_w (i := 7) rfl hd k
theorem x_aloadN7 {a0 a1 a2 a3 a4 a5 a6 : Option Value} {tl : List (Option Value)} (hd : decode F.2.1.2.1 pc = .ok (.aload 7, 2)) (k : xV F (pc + 2) (a0 :: a1 :: a2 :: a3 :: a4 :: a5 :: a6 :: some .null :: tl) (.null :: st) n h ce sl) : xV F pc (a0 :: a1 :: a2 :: a3 :: a4 :: a5 :: a6 :: some .null :: tl) st n h ce sl := y_aloadN_w (i := 7) rfl hd k
theorem x_istore7 {a0 a1 a2 a3 a4 a5 a6 : Option Value} {tl : List (Option Value)} {b : Option Value} {x : Int32} (hd : decode F.2.1.2.1 pc = .ok (.istore 7, 2)) (hn : Nat.ble 8 F.2.1.2.2.1 = true) (hp : oc1 a6 = true) (hr : F.2.2.2.2.2.all (fun q => !(q.1 == 7) && !(q.1 + 1 == 7)) = true) (k : xV F (pc + 2) (a0 :: a1 :: a2 :: a3 :: a4 :: a5 :: a6 :: some (.int x) :: tl) st n h ce sl) : xV F pc (a0 :: a1 :: a2 :: a3 :: a4 :: a5 :: a6 :: b :: tl) (.int x :: st) n h ce sl := y_istore_w (i := 7) hd (Nat.le_of_ble_eq_true hn) (by simp) (fun w _ h1 => oc1_of hp w (Option.some.inj h1)) hr k
theorem x_astore7 {a0 a1 a2 a3 a4 a5 a6 : Option Value} {tl : List (Option Value)} {b : Option Value} {x : Nat} (hd : decode F.2.1.2.1 pc = .ok (.astore 7, 2)) (hn : Nat.ble 8 F.2.1.2.2.1 = true) (hp : oc1 a6 = true) (hr : F.2.2.2.2.2.all (fun q => !(q.1 == 7) && !(q.1 + 1 == 7)) = true) (k : xV F (pc + 2) (a0 :: a1 :: a2 :: a3 :: a4 :: a5 :: a6 :: some (.ref x) :: tl) st n h ce sl) : xV F pc (a0 :: a1 :: a2 :: a3 :: a4 :: a5 :: a6 :: b :: tl) (.ref x :: st) n h ce sl := y_astore_w (i := 7) hd (Nat.le_of_ble_eq_true hn) (by simp) (fun w _ h1 => oc1_of hp w (Option.some.inj h1)) hr k
theorem x_astoreN7 {a0 a1 a2 a3 a4 a5 a6 : Option Value} {tl : List (Option Value)} {b : Option Value} (hd : decode F.2.1.2.1 pc = .ok (.astore 7, 2)) (hn : Nat.ble 8 F.2.1.2.2.1 = true) (hp : oc1 a6 = true) (hr : F.2.2.2.2.2.all (fun q => !(q.1 == 7) && !(q.1 + 1 == 7)) = true) (k : xV F (pc + 2) (a0 :: a1 :: a2 :: a3 :: a4 :: a5 :: a6 :: some (.null) :: tl) st n h ce sl) : xV F pc (a0 :: a1 :: a2 :: a3 :: a4 :: a5 :: a6 :: b :: tl) (.null :: st) n h ce sl := y_astoreN_w (i := 7) hd (Nat.le_of_ble_eq_true hn) (by simp) (fun w _ h1 => oc1_of hp w (Option.some.inj h1)) hr k
theorem x_lstore7 {a0 a1 a2 a3 a4 a5 a6 : Option Value} {tl : List (Option Value)} {b b2 : Option Value} {x : Int64} (hd : decode F.2.1.2.1 pc = .ok (.lstore 7, 2)) (hn : Nat.ble 9 F.2.1.2.2.1 = true) (hp : oc1 a6 = true) (hr : F.2.2.2.2.2.all (fun q => !(q.1 == 7) && !(q.1 + 1 == 7) && !(q.1 == 7 + 1)) = true) (k : xV F (pc + 2) (a0 :: a1 :: a2 :: a3 :: a4 :: a5 :: a6 :: some (.long x) :: none :: tl) st n h ce sl) : xV F pc (a0 :: a1 :: a2 :: a3 :: a4 :: a5 :: a6 :: b :: b2 :: tl) (.long x :: st) n h ce sl := y_lstore_w (i := 7) hd (Nat.le_of_ble_eq_true hn) (by simp) (fun w _ h1 => oc1_of hp w (Option.some.inj h1)) hr k
theorem x_iinc7 {a0 a1 a2 a3 a4 a5 a6 : Option Value} {tl : List (Option Value)} {x : Int32} {z : Int} (v : Int32) (hd : decode F.2.1.2.1 pc = .ok (.iinc 7 z, 3)) (hv : x + Int32.ofInt z = v) (hn : Nat.ble 8 F.2.1.2.2.1 = true) (hp : oc1 a6 = true) (hr : F.2.2.2.2.2.all (fun q => !(q.1 == 7) && !(q.1 + 1 == 7)) = true) (k : xV F (pc + 3) (a0 :: a1 :: a2 :: a3 :: a4 :: a5 :: a6 :: some (.int v) :: tl) st n h ce sl) : xV F pc (a0 :: a1 :: a2 :: a3 :: a4 :: a5 :: a6 :: some (.int x) :: tl) st n h ce sl := y_iinc (i := 7) rfl hd hv (Nat.le_of_ble_eq_true hn) (fun w _ h1 => oc1_of hp w (Option.some.inj h1)) hr k
theorem x_iload8 {a0 a1 a2 a3 a4 a5 a6 a7 : Option Value} {tl : List (Option Value)} {x : Int32} (hd : decode F.2.1.2.1 pc = .ok (.iload 8, 2)) (k : xV F (pc + 2) (a0 :: a1 :: a2 :: a3 :: a4 :: a5 :: a6 :: a7 :: some (.int x) :: tl) (.int x :: st) n h ce sl) : xV F pc (a0 :: a1 :: a2 :: a3 :: a4 :: a5 :: a6 :: a7 :: some (.int x) :: tl) st n h ce sl := y_iload_w (i := 8) rfl hd k
theorem x_lload8 {a0 a1 a2 a3 a4 a5 a6 a7 : Option Value} {tl : List (Option Value)} {x : Int64} (hd : decode F.2.1.2.1 pc = .ok (.lload 8, 2)) (k : xV F (pc + 2) (a0 :: a1 :: a2 :: a3 :: a4 :: a5 :: a6 :: a7 :: some (.long x) :: tl) (.long x :: st) n h ce sl) : xV F pc (a0 :: a1 :: a2 :: a3 :: a4 :: a5 :: a6 :: a7 :: some (.long x) :: tl) st n h ce sl := y_lload_w (i := 8) rfl hd k
theorem x_aload8 {a0 a1 a2 a3 a4 a5 a6 a7 : Option Value} {tl : List (Option Value)} {x : Nat} (hd : decode F.2.1.2.1 pc = .ok (.aload 8, 2)) (k : xV F (pc + 2) (a0 :: a1 :: a2 :: a3 :: a4 :: a5 :: a6 :: a7 :: some (.ref x) :: tl) (.ref x :: st) n h ce sl) : xV F pc (a0 :: a1 :: a2 :: a3 :: a4 :: a5 :: a6 :: a7 :: some (.ref x) :: tl) st n h ce sl := y_aload_w (i := 8) rfl hd k
theorem x_aloadN8 {a0 a1 a2 a3 a4 a5 a6 a7 : Option Value} {tl : List (Option Value)} (hd : decode F.2.1.2.1 pc = .ok (.aload 8, 2)) (k : xV F (pc + 2) (a0 :: a1 :: a2 :: a3 :: a4 :: a5 :: a6 :: a7 :: some .null :: tl) (.null :: st) n h ce sl) : xV F pc (a0 :: a1 :: a2 :: a3 :: a4 :: a5 :: a6 :: a7 :: some .null :: tl) st n h ce sl := y_aloadN_w (i := 8) rfl hd k
theorem x_istore8 {a0 a1 a2 a3 a4 a5 a6 a7 : Option Value} {tl : List (Option Value)} {b : Option Value} {x : Int32} (hd : decode F.2.1.2.1 pc = .ok (.istore 8, 2)) (hn : Nat.ble 9 F.2.1.2.2.1 = true) (hp : oc1 a7 = true) (hr : F.2.2.2.2.2.all (fun q => !(q.1 == 8) && !(q.1 + 1 == 8)) = true) (k : xV F (pc + 2) (a0 :: a1 :: a2 :: a3 :: a4 :: a5 :: a6 :: a7 :: some (.int x) :: tl) st n h ce sl) : xV F pc (a0 :: a1 :: a2 :: a3 :: a4 :: a5 :: a6 :: a7 :: b :: tl) (.int x :: st) n h ce sl := y_istore_w (i := 8) hd (Nat.le_of_ble_eq_true hn) (by simp) (fun w _ h1 => oc1_of hp w (Option.some.inj h1)) hr k
theorem x_astore8 {a0 a1 a2 a3 a4 a5 a6 a7 : Option Value} {tl : List (Option Value)} {b : Option Value} {x : Nat} (hd : decode F.2.1.2.1 pc = .ok (.astore 8, 2)) (hn : Nat.ble 9 F.2.1.2.2.1 = true) (hp : oc1 a7 = true) (hr : F.2.2.2.2.2.all (fun q => !(q.1 == 8) && !(q.1 + 1 == 8)) = true) (k : xV F (pc + 2) (a0 :: a1 :: a2 :: a3 :: a4 :: a5 :: a6 :: a7 :: some (.ref x) :: tl) st n h ce sl) : xV F pc (a0 :: a1 :: a2 :: a3 :: a4 :: a5 :: a6 :: a7 :: b :: tl) (.ref x :: st) n h ce sl := y_astore_w (i := 8) hd (Nat.le_of_ble_eq_true hn) (by simp) (fun w _ h1 => oc1_of hp w (Option.some.inj h1)) hr k
theorem x_astoreN8 {a0 a1 a2 a3 a4 a5 a6 a7 : Option Value} {tl : List (Option Value)} {b : Option Value} (hd : decode F.2.1.2.1 pc = .ok (.astore 8, 2)) (hn : Nat.ble 9 F.2.1.2.2.1 = true) (hp : oc1 a7 = true) (hr : F.2.2.2.2.2.all (fun q => !(q.1 == 8) && !(q.1 + 1 == 8)) = true) (k : xV F (pc + 2) (a0 :: a1 :: a2 :: a3 :: a4 :: a5 :: a6 :: a7 :: some (.null) :: tl) st n h ce sl) : xV F pc (a0 :: a1 :: a2 :: a3 :: a4 :: a5 :: a6 :: a7 :: b :: tl) (.null :: st) n h ce sl := y_astoreN_w (i := 8) hd (Nat.le_of_ble_eq_true hn) (by simp) (fun w _ h1 => oc1_of hp w (Option.some.inj h1)) hr k
theorem x_lstore8 {a0 a1 a2 a3 a4 a5 a6 a7 : Option Value} {tl : List (Option Value)} {b b2 : Option Value} {x : Int64} (hd : decode F.2.1.2.1 pc = .ok (.lstore 8, 2)) (hn : Nat.ble 10 F.2.1.2.2.1 = true) (hp : oc1 a7 = true) (hr : F.2.2.2.2.2.all (fun q => !(q.1 == 8) && !(q.1 + 1 == 8) && !(q.1 == 8 + 1)) = true) (k : xV F (pc + 2) (a0 :: a1 :: a2 :: a3 :: a4 :: a5 :: a6 :: a7 :: some (.long x) :: none :: tl) st n h ce sl) : xV F pc (a0 :: a1 :: a2 :: a3 :: a4 :: a5 :: a6 :: a7 :: b :: b2 :: tl) (.long x :: st) n h ce sl := y_lstore_w (i := 8) hd (Nat.le_of_ble_eq_true hn) (by simp) (fun w _ h1 => oc1_of hp w (Option.some.inj h1)) hr k
theorem x_iinc8 {a0 a1 a2 a3 a4 a5 a6 a7 : Option Value} {tl : List (Option Value)} {x : Int32} {z : Int} (v : Int32) (hd : decode F.2.1.2.1 pc = .ok (.iinc 8 z, 3)) (hv : x + Int32.ofInt z = v) (hn : Nat.ble 9 F.2.1.2.2.1 = true) (hp : oc1 a7 = true) (hr : F.2.2.2.2.2.all (fun q => !(q.1 == 8) && !(q.1 + 1 == 8)) = true) (k : xV F (pc + 3) (a0 :: a1 :: a2 :: a3 :: a4 :: a5 :: a6 :: a7 :: some (.int v) :: tl) st n h ce sl) : xV F pc (a0 :: a1 :: a2 :: a3 :: a4 :: a5 :: a6 :: a7 :: some (.int x) :: tl) st n h ce sl := y_iinc (i := 8) rfl hd hv (Nat.le_of_ble_eq_true hn) (fun w _ h1 => oc1_of hp w (Option.some.inj h1)) hr k
theorem x_iload9 {a0 a1 a2 a3 a4 a5 a6 a7 a8 : Option Value} {tl : List (Option Value)} {x : Int32} (hd : decode F.2.1.2.1 pc = .ok (.iload 9, 2)) (k : xV F (pc + 2) (a0 :: a1 :: a2 :: a3 :: a4 :: a5 :: a6 :: a7 :: a8 :: some (.int x) :: tl) (.int x :: st) n h ce sl) : xV F pc (a0 :: a1 :: a2 :: a3 :: a4 :: a5 :: a6 :: a7 :: a8 :: some (.int x) :: tl) st n h ce sl := y_iload_w (i := 9) rfl hd k
theorem x_lload9 {a0 a1 a2 a3 a4 a5 a6 a7 a8 : Option Value} {tl : List (Option Value)} {x : Int64} (hd : decode F.2.1.2.1 pc = .ok (.lload 9, 2)) (k : xV F (pc + 2) (a0 :: a1 :: a2 :: a3 :: a4 :: a5 :: a6 :: a7 :: a8 :: some (.long x) :: tl) (.long x :: st) n h ce sl) : xV F pc (a0 :: a1 :: a2 :: a3 :: a4 :: a5 :: a6 :: a7 :: a8 :: some (.long x) :: tl) st n h ce sl := y_lload_w (i := 9) rfl hd k
theorem x_aload9 {a0 a1 a2 a3 a4 a5 a6 a7 a8 : Option Value} {tl : List (Option Value)} {x : Nat} (hd : decode F.2.1.2.1 pc = .ok (.aload 9, 2)) (k : xV F (pc + 2) (a0 :: a1 :: a2 :: a3 :: a4 :: a5 :: a6 :: a7 :: a8 :: some (.ref x) :: tl) (.ref x :: st) n h ce sl) : xV F pc (a0 :: a1 :: a2 :: a3 :: a4 :: a5 :: a6 :: a7 :: a8 :: some (.ref x) :: tl) st n h ce sl := y_aload_w (i := 9) rfl hd k
theorem x_aloadN9 {a0 a1 a2 a3 a4 a5 a6 a7 a8 : Option Value} {tl : List (Option Value)} (hd : decode F.2.1.2.1 pc = .ok (.aload 9, 2)) (k : xV F (pc + 2) (a0 :: a1 :: a2 :: a3 :: a4 :: a5 :: a6 :: a7 :: a8 :: some .null :: tl) (.null :: st) n h ce sl) : xV F pc (a0 :: a1 :: a2 :: a3 :: a4 :: a5 :: a6 :: a7 :: a8 :: some .null :: tl) st n h ce sl := y_aloadN_w (i := 9) rfl hd k
theorem x_istore9 {a0 a1 a2 a3 a4 a5 a6 a7 a8 : Option Value} {tl : List (Option Value)} {b : Option Value} {x : Int32} (hd : decode F.2.1.2.1 pc = .ok (.istore 9, 2)) (hn : Nat.ble 10 F.2.1.2.2.1 = true) (hp : oc1 a8 = true) (hr : F.2.2.2.2.2.all (fun q => !(q.1 == 9) && !(q.1 + 1 == 9)) = true) (k : xV F (pc + 2) (a0 :: a1 :: a2 :: a3 :: a4 :: a5 :: a6 :: a7 :: a8 :: some (.int x) :: tl) st n h ce sl) : xV F pc (a0 :: a1 :: a2 :: a3 :: a4 :: a5 :: a6 :: a7 :: a8 :: b :: tl) (.int x :: st) n h ce sl := y_istore_w (i := 9) hd (Nat.le_of_ble_eq_true hn) (by simp) (fun w _ h1 => oc1_of hp w (Option.some.inj h1)) hr k
theorem x_astore9 {a0 a1 a2 a3 a4 a5 a6 a7 a8 : Option Value} {tl : List (Option Value)} {b : Option Value} {x : Nat} (hd : decode F.2.1.2.1 pc = .ok (.astore 9, 2)) (hn : Nat.ble 10 F.2.1.2.2.1 = true) (hp : oc1 a8 = true) (hr : F.2.2.2.2.2.all (fun q => !(q.1 == 9) && !(q.1 + 1 == 9)) = true) (k : xV F (pc + 2) (a0 :: a1 :: a2 :: a3 :: a4 :: a5 :: a6 :: a7 :: a8 :: some (.ref x) :: tl) st n h ce sl) : xV F pc (a0 :: a1 :: a2 :: a3 :: a4 :: a5 :: a6 :: a7 :: a8 :: b :: tl) (.ref x :: st) n h ce sl := y_astore_w (i := 9) hd (Nat.le_of_ble_eq_true hn) (by simp) (fun w _ h1 => oc1_of hp w (Option.some.inj h1)) hr k
theorem x_astoreN9 {a0 a1 a2 a3 a4 a5 a6 a7 a8 : Option Value} {tl : List (Option Value)} {b : Option Value} (hd : decode F.2.1.2.1 pc = .ok (.astore 9, 2)) (hn : Nat.ble 10 F.2.1.2.2.1 = true) (hp : oc1 a8 = true) (hr : F.2.2.2.2.2.all (fun q => !(q.1 == 9) && !(q.1 + 1 == 9)) = true) (k : xV F (pc + 2) (a0 :: a1 :: a2 :: a3 :: a4 :: a5 :: a6 :: a7 :: a8 :: some (.null) :: tl) st n h ce sl) : xV F pc (a0 :: a1 :: a2 :: a3 :: a4 :: a5 :: a6 :: a7 :: a8 :: b :: tl) (.null :: st) n h ce sl := y_astoreN_w (i := 9) hd (Nat.le_of_ble_eq_true hn) (by simp) (fun w _ h1 => oc1_of hp w (Option.some.inj h1)) hr k
theorem x_lstore9 {a0 a1 a2 a3 a4 a5 a6 a7 a8 : Option Value} {tl : List (Option Value)} {b b2 : Option Value} {x : Int64} (hd : decode F.2.1.2.1 pc = .ok (.lstore 9, 2)) (hn : Nat.ble 11 F.2.1.2.2.1 = true) (hp : oc1 a8 = true) (hr : F.2.2.2.2.2.all (fun q => !(q.1 == 9) && !(q.1 + 1 == 9) && !(q.1 == 9 + 1)) = true) (k : xV F (pc + 2) (a0 :: a1 :: a2 :: a3 :: a4 :: a5 :: a6 :: a7 :: a8 :: some (.long x) :: none :: tl) st n h ce sl) : xV F pc (a0 :: a1 :: a2 :: a3 :: a4 :: a5 :: a6 :: a7 :: a8 :: b :: b2 :: tl) (.long x :: st) n h ce sl := y_lstore_w (i := 9) hd (Nat.le_of_ble_eq_true hn) (by simp) (fun w _ h1 => oc1_of hp w (Option.some.inj h1)) hr k
theorem x_iinc9 {a0 a1 a2 a3 a4 a5 a6 a7 a8 : Option Value} {tl : List (Option Value)} {x : Int32} {z : Int} (v : Int32) (hd : decode F.2.1.2.1 pc = .ok (.iinc 9 z, 3)) (hv : x + Int32.ofInt z = v) (hn : Nat.ble 10 F.2.1.2.2.1 = true) (hp : oc1 a8 = true) (hr : F.2.2.2.2.2.all (fun q => !(q.1 == 9) && !(q.1 + 1 == 9)) = true) (k : xV F (pc + 3) (a0 :: a1 :: a2 :: a3 :: a4 :: a5 :: a6 :: a7 :: a8 :: some (.int v) :: tl) st n h ce sl) : xV F pc (a0 :: a1 :: a2 :: a3 :: a4 :: a5 :: a6 :: a7 :: a8 :: some (.int x) :: tl) st n h ce sl := y_iinc (i := 9) rfl hd hv (Nat.le_of_ble_eq_true hn) (fun w _ h1 => oc1_of hp w (Option.some.inj h1)) hr k
theorem x_iload10 {a0 a1 a2 a3 a4 a5 a6 a7 a8 a9 : Option Value} {tl : List (Option Value)} {x : Int32} (hd : decode F.2.1.2.1 pc = .ok (.iload 10, 2)) (k : xV F (pc + 2) (a0 :: a1 :: a2 :: a3 :: a4 :: a5 :: a6 :: a7 :: a8 :: a9 :: some (.int x) :: tl) (.int x :: st) n h ce sl) : xV F pc (a0 :: a1 :: a2 :: a3 :: a4 :: a5 :: a6 :: a7 :: a8 :: a9 :: some (.int x) :: tl) st n h ce sl := y_iload_w (i := 10) rfl hd k
theorem x_lload10 {a0 a1 a2 a3 a4 a5 a6 a7 a8 a9 : Option Value} {tl : List (Option Value)} {x : Int64} (hd : decode F.2.1.2.1 pc = .ok (.lload 10, 2)) (k : xV F (pc + 2) (a0 :: a1 :: a2 :: a3 :: a4 :: a5 :: a6 :: a7 :: a8 :: a9 :: some (.long x) :: tl) (.long x :: st) n h ce sl) : xV F pc (a0 :: a1 :: a2 :: a3 :: a4 :: a5 :: a6 :: a7 :: a8 :: a9 :: some (.long x) :: tl) st n h ce sl := y_lload_w (i := 10) rfl hd k
theorem x_aload10 {a0 a1 a2 a3 a4 a5 a6 a7 a8 a9 : Option Value} {tl : List (Option Value)} {x : Nat} (hd : decode F.2.1.2.1 pc = .ok (.aload 10, 2)) (k : xV F (pc + 2) (a0 :: a1 :: a2 :: a3 :: a4 :: a5 :: a6 :: a7 :: a8 :: a9 :: some (.ref x) :: tl) (.ref x :: st) n h ce sl) : xV F pc (a0 :: a1 :: a2 :: a3 :: a4 :: a5 :: a6 :: a7 :: a8 :: a9 :: some (.ref x) :: tl) st n h ce sl := y_aload_w (i := 10) rfl hd k
theorem x_aloadN10 {a0 a1 a2 a3 a4 a5 a6 a7 a8 a9 : Option Value} {tl : List (Option Value)} (hd : decode F.2.1.2.1 pc = .ok (.aload 10, 2)) (k : xV F (pc + 2) (a0 :: a1 :: a2 :: a3 :: a4 :: a5 :: a6 :: a7 :: a8 :: a9 :: some .null :: tl) (.null :: st) n h ce sl) : xV F pc (a0 :: a1 :: a2 :: a3 :: a4 :: a5 :: a6 :: a7 :: a8 :: a9 :: some .null :: tl) st n h ce sl := y_aloadN_w (i := 10) rfl hd k
theorem x_istore10 {a0 a1 a2 a3 a4 a5 a6 a7 a8 a9 : Option Value} {tl : List (Option Value)} {b : Option Value} {x : Int32} (hd : decode F.2.1.2.1 pc = .ok (.istore 10, 2)) (hn : Nat.ble 11 F.2.1.2.2.1 = true) (hp : oc1 a9 = true) (hr : F.2.2.2.2.2.all (fun q => !(q.1 == 10) && !(q.1 + 1 == 10)) = true) (k : xV F (pc + 2) (a0 :: a1 :: a2 :: a3 :: a4 :: a5 :: a6 :: a7 :: a8 :: a9 :: some (.int x) :: tl) st n h ce sl) : xV F pc (a0 :: a1 :: a2 :: a3 :: a4 :: a5 :: a6 :: a7 :: a8 :: a9 :: b :: tl) (.int x :: st) n h ce sl := y_istore_w (i := 10) hd (Nat.le_of_ble_eq_true hn) (by simp) (fun w _ h1 => oc1_of hp w (Option.some.inj h1)) hr k
theorem x_astore10 {a0 a1 a2 a3 a4 a5 a6 a7 a8 a9 : Option Value} {tl : List (Option Value)} {b : Option Value} {x : Nat} (hd : decode F.2.1.2.1 pc = .ok (.astore 10, 2)) (hn : Nat.ble 11 F.2.1.2.2.1 = true) (hp : oc1 a9 = true) (hr : F.2.2.2.2.2.all (fun q => !(q.1 == 10) && !(q.1 + 1 == 10)) = true) (k : xV F (pc + 2) (a0 :: a1 :: a2 :: a3 :: a4 :: a5 :: a6 :: a7 :: a8 :: a9 :: some (.ref x) :: tl) st n h ce sl) : xV F pc (a0 :: a1 :: a2 :: a3 :: a4 :: a5 :: a6 :: a7 :: a8 :: a9 :: b :: tl) (.ref x :: st) n h ce sl := y_astore_w (i := 10) hd (Nat.le_of_ble_eq_true hn) (by simp) (fun w _ h1 => oc1_of hp w (Option.some.inj h1)) hr k
theorem x_astoreN10 {a0 a1 a2 a3 a4 a5 a6 a7 a8 a9 : Option Value} {tl : List (Option Value)} {b : Option Value} (hd : decode F.2.1.2.1 pc = .ok (.astore 10, 2)) (hn : Nat.ble 11 F.2.1.2.2.1 = true) (hp : oc1 a9 = true) (hr : F.2.2.2.2.2.all (fun q => !(q.1 == 10) && !(q.1 + 1 == 10)) = true) (k : xV F (pc + 2) (a0 :: a1 :: a2 :: a3 :: a4 :: a5 :: a6 :: a7 :: a8 :: a9 :: some (.null) :: tl) st n h ce sl) : xV F pc (a0 :: a1 :: a2 :: a3 :: a4 :: a5 :: a6 :: a7 :: a8 :: a9 :: b :: tl) (.null :: st) n h ce sl := y_astoreN_w (i := 10) hd (Nat.le_of_ble_eq_true hn) (by simp) (fun w _ h1 => oc1_of hp w (Option.some.inj h1)) hr k
theorem x_lstore10 {a0 a1 a2 a3 a4 a5 a6 a7 a8 a9 : Option Value} {tl : List (Option Value)} {b b2 : Option Value} {x : Int64} (hd : decode F.2.1.2.1 pc = .ok (.lstore 10, 2)) (hn : Nat.ble 12 F.2.1.2.2.1 = true) (hp : oc1 a9 = true) (hr : F.2.2.2.2.2.all (fun q => !(q.1 == 10) && !(q.1 + 1 == 10) && !(q.1 == 10 + 1)) = true) (k : xV F (pc + 2) (a0 :: a1 :: a2 :: a3 :: a4 :: a5 :: a6 :: a7 :: a8 :: a9 :: some (.long x) :: none :: tl) st n h ce sl) : xV F pc (a0 :: a1 :: a2 :: a3 :: a4 :: a5 :: a6 :: a7 :: a8 :: a9 :: b :: b2 :: tl) (.long x :: st) n h ce sl := y_lstore_w (i := 10) hd (Nat.le_of_ble_eq_true hn) (by simp) (fun w _ h1 => oc1_of hp w (Option.some.inj h1)) hr k
theorem x_iinc10 {a0 a1 a2 a3 a4 a5 a6 a7 a8 a9 : Option Value} {tl : List (Option Value)} {x : Int32} {z : Int} (v : Int32) (hd : decode F.2.1.2.1 pc = .ok (.iinc 10 z, 3)) (hv : x + Int32.ofInt z = v) (hn : Nat.ble 11 F.2.1.2.2.1 = true) (hp : oc1 a9 = true) (hr : F.2.2.2.2.2.all (fun q => !(q.1 == 10) && !(q.1 + 1 == 10)) = true) (k : xV F (pc + 3) (a0 :: a1 :: a2 :: a3 :: a4 :: a5 :: a6 :: a7 :: a8 :: a9 :: some (.int v) :: tl) st n h ce sl) : xV F pc (a0 :: a1 :: a2 :: a3 :: a4 :: a5 :: a6 :: a7 :: a8 :: a9 :: some (.int x) :: tl) st n h ce sl := y_iinc (i := 10) rfl hd hv (Nat.le_of_ble_eq_true hn) (fun w _ h1 => oc1_of hp w (Option.some.inj h1)) hr k
theorem x_iload11 {a0 a1 a2 a3 a4 a5 a6 a7 a8 a9 a10 : Option Value} {tl : List (Option Value)} {x : Int32} (hd : decode F.2.1.2.1 pc = .ok (.iload 11, 2)) (k : xV F (pc + 2) (a0 :: a1 :: a2 :: a3 :: a4 :: a5 :: a6 :: a7 :: a8 :: a9 :: a10 :: some (.int x) :: tl) (.int x :: st) n h ce sl) : xV F pc (a0 :: a1 :: a2 :: a3 :: a4 :: a5 :: a6 :: a7 :: a8 :: a9 :: a10 :: some (.int x) :: tl) st n h ce sl := y_iload_w (i := 11) rfl hd k
theorem x_lload11 {a0 a1 a2 a3 a4 a5 a6 a7 a8 a9 a10 : Option Value} {tl : List (Option Value)} {x : Int64} (hd : decode F.2.1.2.1 pc = .ok (.lload 11, 2)) (k : xV F (pc + 2) (a0 :: a1 :: a2 :: a3 :: a4 :: a5 :: a6 :: a7 :: a8 :: a9 :: a10 :: some (.long x) :: tl) (.long x :: st) n h ce sl) : xV F pc (a0 :: a1 :: a2 :: a3 :: a4 :: a5 :: a6 :: a7 :: a8 :: a9 :: a10 :: some (.long x) :: tl) st n h ce sl := y_lload_w (i := 11) rfl hd k
theorem x_aload11 {a0 a1 a2 a3 a4 a5 a6 a7 a8 a9 a10 : Option Value} {tl : List (Option Value)} {x : Nat} (hd : decode F.2.1.2.1 pc = .ok (.aload 11, 2)) (k : xV F (pc + 2) (a0 :: a1 :: a2 :: a3 :: a4 :: a5 :: a6 :: a7 :: a8 :: a9 :: a10 :: some (.ref x) :: tl) (.ref x :: st) n h ce sl) : xV F pc (a0 :: a1 :: a2 :: a3 :: a4 :: a5 :: a6 :: a7 :: a8 :: a9 :: a10 :: some (.ref x) :: tl) st n h ce sl := y_aload_w (i := 11) rfl hd k
theorem x_aloadN11 {a0 a1 a2 a3 a4 a5 a6 a7 a8 a9 a10 : Option Value} {tl : List (Option Value)} (hd : decode F.2.1.2.1 pc = .ok (.aload 11, 2)) (k : xV F (pc + 2) (a0 :: a1 :: a2 :: a3 :: a4 :: a5 :: a6 :: a7 :: a8 :: a9 :: a10 :: some .null :: tl) (.null :: st) n h ce sl) : xV F pc (a0 :: a1 :: a2 :: a3 :: a4 :: a5 :: a6 :: a7 :: a8 :: a9 :: a10 :: some .null :: tl) st n h ce sl := y_aloadN_w (i := 11) rfl hd k
theorem x_istore11 {a0 a1 a2 a3 a4 a5 a6 a7 a8 a9 a10 : Option Value} {tl : List (Option Value)} {b : Option Value} {x : Int32} (hd : decode F.2.1.2.1 pc = .ok (.istore 11, 2)) (hn : Nat.ble 12 F.2.1.2.2.1 = true) (hp : oc1 a10 = true) (hr : F.2.2.2.2.2.all (fun q => !(q.1 == 11) && !(q.1 + 1 == 11)) = true) (k : xV F (pc + 2) (a0 :: a1 :: a2 :: a3 :: a4 :: a5 :: a6 :: a7 :: a8 :: a9 :: a10 :: some (.int x) :: tl) st n h ce sl) : xV F pc (a0 :: a1 :: a2 :: a3 :: a4 :: a5 :: a6 :: a7 :: a8 :: a9 :: a10 :: b :: tl) (.int x :: st) n h ce sl := y_istore_w (i := 11) hd (Nat.le_of_ble_eq_true hn) (by simp) (fun w _ h1 => oc1_of hp w (Option.some.inj h1)) hr k
theorem x_astore11 {a0 a1 a2 a3 a4 a5 a6 a7 a8 a9 a10 : Option Value} {tl : List (Option Value)} {b : Option Value} {x : Nat} (hd : decode F.2.1.2.1 pc = .ok (.astore 11, 2)) (hn : Nat.ble 12 F.2.1.2.2.1 = true) (hp : oc1 a10 = true) (hr : F.2.2.2.2.2.all (fun q => !(q.1 == 11) && !(q.1 + 1 == 11)) = true) (k : xV F (pc + 2) (a0 :: a1 :: a2 :: a3 :: a4 :: a5 :: a6 :: a7 :: a8 :: a9 :: a10 :: some (.ref x) :: tl) st n h ce sl) : xV F pc (a0 :: a1 :: a2 :: a3 :: a4 :: a5 :: a6 :: a7 :: a8 :: a9 :: a10 :: b :: tl) (.ref x :: st) n h ce sl := y_astore_w (i := 11) hd (Nat.le_of_ble_eq_true hn) (by simp) (fun w _ h1 => oc1_of hp w (Option.some.inj h1)) hr k
theorem x_astoreN11 {a0 a1 a2 a3 a4 a5 a6 a7 a8 a9 a10 : Option Value} {tl : List (Option Value)} {b : Option Value} (hd : decode F.2.1.2.1 pc = .ok (.astore 11, 2)) (hn : Nat.ble 12 F.2.1.2.2.1 = true) (hp : oc1 a10 = true) (hr : F.2.2.2.2.2.all (fun q => !(q.1 == 11) && !(q.1 + 1 == 11)) = true) (k : xV F (pc + 2) (a0 :: a1 :: a2 :: a3 :: a4 :: a5 :: a6 :: a7 :: a8 :: a9 :: a10 :: some (.null) :: tl) st n h ce sl) : xV F pc (a0 :: a1 :: a2 :: a3 :: a4 :: a5 :: a6 :: a7 :: a8 :: a9 :: a10 :: b :: tl) (.null :: st) n h ce sl := y_astoreN_w (i := 11) hd (Nat.le_of_ble_eq_true hn) (by simp) (fun w _ h1 => oc1_of hp w (Option.some.inj h1)) hr k
theorem x_lstore11 {a0 a1 a2 a3 a4 a5 a6 a7 a8 a9 a10 : Option Value} {tl : List (Option Value)} {b b2 : Option Value} {x : Int64} (hd : decode F.2.1.2.1 pc = .ok (.lstore 11, 2)) (hn : Nat.ble 13 F.2.1.2.2.1 = true) (hp : oc1 a10 = true) (hr : F.2.2.2.2.2.all (fun q => !(q.1 == 11) && !(q.1 + 1 == 11) && !(q.1 == 11 + 1)) = true) (k : xV F (pc + 2) (a0 :: a1 :: a2 :: a3 :: a4 :: a5 :: a6 :: a7 :: a8 :: a9 :: a10 :: some (.long x) :: none :: tl) st n h ce sl) : xV F pc (a0 :: a1 :: a2 :: a3 :: a4 :: a5 :: a6 :: a7 :: a8 :: a9 :: a10 :: b :: b2 :: tl) (.long x :: st) n h ce sl := y_lstore_w (i := 11) hd (Nat.le_of_ble_eq_true hn) (by simp) (fun w _ h1 => oc1_of hp w (Option.some.inj h1)) hr k
theorem x_iinc11 {a0 a1 a2 a3 a4 a5 a6 a7 a8 a9 a10 : Option Value} {tl : List (Option Value)} {x : Int32} {z : Int} (v : Int32) (hd : decode F.2.1.2.1 pc = .ok (.iinc 11 z, 3)) (hv : x + Int32.ofInt z = v) (hn : Nat.ble 12 F.2.1.2.2.1 = true) (hp : oc1 a10 = true) (hr : F.2.2.2.2.2.all (fun q => !(q.1 == 11) && !(q.1 + 1 == 11)) = true) (k : xV F (pc + 3) (a0 :: a1 :: a2 :: a3 :: a4 :: a5 :: a6 :: a7 :: a8 :: a9 :: a10 :: some (.int v) :: tl) st n h ce sl) : xV F pc (a0 :: a1 :: a2 :: a3 :: a4 :: a5 :: a6 :: a7 :: a8 :: a9 :: a10 :: some (.int x) :: tl) st n h ce sl := y_iinc (i := 11) rfl hd hv (Nat.le_of_ble_eq_true hn) (fun w _ h1 => oc1_of hp w (Option.some.inj h1)) hr k
theorem x_iload12 {a0 a1 a2 a3 a4 a5 a6 a7 a8 a9 a10 a11 : Option Value} {tl : List (Option Value)} {x : Int32} (hd : decode F.2.1.2.1 pc = .ok (.iload 12, 2)) (k : xV F (pc + 2) (a0 :: a1 :: a2 :: a3 :: a4 :: a5 :: a6 :: a7 :: a8 :: a9 :: a10 :: a11 :: some (.int x) :: tl) (.int x :: st) n h ce sl) : xV F pc (a0 :: a1 :: a2 :: a3 :: a4 :: a5 :: a6 :: a7 :: a8 :: a9 :: a10 :: a11 :: some (.int x) :: tl) st n h ce sl := y_iload_w (i := 12) rfl hd k
theorem x_lload12 {a0 a1 a2 a3 a4 a5 a6 a7 a8 a9 a10 a11 : Option Value} {tl : List (Option Value)} {x : Int64} (hd : decode F.2.1.2.1 pc = .ok (.lload 12, 2)) (k : xV F (pc + 2) (a0 :: a1 :: a2 :: a3 :: a4 :: a5 :: a6 :: a7 :: a8 :: a9 :: a10 :: a11 :: some (.long x) :: tl) (.long x :: st) n h ce sl) : xV F pc (a0 :: a1 :: a2 :: a3 :: a4 :: a5 :: a6 :: a7 :: a8 :: a9 :: a10 :: a11 :: some (.long x) :: tl) st n h ce sl := y_lload_w (i := 12) rfl hd k
theorem x_aload12 {a0 a1 a2 a3 a4 a5 a6 a7 a8 a9 a10 a11 : Option Value} {tl : List (Option Value)} {x : Nat} (hd : decode F.2.1.2.1 pc = .ok (.aload 12, 2)) (k : xV F (pc + 2) (a0 :: a1 :: a2 :: a3 :: a4 :: a5 :: a6 :: a7 :: a8 :: a9 :: a10 :: a11 :: some (.ref x) :: tl) (.ref x :: st) n h ce sl) : xV F pc (a0 :: a1 :: a2 :: a3 :: a4 :: a5 :: a6 :: a7 :: a8 :: a9 :: a10 :: a11 :: some (.ref x) :: tl) st n h ce sl := y_aload_w (i := 12) rfl hd k
theorem x_aloadN12 {a0 a1 a2 a3 a4 a5 a6 a7 a8 a9 a10 a11 : Option Value} {tl : List (Option Value)} (hd : decode F.2.1.2.1 pc = .ok (.aload 12, 2)) (k : xV F (pc + 2) (a0 :: a1 :: a2 :: a3 :: a4 :: a5 :: a6 :: a7 :: a8 :: a9 :: a10 :: a11 :: some .null :: tl) (.null :: st) n h ce sl) : xV F pc (a0 :: a1 :: a2 :: a3 :: a4 :: a5 :: a6 :: a7 :: a8 :: a9 :: a10 :: a11 :: some .null :: tl) st n h ce sl := y_aloadN_w (i := 12) rfl hd k
theorem x_istore12 {a0 a1 a2 a3 a4 a5 a6 a7 a8 a9 a10 a11 : Option Value} {tl : List (Option Value)} {b : Option Value} {x : Int32} (hd : decode F.2.1.2.1 pc = .ok (.istore 12, 2)) (hn : Nat.ble 13 F.2.1.2.2.1 = true) (hp : oc1 a11 = true) (hr : F.2.2.2.2.2.all (fun q => !(q.1 == 12) && !(q.1 + 1 == 12)) = true) (k : xV F (pc + 2) (a0 :: a1 :: a2 :: a3 :: a4 :: a5 :: a6 :: a7 :: a8 :: a9 :: a10 :: a11 :: some (.int x) :: tl) st n h ce sl) : xV F pc (a0 :: a1 :: a2 :: a3 :: a4 :: a5 :: a6 :: a7 :: a8 :: a9 :: a10 :: a11 :: b :: tl) (.int x :: st) n h ce sl := y_istore_w (i := 12) hd (Nat.le_of_ble_eq_true hn) (by simp) (fun w _ h1 => oc1_of hp w (Option.some.inj h1)) hr k
theorem x_astore12 {a0 a1 a2 a3 a4 a5 a6 a7 a8 a9 a10 a11 : Option Value} {tl : List (Option Value)} {b : Option Value} {x : Nat} (hd : decode F.2.1.2.1 pc = .ok (.astore 12, 2)) (hn : Nat.ble 13 F.2.1.2.2.1 = true) (hp : oc1 a11 = true) (hr : F.2.2.2.2.2.all (fun q => !(q.1 == 12) && !(q.1 + 1 == 12)) = true) (k : xV F (pc + 2) (a0 :: a1 :: a2 :: a3 :: a4 :: a5 :: a6 :: a7 :: a8 :: a9 :: a10 :: a11 :: some (.ref x) :: tl) st n h ce sl) : xV F pc (a0 :: a1 :: a2 :: a3 :: a4 :: a5 :: a6 :: a7 :: a8 :: a9 :: a10 :: a11 :: b :: tl) (.ref x :: st) n h ce sl := y_astore_w (i := 12) hd (Nat.le_of_ble_eq_true hn) (by simp) (fun w _ h1 => oc1_of hp w (Option.some.inj h1)) hr k
theorem x_astoreN12 {a0 a1 a2 a3 a4 a5 a6 a7 a8 a9 a10 a11 : Option Value} {tl : List (Option Value)} {b : Option Value} (hd : decode F.2.1.2.1 pc = .ok (.astore 12, 2)) (hn : Nat.ble 13 F.2.1.2.2.1 = true) (hp : oc1 a11 = true) (hr : F.2.2.2.2.2.all (fun q => !(q.1 == 12) && !(q.1 + 1 == 12)) = true) (k : xV F (pc + 2) (a0 :: a1 :: a2 :: a3 :: a4 :: a5 :: a6 :: a7 :: a8 :: a9 :: a10 :: a11 :: some (.null) :: tl) st n h ce sl) : xV F pc (a0 :: a1 :: a2 :: a3 :: a4 :: a5 :: a6 :: a7 :: a8 :: a9 :: a10 :: a11 :: b :: tl) (.null :: st) n h ce sl := y_astoreN_w (i := 12) hd (Nat.le_of_ble_eq_true hn) (by simp) (fun w _ h1 => oc1_of hp w (Option.some.inj h1)) hr k
theorem x_lstore12 {a0 a1 a2 a3 a4 a5 a6 a7 a8 a9 a10 a11 : Option Value} {tl : List (Option Value)} {b b2 : Option Value} {x : Int64} (hd : decode F.2.1.2.1 pc = .ok (.lstore 12, 2)) (hn : Nat.ble 14 F.2.1.2.2.1 = true) (hp : oc1 a11 = true) (hr : F.2.2.2.2.2.all (fun q => !(q.1 == 12) && !(q.1 + 1 == 12) && !(q.1 == 12 + 1)) = true) (k : xV F (pc + 2) (a0 :: a1 :: a2 :: a3 :: a4 :: a5 :: a6 :: a7 :: a8 :: a9 :: a10 :: a11 :: some (.long x) :: none :: tl) st n h ce sl) : xV F pc (a0 :: a1 :: a2 :: a3 :: a4 :: a5 :: a6 :: a7 :: a8 :: a9 :: a10 :: a11 :: b :: b2 :: tl) (.long x :: st) n h ce sl := y_lstore_w (i := 12) hd (Nat.le_of_ble_eq_true hn) (by simp) (fun w _ h1 => oc1_of hp w (Option.some.inj h1)) hr k
theorem x_iinc12 {a0 a1 a2 a3 a4 a5 a6 a7 a8 a9 a10 a11 : Option Value} {tl : List (Option Value)} {x : Int32} {z : Int} (v : Int32) (hd : decode F.2.1.2.1 pc = .ok (.iinc 12 z, 3)) (hv : x + Int32.ofInt z = v) (hn : Nat.ble 13 F.2.1.2.2.1 = true) (hp : oc1 a11 = true) (hr : F.2.2.2.2.2.all (fun q => !(q.1 == 12) && !(q.1 + 1 == 12)) = true) (k : xV F (pc + 3) (a0 :: a1 :: a2 :: a3 :: a4 :: a5 :: a6 :: a7 :: a8 :: a9 :: a10 :: a11 :: some (.int v) :: tl) st n h ce sl) : xV F pc (a0 :: a1 :: a2 :: a3 :: a4 :: a5 :: a6 :: a7 :: a8 :: a9 :: a10 :: a11 :: some (.int x) :: tl) st n h ce sl := y_iinc (i := 12) rfl hd hv (Nat.le_of_ble_eq_true hn) (fun w _ h1 => oc1_of hp w (Option.some.inj h1)) hr k
end XP
end
section
/-! ===== contracts over xV, and the rules of the heap and of calls ===== -/
def vx_ws (mt : vx_M) : List Cond := .code mt.1 mt.2.1 mt.2.2.1 mt.2.2.2 :: lw_ok
def vx_rm (d mc ms : Nat) : Room := { frames := d, cells := mc, slots := ms, locals := 64 * d }
def vx_Qc (G : vx_G) (Q : Option Value → Nat → vx_H → Prop) : Array Value → State → Outcome → State → Prop := fun _ st oc t => (∃ (v : Option Value) (n : Nat) (h : vx_H), oc = .returned (v.map (rv G.2.2.2)) ∧ Q v n h ∧ HR G n h t.heap) ∧ va_F (fun q => G.2.2.2 ≤ q) st t
def vx_Pc (G : vx_G) (av : List Value) (n : Nat) (h : vx_H) : Array Value → State → Prop := va_Pc (av.map (rv G.2.2.2)) (fun U => HR G n h U.heap ∧ va_K G.2.1 vwCl (vx_ty G) U ∧ xN U)
/-- the contract of a method: from these arguments and this heap, at this depth, it ends with Q -/
def xK (G : vx_G) (mt : vx_M) (d : Nat) (av : List Value) (n : Nat) (h : vx_H) (mc ms : Nat) (Q : Option Value → Nat → vx_H → Prop) : Prop :=
  Met G.1 mt.1 (vx_ws mt) (vx_rm d mc ms) (vx_Pc G av n h) (vx_Qc G Q) mc ms (fun q => G.2.2.2 ≤ q)
theorem vx_blind (G : vx_G) (av : List Value) (n : Nat) (h : vx_H) : FrameBlind (vx_Pc G av n h) := by
  intro a U g mk q
  obtain ⟨q0, q1, q2, q3⟩ := q
  exact ⟨q0, q1, va_K.moved (u := U) (U := U.calling g mk a) (Vm.Alike.refl U.vm) q2, q3.blind⟩
/-- a method's own frame -/
abbrev mF (G : vx_G) (mt : vx_M) (d mc ms : Nat) (Q : Option Value → Nat → vx_H → Prop) : vx_F :=
  (G, mt, vx_rm d mc ms, fun below args s => MQ below (vx_Qc G Q) args s mc ms (fun q => G.2.2.2 ≤ q), fun _ => True, [])
/-- the locals at a method's entry -/
def lvI : List Value → List (Option Value)
  | [] => []
  | v :: vs => if v.category = 2 then some v :: none :: lvI vs else some v :: lvI vs
theorem lvI_args (b : Nat) : ∀ (i : Nat) (vs : List Value) (k : Nat), lvE b i (lvI vs ++ List.replicate k none) = lv_args i (vs.map (rv b))
  | i, [], k => by
    show lvE b i (List.replicate k none) = []
    induction k generalizing i with
    | zero => rfl
    | succ k ih => exact ih (i + 1)
  | i, v :: vs, k => by
    show lvE b i ((if v.category = 2 then some v :: none :: lvI vs else some v :: lvI vs) ++ _) = (i, rv b v) :: lv_args (if (rv b v).category = 2 then i + 2 else i + 1) (vs.map (rv b))
    rw [rv_cat]
    by_cases hc : v.category = 2
    · rw [if_pos hc, if_pos hc]
      exact congrArg _ (lvI_args b (i + 2) vs k)
    · rw [if_neg hc, if_neg hc]
      exact congrArg _ (lvI_args b (i + 1) vs k)
theorem lg_rv (b : Nat) : ∀ vs : List Value, (lg_sl (vs.map (rv b))).length = (lvI vs).length
  | [] => rfl
  | v :: vs => by
    have ih := lg_rv b vs
    simp only [lg_sl] at ih
    by_cases hc : v.category = 2
    · simp [lg_sl, lvI, rv_cat, hc, ih]
    · simp [lg_sl, lvI, rv_cat, hc, ih]
theorem xK.ofV {G : vx_G} {mt : vx_M} {d : Nat} {av : List Value} {n : Nat} {h : vx_H} {mc ms : Nat} {Q : Option Value → Nat → vx_H → Prop} (hp : plainName mt.1.cls = true) (ha : (lvI av).length ≤ mt.2.2.1)
    (k : xV (mF G mt d mc ms Q) 0 (lvI av ++ List.replicate (mt.2.2.1 - (lvI av).length) none) [] n h 0 0) : xK G mt d av n h mc ms Q := by
  refine Met.ofW (cc := mt.2.1) (maxL := mt.2.2.1) (ret := mt.2.2.2) hp rfl ?_
  intro p e s m args below meth c s₁ B hml hv
  obtain ⟨rfl, hH, hK, hN⟩ := hv
  have hts := atoms_spec (ws := vx_ws mt) B.pre
  have hown : s.vm.findClass mt.1.cls = some m.cls := findClass_of_methodNamed B.named
  have hl := lv_entry (av.map (rv G.2.2.2)) (n := mt.2.2.1) (by rw [lg_rv]; exact ha)
  rw [lg_entry_eq]
  refine k p e s m _ below meth c ⟨B.exec, B.bytes, B.returns, hml, hown, fun w hw => hts w (List.mem_cons_of_mem _ hw), B.notSynchronized, hK, ?_, (name_of_methodNamed B.named B.method).1, hN, trivial⟩ s.heap [] _ hH va_S.rf ?_
  · rw [hH.2]; exact Nat.le_add_right _ _
  · show lv_has _ mt.2.2.1 ([] ++ lvE G.2.2.2 0 (lvI av ++ _))
    rw [lvI_args]
    exact hl
section XH
variable {F : vx_F} {pc : Nat} {L : List (Option Value)} {st : List Value} {n : Nat} {h : vx_H} {ce sl : Nat}
theorem rv_narrow {b : Nat} {ty : FieldType} {v : Value} (hn : narrow ty v = v) : narrow ty (rv b v) = rv b v := by
  cases v with
  | ref a => cases ty <;> rfl
  | _ => exact hn
theorem rv_fits {b : Nat} {ty : FieldType} {v : Value} (hn : fits ty v = true) : fits ty (rv b v) = true := by
  cases v with
  | ref a => cases ty <;> first | exact hn | simp [fits] at hn
  | _ => exact hn
end XH
end
section
/-! ===== the heap's rules ===== -/
section XH
variable {F : vx_F} {pc : Nat} {L : List (Option Value)} {st : List Value} {n : Nat} {h : vx_H} {ce sl : Nat}
theorem HR.upd {G : vx_G} {a : Nat} {e : va_E} {H H1 : Heap} (hH : HR G n h H) (ha : a < n) (he : va_at G.2.1 vwCl (G.2.2.2 + a, cvE G e) H1) (hz : H1.size = H.size) (oq : ∀ q : Nat, q ≠ G.2.2.2 + a → H1[q]? = H[q]?) : HR G n (va_up h a e) H1 :=
  ⟨by rw [← wl_set]; exact hH.1.set (wl_D G n h) (wl_get ha) he oq, hz.trans hH.2⟩
theorem HR.lt {G : vx_G} {a : Nat} {H : Heap} (hH : HR G n h H) (ha : a < n) : G.2.2.2 + a < H.size := by rw [hH.2]; omega
theorem HR.cell {G : vx_G} {a : Nat} {H : Heap} (hH : HR G n h H) (ha : a < n) : va_at G.2.1 vwCl (G.2.2.2 + a, cvE G (h a)) H := hH.1 a _ (wl_get ha)
theorem HR.put {G : vx_G} {a k : Nat} {H0 H H1 : Heap} {locs : List Loc} (hS : va_S (fun q => G.2.2.2 ≤ q) H0 H locs) (z : H1.size = H.size) (oq : ∀ q : Nat, q ≠ G.2.2.2 + a → H1[q]? = H[q]?) : va_S (fun q => G.2.2.2 ≤ q) H0 H1 (locs ++ [⟨G.2.2.2 + a, k⟩]) := hS.put z oq (Nat.le_add_right _ _)
/-- fields -/
def xFG (own : String) (idx ci k : Nat) : Prop := ∃ (C : String) (T : u_T) (N : Nat), vwCl[ci]? = some (C, T, N) ∧ k < N ∧ Cond.fieldLink own idx (T k).1 (T k).2.1 (T k).2.2.1 ∈ lw_ok ∧ ∀ w ∈ u_ws C T N, w ∈ lw_ok
def xFP (own : String) (idx ci k : Nat) (ty : FieldType) (fin : Bool) : Prop := ∃ (C : String) (T : u_T) (N : Nat) (ty0 : Nat → FieldType), vwCl[ci]? = some (C, T, N) ∧ k < N ∧ Cond.fieldLink own idx (T k).1 (T k).2.1 (T k).2.2.1 ∈ lw_ok ∧ (∀ w ∈ u_ws C T N, w ∈ lw_ok) ∧ (∀ k, k < N → parseFieldDescriptor (T k).2.2.1 = some (ty0 k)) ∧ (∀ a, a < N → ∀ b, b < N → a ≠ b → (T a).2.1 ≠ (T b).2.1) ∧ (T k).2.2.2 = fin ∧ parseFieldDescriptor (T k).2.2.1 = some ty ∧ (fin = true → (T k).1 = own)
theorem x_getf {idx ci k : Nat} (hf : xFG F.2.1.1.cls idx ci k) {a : Nat} (ha : a < n) {fs : List Value} (he : h a = .inr (ci, fs)) {v : Value} (hv : fs[k]? = some v) (hd : decode F.2.1.2.1 pc = .ok (.getfield idx, 3))
    (kk : xV F (pc + 3) L (v :: st) n h ce sl) : xV F pc L (.ref a :: st) n h ce sl := by
  intro p e s m args below meth c X H locs ls hH hS hl
  obtain ⟨C, T, N, h1, h2, h3, h4⟩ := hf
  exact va_get (D := F.1.2.1) (cl := vwCl) (tys := vx_ty F.1) (ws := wl F.1 n h) (a := F.1.2.2.2 + a) (ref := (T k).1) X.1 X.2.1 X.2.2.2.2.2.1 h4 X.2.2.2.2.1 X.2.2.2.2.2.2.2.1 hH.1 a (fs := fs.map (rv F.1.2.2.2)) (by rw [wl_get ha, he]; rfl) h1 k h2 (X.2.2.2.2.2.1 _ h3) (fun _ h9 => h9) (v := rv F.1.2.2.2 v) (by rw [List.getElem?_map, hv]; rfl) hd (kk p e s m args below meth c X H locs ls hH hS hl)
theorem rv_set (b : Nat) (fs : List Value) (k : Nat) (v : Value) : (fs.set k v).map (rv b) = (fs.map (rv b)).set k (rv b v) := by rw [List.map_set]
theorem x_putf {idx ci k : Nat} {ty : FieldType} (hf : xFP F.2.1.1.cls idx ci k ty false) {a : Nat} (ha : a < n) {fs : List Value} (he : h a = .inr (ci, fs)) {v : Value} (hn : narrow ty v = v) (hfit : fits ty v = true) (hl0 : k < fs.length) (hd : decode F.2.1.2.1 pc = .ok (.putfield idx, 3))
    (kk : xV F (pc + 3) L st n (va_up h a (.inr (ci, fs.set k v))) ce sl) : xV F pc L (v :: .ref a :: st) n h ce sl := by
  intro p e s m args below meth c X H locs ls hH hS hl
  obtain ⟨C, T, N, ty0, hc, hk, hw, hin, hty, hnm, hfin, hd0, -⟩ := hf
  have hts := X.2.2.2.2.2.1
  have hown := X.2.2.2.2.1
  have hK := X.2.2.2.2.2.2.2.1
  have hap := va_apart (own := F.2.1.1.cls) hts hin ty0 hty hnm hK hc
  have hcell := hH.cell ha
  rw [he] at hcell
  obtain ⟨r, h1, cell, q1, q2, q3, q4⟩ := hcell
  have hr : r = (C, T, N) := Option.some.inj (h1.symm.trans hc)
  subst hr
  obtain ⟨hSl, hfc, kC, hkC, hkind⟩ := hK.1 ci _ hc
  obtain ⟨cf, kf, fi, f, hi, hsl⟩ := hSl k hk
  have hlay := hts _ (hin _ (u_in_lay hk))
  unfold u_lay at hlay
  rw [if_neg (by rw [hfin]; decide)] at hlay
  have hst := (u_facts hfc hkC (u_lays hts hin hk) hi).1
  have h6 := u_store hfc hkC hkind hlay hi hd0 (rv_narrow (b := F.1.2.2.2) hn) (rv_fits (b := F.1.2.2.2) hfit)
  refine W.putK X.1 X.2.1 (f := f) ⟨hown, hts _ hw, ⟨_, _, _, hi⟩, hst⟩ (by rw [q2]; exact h6) q1 q3 (by rw [hsl]; exact k2_hasslot (q4 k hk)) rfl rfl hd fun H' e1 e2 e3 => ?_
  rw [hsl] at e1 ⊢
  refine kk p e s m args below meth c X H' _ ls (hH.upd ha ⟨_, hc, t_OB.to (V := updV (vp_V (fs.map (rv F.1.2.2.2))) k (rv F.1.2.2.2 v)) ⟨_, e1, q2, q3, t_set q4 hap hk _⟩ (fun j _ => ?_)⟩ e2 e3) (HR.put hS e2 e3) hl
  rw [rv_set]
  exact vp_updV_set (by rw [List.length_map]; exact hl0) _ j
theorem x_putF {idx ci k : Nat} {ty : FieldType} (hf : xFP F.2.1.1.cls idx ci k ty true) {a : Nat} (ha : a < n) {fs : List Value} (he : h a = .inr (ci, fs)) {v : Value} (hini : F.2.1.1.name = "<init>") (hn : narrow ty v = v) (hfit : fits ty v = true) (hl0 : k < fs.length) (hd : decode F.2.1.2.1 pc = .ok (.putfield idx, 3))
    (kk : xV F (pc + 3) L st n (va_up h a (.inr (ci, fs.set k v))) ce sl) : xV F pc L (v :: .ref a :: st) n h ce sl := by
  intro p e s m args below meth c X H locs ls hH hS hl
  obtain ⟨C, T, N, ty0, hc, hk, hw, hin, hty, hnm, hfin, hd0, hdecl⟩ := hf
  have hts := X.2.2.2.2.2.1
  have hown := X.2.2.2.2.1
  have hK := X.2.2.2.2.2.2.2.1
  have hin2 : meth.name = "<init>" := X.2.2.2.2.2.2.2.2.2.1.trans hini
  have hap := va_apart (own := F.2.1.1.cls) hts hin ty0 hty hnm hK hc
  have hcell := hH.cell ha
  rw [he] at hcell
  obtain ⟨r, h1, cell, q1, q2, q3, q4⟩ := hcell
  have hr : r = (C, T, N) := Option.some.inj (h1.symm.trans hc)
  subst hr
  obtain ⟨hSl, hfc, kC, hkC, hkind⟩ := hK.1 ci _ hc
  obtain ⟨cf, kf, fi, f, hi, hsl⟩ := hSl k hk
  have hlay := hts _ (hin _ (u_in_lay hk))
  unfold u_lay at hlay
  rw [if_pos hfin] at hlay
  have hst := (u_facts hfc hkC (u_lays hts hin hk) hi).1
  have hcf : m.cls = cf := by
    obtain ⟨_, _, c', _, _, _, -, -, hf', -, -, -, hown2, -⟩ := Cond.laysFinal_spec hlay
    have e1 : c' = cf := by have := hi.symm.trans hf'; simp at this; exact this.1.symm
    rw [hdecl rfl] at hown2
    rw [← e1]; exact Option.some.inj (hown.symm.trans hown2)
  have h6 := u_fits hfc hkC hkind (Or.inr hlay) hi hd0 (rv_narrow (b := F.1.2.2.2) hn) (rv_fits (b := F.1.2.2.2) hfit)
  refine W.putFinK X.1 X.2.1 hown (hts _ hw) hi hst hcf hin2 (by rw [q2]; exact h6) q1 q3 (by rw [hsl]; exact k2_hasslot (q4 k hk)) rfl rfl hd fun H' e1 e2 e3 => ?_
  rw [hsl] at e1 ⊢
  refine kk p e s m args below meth c X H' _ ls (hH.upd ha ⟨_, hc, t_OB.to (V := updV (vp_V (fs.map (rv F.1.2.2.2))) k (rv F.1.2.2.2 v)) ⟨_, e1, q2, q3, t_set q4 hap hk _⟩ (fun j _ => ?_)⟩ e2 e3) (HR.put hS e2 e3) hl
  rw [rv_set]
  exact vp_updV_set (by rw [List.length_map]; exact hl0) _ j

theorem x_iald {a : Nat} (ha : a < n) {N : Nat} {f : Nat → Int32} (he : h a = .inl (0, N, .inl f)) {i : Int32} (hin : vp_in i N) (hd : decode F.2.1.2.1 pc = .ok (.iaload, 1))
    (kk : xV F (pc + 1) L (.int (f i.toNatClampNeg) :: st) n h ce sl) : xV F pc L (.int i :: .ref a :: st) n h ce sl := by
  intro p e s m args below meth c X H locs ls hH hS hl
  exact va_iald (D := F.1.2.1) (cl := vwCl) (tys := vx_ty F.1) (ws := wl F.1 n h) (a := F.1.2.2.2 + a) X.1 X.2.1 X.2.2.2.2.2.2.2.1 hH.1 a 0 (by rw [wl_get ha, he]; rfl) rfl hin hd (kk p e s m args below meth c X H locs ls hH hS hl)
theorem x_zald {a : Nat} (ha : a < n) {N : Nat} {f : Nat → Int32} (he : h a = .inl (1, N, .inl f)) {i : Int32} (hin : vp_in i N) (hd : decode F.2.1.2.1 pc = .ok (.baload, 1))
    (kk : xV F (pc + 1) L (.int (f i.toNatClampNeg) :: st) n h ce sl) : xV F pc L (.int i :: .ref a :: st) n h ce sl := by
  intro p e s m args below meth c X H locs ls hH hS hl
  exact va_zald (D := F.1.2.1) (cl := vwCl) (tys := vx_ty F.1) (ws := wl F.1 n h) (a := F.1.2.2.2 + a) X.1 X.2.1 X.2.2.2.2.2.2.2.1 hH.1 a 1 (by rw [wl_get ha, he]; rfl) rfl hin hd (kk p e s m args below meth c X H locs ls hH hS hl)
theorem x_lald {a : Nat} (ha : a < n) {N : Nat} {f : Nat → Int64} (he : h a = .inl (2, N, .inr (.inl f))) {i : Int32} (hin : vp_in i N) (hd : decode F.2.1.2.1 pc = .ok (.laload, 1))
    (kk : xV F (pc + 1) L (.long (f i.toNatClampNeg) :: st) n h ce sl) : xV F pc L (.int i :: .ref a :: st) n h ce sl := by
  intro p e s m args below meth c X H locs ls hH hS hl
  exact va_lald (D := F.1.2.1) (cl := vwCl) (tys := vx_ty F.1) (ws := wl F.1 n h) (a := F.1.2.2.2 + a) X.1 X.2.1 X.2.2.2.2.2.2.2.1 hH.1 a 2 (by rw [wl_get ha, he]; rfl) rfl hin hd (kk p e s m args below meth c X H locs ls hH hS hl)
theorem rv_rf (b : Nat) (r : Option Nat) : rv b (va_rf r) = va_rf (r.map (fun a => b + a)) := by cases r <;> rfl
theorem x_aald {t : Nat} (ht : t = 3 ∨ t = 4 ∨ t = 5 ∨ t = 6) {a : Nat} (ha : a < n) {N : Nat} {f : Nat → Option Nat} (he : h a = .inl (t, N, .inr (.inr (.inr (.inr f))))) {i : Int32} (hin : vp_in i N) (hd : decode F.2.1.2.1 pc = .ok (.aaload, 1))
    (kk : xV F (pc + 1) L (va_rf (f i.toNatClampNeg) :: st) n h ce sl) : xV F pc L (.int i :: .ref a :: st) n h ce sl := by
  intro p e s m args below meth c X H locs ls hH hS hl
  have k1 := kk p e s m args below meth c X H locs ls hH hS hl
  rw [List.map_cons, rv_rf] at k1
  have hcell := hH.cell ha
  rw [he] at hcell
  have hcell : H[F.1.2.2.2 + a]? = some (vp_cell (F.1.2.2.1 t) (N, .inr (.inr (.inr (.inr (fun i => (f i).map (fun a => F.1.2.2.2 + a))))))) := hcell
  have hlt : i.toNatClampNeg < N := Nat.not_le.mp fun q => hin (Or.inr q)
  have hK := X.2.2.2.2.2.2.2.1
  obtain ⟨ty, hty, harr⟩ : ∃ ty : FieldType, ty.isReference = true ∧ ArrOfT s (F.1.2.2.1 t) ty := by
    rcases ht with rfl | rfl | rfl | rfl
    · exact ⟨_, rfl, (hK.2 3 _ rfl).1⟩
    · exact ⟨_, rfl, (hK.2 4 _ rfl).1⟩
    · exact ⟨_, rfl, (hK.2 5 _ rfl).1⟩
    · exact ⟨_, rfl, (hK.2 6 _ rfl).1⟩
  exact W.aald (v := va_rf ((f i.toNatClampNeg).map (fun a => F.1.2.2.2 + a))) (ty := ty) X.1 X.2.1 hcell (harr N (fun j => va_rf ((f j).map (fun a => F.1.2.2.2 + a)))) hty (fun q => by cases q) (by show ¬ (i < 0 ∨ (arrV _ _ _).slots.size ≤ _); rw [arrV_size]; exact hin) (by show (arrV _ _ _).slots[_]? = _; rw [arrV_read _ _ hlt]) rfl rfl hd k1
theorem x_alen {t : Nat} (ht : t < 7) {a : Nat} (ha : a < n) {z : vp_A} (he : h a = .inl (t, z)) {v : Int32} (hv : Int32.ofNat z.1 = v) (hd : decode F.2.1.2.1 pc = .ok (.arraylength, 1))
    (kk : xV F (pc + 1) L (.int v :: st) n h ce sl) : xV F pc L (.ref a :: st) n h ce sl := by
  intro p e s m args below meth c X H locs ls hH hS hl
  have k1 := kk p e s m args below meth c X H locs ls hH hS hl
  have hz : (cvA F.1.2.2.2 z).1 = z.1 := by
    obtain ⟨N, f | f | f | f | f⟩ := z <;> rfl
  obtain ⟨ty, hty⟩ : ∃ ty : FieldType, (vx_ty F.1)[t]? = some (F.1.2.2.1 t, ty) := by
    rcases (show t = 0 ∨ t = 1 ∨ t = 2 ∨ t = 3 ∨ t = 4 ∨ t = 5 ∨ t = 6 by omega) with rfl | rfl | rfl | rfl | rfl | rfl | rfl <;> exact ⟨_, rfl⟩
  exact va_alen (D := F.1.2.1) (cl := vwCl) (tys := vx_ty F.1) (ws := wl F.1 n h) (a := F.1.2.2.2 + a) X.1 X.2.1 X.2.2.2.2.2.2.2.1 hH.1 a t (x := cvA F.1.2.2.2 z) (by rw [wl_get ha, he]; rfl) hty (by rw [hz]; exact hv) hd k1

theorem x_iast {a : Nat} (ha : a < n) {N : Nat} {f : Nat → Int32} (he : h a = .inl (0, N, .inl f)) {i : Int32} {x : Int32} (hin : vp_in i N) (hd : decode F.2.1.2.1 pc = .ok (.iastore, 1))
    (kk : xV F (pc + 1) L st n (va_up h a (.inl (0, N, .inl (upd f i.toNatClampNeg x)))) ce sl) : xV F pc L (.int x :: .int i :: .ref a :: st) n h ce sl := by
  intro p e s m args below meth c X H locs ls hH hS hl
  have hcell := hH.cell ha
  rw [he] at hcell
  have hK := X.2.2.2.2.2.2.2.1
  refine W.iast X.1 X.2.1 hcell ((hK.2 0 _ rfl).1 N (fun j => .int (f j))) (fun q => by cases q) (by show ¬ (i < 0 ∨ (arrV _ _ _).slots.size ≤ _); rw [arrV_size]; exact hin) rfl rfl hd fun H1 e1 z oq => ?_
  refine kk p e s m args below meth c X H1 _ ls (hH.upd ha ?_ z oq) (HR.put hS z oq) hl
  show H1[F.1.2.2.2 + a]? = some (vp_cell _ _)
  rw [e1]
  show some (Cell.setSlot (vp_cell _ (N, .inl f)) _ _) = some (vp_cell _ (N, .inl (upd f i.toNatClampNeg x)))
  rw [vp_cell_i, vp_cell_i, arrV_store]
  congr 2
  funext q
  by_cases hq : q = i.toNatClampNeg
  · subst hq
    simp [updV, upd]
    try rfl
  · simp [updV, upd, hq]
theorem x_zast {a : Nat} (ha : a < n) {N : Nat} {f : Nat → Int32} (he : h a = .inl (1, N, .inl f)) {i : Int32} {x : Int32} (hin : vp_in i N) (hd : decode F.2.1.2.1 pc = .ok (.bastore, 1))
    (kk : xV F (pc + 1) L st n (va_up h a (.inl (1, N, .inl (upd f i.toNatClampNeg (vp_nar .boolean x))))) ce sl) : xV F pc L (.int x :: .int i :: .ref a :: st) n h ce sl := by
  intro p e s m args below meth c X H locs ls hH hS hl
  have hcell := hH.cell ha
  rw [he] at hcell
  have hK := X.2.2.2.2.2.2.2.1
  refine W.zast X.1 X.2.1 hcell ((hK.2 1 _ rfl).1 N (fun j => .int (f j))) (fun q => by cases q) (by show ¬ (i < 0 ∨ (arrV _ _ _).slots.size ≤ _); rw [arrV_size]; exact hin) rfl rfl hd fun H1 e1 z oq => ?_
  refine kk p e s m args below meth c X H1 _ ls (hH.upd ha ?_ z oq) (HR.put hS z oq) hl
  show H1[F.1.2.2.2 + a]? = some (vp_cell _ _)
  rw [e1]
  show some (Cell.setSlot (vp_cell _ (N, .inl f)) _ _) = some (vp_cell _ (N, .inl (upd f i.toNatClampNeg (vp_nar .boolean x))))
  rw [vp_cell_i, vp_cell_i, arrV_store]
  congr 2
  funext q
  by_cases hq : q = i.toNatClampNeg
  · subst hq
    simp [updV, upd, vp_nar]
    try rfl
  · simp [updV, upd, vp_nar, hq]
theorem x_last {a : Nat} (ha : a < n) {N : Nat} {f : Nat → Int64} (he : h a = .inl (2, N, .inr (.inl f))) {i : Int32} {x : Int64} (hin : vp_in i N) (hd : decode F.2.1.2.1 pc = .ok (.lastore, 1))
    (kk : xV F (pc + 1) L st n (va_up h a (.inl (2, N, .inr (.inl (vp_updL f i.toNatClampNeg x))))) ce sl) : xV F pc L (.long x :: .int i :: .ref a :: st) n h ce sl := by
  intro p e s m args below meth c X H locs ls hH hS hl
  have hcell := hH.cell ha
  rw [he] at hcell
  have hK := X.2.2.2.2.2.2.2.1
  refine W.last X.1 X.2.1 hcell ((hK.2 2 _ rfl).1 N (fun j => .long (f j))) (fun q => by cases q) (by show ¬ (i < 0 ∨ (arrV _ _ _).slots.size ≤ _); rw [arrV_size]; exact hin) rfl rfl hd fun H1 e1 z oq => ?_
  refine kk p e s m args below meth c X H1 _ ls (hH.upd ha ?_ z oq) (HR.put hS z oq) hl
  show H1[F.1.2.2.2 + a]? = some (vp_cell _ _)
  rw [e1]
  show some (Cell.setSlot (vp_cell _ (N, .inr (.inl f))) _ _) = some (vp_cell _ (N, .inr (.inl (vp_updL f i.toNatClampNeg x))))
  rw [vp_cell_l, vp_cell_l, arrV_store]
  congr 2
  funext q
  by_cases hq : q = i.toNatClampNeg
  · subst hq
    simp [updV, vp_updL]
    try rfl
  · simp [updV, vp_updL, hq]
theorem x_aast {t ci : Nat} {C : String} {T : u_T} {M : Nat} (hc : vwCl[ci]? = some (C, T, M)) (ht : (vx_ty F.1)[t]? = some (F.1.2.2.1 t, .object C)) {a b : Nat} (ha : a < n) (hb : b < n) {N : Nat} {f : Nat → Option Nat} (he : h a = .inl (t, N, .inr (.inr (.inr (.inr f))))) {vs : List Value} (hv : h b = .inr (ci, vs)) {i : Int32} (hin : vp_in i N) (hd : decode F.2.1.2.1 pc = .ok (.aastore, 1))
    (kk : xV F (pc + 1) L st n (va_up h a (.inl (t, N, .inr (.inr (.inr (.inr (va_up f i.toNatClampNeg (some b)))))))) ce sl) : xV F pc L (.ref b :: .int i :: .ref a :: st) n h ce sl := by
  intro p e s m args below meth c X H locs ls hH hS hl
  have hcell := hH.cell ha
  rw [he] at hcell
  have hcell : H[F.1.2.2.2 + a]? = some (vp_cell (F.1.2.2.1 t) (N, .inr (.inr (.inr (.inr (fun i => (f i).map (fun a => F.1.2.2.2 + a))))))) := hcell
  have hcv := hH.cell hb
  rw [hv] at hcv
  obtain ⟨r', hr', cellV, g1, g2, g3, -⟩ := hcv
  have hK := X.2.2.2.2.2.2.2.1
  have hlt : i.toNatClampNeg < N := Nat.not_le.mp fun q => hin (Or.inr q)
  have h0 : ¬ i < 0 := fun q => hin (Or.inl q)
  have hcls := (hK.1 ci _ hc).2
  obtain ⟨kA, comp, k1, k2, k3, -⟩ := (hK.2 t _ ht).2
  have hcomp : comp = F.1.2.1.1 ci := Option.some.inj (k3.symm.trans hcls.1)
  subst hcomp
  obtain ⟨kC, hkC, -⟩ := hcls.2
  refine W.aast X.1 X.2.1 hcell (fun q h => by cases h) (fun h => by cases h) k1 k2 rfl hkC ⟨h0, by show _ < (arrV _ _ _).slots.size; rw [arrV_size]; exact hlt⟩ g1 (fun q h => by rw [g3] at h; cases h) (by rw [g2]; exact hkC) (by rw [g2]; exact va_assign hcls) rfl rfl hd fun H1 e1 z oq => ?_
  refine kk p e s m args below meth c X H1 _ ls (hH.upd ha ?_ z oq) (HR.put hS z oq) hl
  show H1[F.1.2.2.2 + a]? = some (vp_cell _ _)
  rw [e1]
  show some (Cell.setSlot (vp_cell _ (N, .inr (.inr (.inr (.inr (fun i => (f i).map (fun a => F.1.2.2.2 + a))))))) _ _) = some (vp_cell _ (N, .inr (.inr (.inr (.inr (fun j => ((va_up f i.toNatClampNeg (some b)) j).map (fun a => F.1.2.2.2 + a)))))))
  rw [vp_cell_q, vp_cell_q, arrV_store]
  congr 2
  funext q
  by_cases hq : q = i.toNatClampNeg
  · subst hq
    simp [updV, va_up, va_rf]
  · simp [updV, va_up, hq]
theorem x_aastN {t : Nat} {C : String} (ht : (vx_ty F.1)[t]? = some (F.1.2.2.1 t, .object C)) {a : Nat} (ha : a < n) {N : Nat} {f : Nat → Option Nat} (he : h a = .inl (t, N, .inr (.inr (.inr (.inr f))))) {i : Int32} (hin : vp_in i N) (hd : decode F.2.1.2.1 pc = .ok (.aastore, 1))
    (kk : xV F (pc + 1) L st n (va_up h a (.inl (t, N, .inr (.inr (.inr (.inr (va_up f i.toNatClampNeg none))))))) ce sl) : xV F pc L (.null :: .int i :: .ref a :: st) n h ce sl := by
  intro p e s m args below meth c X H locs ls hH hS hl
  have hcell := hH.cell ha
  rw [he] at hcell
  have hcell : H[F.1.2.2.2 + a]? = some (vp_cell (F.1.2.2.1 t) (N, .inr (.inr (.inr (.inr (fun i => (f i).map (fun a => F.1.2.2.2 + a))))))) := hcell
  have hK := X.2.2.2.2.2.2.2.1
  refine va_WaastN (C := C) X.1 X.2.1 hcell ((hK.2 t _ ht).1 N (fun j => va_rf ((f j).map (fun a => F.1.2.2.2 + a)))) (fun h => by cases h) (by show ¬ (i < 0 ∨ (arrV _ _ _).slots.size ≤ _); rw [arrV_size]; exact hin) rfl rfl hd fun H1 e1 z oq => ?_
  refine kk p e s m args below meth c X H1 _ ls (hH.upd ha ?_ z oq) (HR.put hS z oq) hl
  show H1[F.1.2.2.2 + a]? = some (vp_cell _ _)
  rw [e1]
  show some (Cell.setSlot (vp_cell _ (N, .inr (.inr (.inr (.inr (fun i => (f i).map (fun a => F.1.2.2.2 + a))))))) _ _) = some (vp_cell _ (N, .inr (.inr (.inr (.inr (fun j => ((va_up f i.toNatClampNeg none) j).map (fun a => F.1.2.2.2 + a)))))))
  rw [vp_cell_q, vp_cell_q, arrV_store]
  congr 2
  funext q
  by_cases hq : q = i.toNatClampNeg
  · subst hq
    simp [updV, va_up, va_rf]
  · simp [updV, va_up, hq]
end XH
end
