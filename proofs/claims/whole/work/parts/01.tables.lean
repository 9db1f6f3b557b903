-- ===== PART A: goes FIRST, ahead of the names: the tables' words, and 'selects' of the private methods out of them =====
/-- a private method of a class that the tables say can be made, by its rows of tables_1 -/
def lw_okq (q : MethodName × Nat) : Prop := (q.1.cls ≠ "java/lang/invoke/MethodHandle" ∧ q.1.cls ≠ "java/lang/invoke/VarHandle") ∧ Cond.instantiable q.1.cls q.2 ∈ tables_1 ∧ Cond.privateMethod q.1 ∈ tables_1 ∧ Cond.instanceMethod q.1 ∈ tables_1
theorem lw_p0 : lw_okq (⟨"OffOnTheSecond", "error", "(I)I"⟩, 10) := ⟨⟨by decide +kernel, by decide +kernel⟩, List.mem_of_getElem? (i := 17) (by decide +kernel), List.mem_of_getElem? (i := 341) (by decide +kernel), List.mem_of_getElem? (i := 342) (by decide +kernel)⟩
theorem lw_p1 : lw_okq (⟨"OffOnTheSecond$Reader", "takes", "(II)Z"⟩, 5) := ⟨⟨by decide +kernel, by decide +kernel⟩, List.mem_of_getElem? (i := 158) (by decide +kernel), List.mem_of_getElem? (i := 463) (by decide +kernel), List.mem_of_getElem? (i := 464) (by decide +kernel)⟩
theorem lw_p2 : lw_okq (⟨"OffOnTheSecond$Reader", "takesDigit", "(I)Z"⟩, 5) := ⟨⟨by decide +kernel, by decide +kernel⟩, List.mem_of_getElem? (i := 158) (by decide +kernel), List.mem_of_getElem? (i := 467) (by decide +kernel), List.mem_of_getElem? (i := 468) (by decide +kernel)⟩
theorem lw_p3 : lw_okq (⟨"OffOnTheSecond$Reader", "takesStart", "(II)Z"⟩, 5) := ⟨⟨by decide +kernel, by decide +kernel⟩, List.mem_of_getElem? (i := 158) (by decide +kernel), List.mem_of_getElem? (i := 476) (by decide +kernel), List.mem_of_getElem? (i := 477) (by decide +kernel)⟩
theorem lw_p4 : lw_okq (⟨"OffOnTheSecond$Reader", "takesNext", "(I)Z"⟩, 5) := ⟨⟨by decide +kernel, by decide +kernel⟩, List.mem_of_getElem? (i := 158) (by decide +kernel), List.mem_of_getElem? (i := 487) (by decide +kernel), List.mem_of_getElem? (i := 488) (by decide +kernel)⟩
theorem lw_p5 : lw_okq (⟨"OffOnTheSecond$Reader", "closes", "()Z"⟩, 5) := ⟨⟨by decide +kernel, by decide +kernel⟩, List.mem_of_getElem? (i := 158) (by decide +kernel), List.mem_of_getElem? (i := 491) (by decide +kernel), List.mem_of_getElem? (i := 492) (by decide +kernel)⟩
theorem lw_p6 : lw_okq (⟨"OffOnTheSecond$Reader", "settle", "(I)V"⟩, 5) := ⟨⟨by decide +kernel, by decide +kernel⟩, List.mem_of_getElem? (i := 158) (by decide +kernel), List.mem_of_getElem? (i := 495) (by decide +kernel), List.mem_of_getElem? (i := 496) (by decide +kernel)⟩
theorem lw_p7 : lw_okq (⟨"OffOnTheSecond$Reader", "isWhole", "()Z"⟩, 5) := ⟨⟨by decide +kernel, by decide +kernel⟩, List.mem_of_getElem? (i := 158) (by decide +kernel), List.mem_of_getElem? (i := 506) (by decide +kernel), List.mem_of_getElem? (i := 507) (by decide +kernel)⟩
theorem lw_p8 : lw_okq (⟨"OffOnTheSecond$Show", "draw", "()I"⟩, 9) := ⟨⟨by decide +kernel, by decide +kernel⟩, List.mem_of_getElem? (i := 25) (by decide +kernel), List.mem_of_getElem? (i := 609) (by decide +kernel), List.mem_of_getElem? (i := 610) (by decide +kernel)⟩
theorem lw_p9 : lw_okq (⟨"OffOnTheSecond$Sets", "addUp", "([II)V"⟩, 6) := ⟨⟨by decide +kernel, by decide +kernel⟩, List.mem_of_getElem? (i := 183) (by decide +kernel), List.mem_of_getElem? (i := 713) (by decide +kernel), List.mem_of_getElem? (i := 714) (by decide +kernel)⟩
theorem lw_p10 : lw_okq (⟨"OffOnTheSecond$Sets", "findsBest", "(II)Z"⟩, 6) := ⟨⟨by decide +kernel, by decide +kernel⟩, List.mem_of_getElem? (i := 183) (by decide +kernel), List.mem_of_getElem? (i := 725) (by decide +kernel), List.mem_of_getElem? (i := 726) (by decide +kernel)⟩
theorem lw_p11 : lw_okq (⟨"OffOnTheSecond$Rows", "askLikings", "(LOffOnTheSecond$Show;)V"⟩, 5) := ⟨⟨by decide +kernel, by decide +kernel⟩, List.mem_of_getElem? (i := 211) (by decide +kernel), List.mem_of_getElem? (i := 742) (by decide +kernel), List.mem_of_getElem? (i := 743) (by decide +kernel)⟩
theorem lw_p12 : lw_okq (⟨"OffOnTheSecond$Rows", "bestNext", "(I)I"⟩, 5) := ⟨⟨by decide +kernel, by decide +kernel⟩, List.mem_of_getElem? (i := 211) (by decide +kernel), List.mem_of_getElem? (i := 752) (by decide +kernel), List.mem_of_getElem? (i := 753) (by decide +kernel)⟩
theorem lw_p13 : lw_okq (⟨"OffOnTheSecond$Rows", "withNext", "(II)I"⟩, 5) := ⟨⟨by decide +kernel, by decide +kernel⟩, List.mem_of_getElem? (i := 211) (by decide +kernel), List.mem_of_getElem? (i := 756) (by decide +kernel), List.mem_of_getElem? (i := 757) (by decide +kernel)⟩
theorem lw_p14 : lw_okq (⟨"OffOnTheSecond$Rows", "choose", "(I)V"⟩, 5) := ⟨⟨by decide +kernel, by decide +kernel⟩, List.mem_of_getElem? (i := 211) (by decide +kernel), List.mem_of_getElem? (i := 761) (by decide +kernel), List.mem_of_getElem? (i := 762) (by decide +kernel)⟩
theorem lw_p15 : lw_okq (⟨"OffOnTheSecond$Odds", "clearWays", "()V"⟩, 3) := ⟨⟨by decide +kernel, by decide +kernel⟩, List.mem_of_getElem? (i := 237) (by decide +kernel), List.mem_of_getElem? (i := 774) (by decide +kernel), List.mem_of_getElem? (i := 775) (by decide +kernel)⟩
def lw_privs_1 : List (MethodName × Nat) := [(⟨"OffOnTheSecond", "error", "(I)I"⟩, 10), (⟨"OffOnTheSecond$Reader", "takes", "(II)Z"⟩, 5), (⟨"OffOnTheSecond$Reader", "takesDigit", "(I)Z"⟩, 5), (⟨"OffOnTheSecond$Reader", "takesStart", "(II)Z"⟩, 5), (⟨"OffOnTheSecond$Reader", "takesNext", "(I)Z"⟩, 5), (⟨"OffOnTheSecond$Reader", "closes", "()Z"⟩, 5), (⟨"OffOnTheSecond$Reader", "settle", "(I)V"⟩, 5), (⟨"OffOnTheSecond$Reader", "isWhole", "()Z"⟩, 5), (⟨"OffOnTheSecond$Show", "draw", "()I"⟩, 9), (⟨"OffOnTheSecond$Sets", "addUp", "([II)V"⟩, 6), (⟨"OffOnTheSecond$Sets", "findsBest", "(II)Z"⟩, 6), (⟨"OffOnTheSecond$Rows", "askLikings", "(LOffOnTheSecond$Show;)V"⟩, 5), (⟨"OffOnTheSecond$Rows", "bestNext", "(I)I"⟩, 5), (⟨"OffOnTheSecond$Rows", "withNext", "(II)I"⟩, 5), (⟨"OffOnTheSecond$Rows", "choose", "(I)V"⟩, 5), (⟨"OffOnTheSecond$Odds", "clearWays", "()V"⟩, 3)]
theorem lw_r1 : ∀ q ∈ lw_privs_1, lw_okq q := List.forall_mem_cons.mpr ⟨lw_p0, List.forall_mem_cons.mpr ⟨lw_p1, List.forall_mem_cons.mpr ⟨lw_p2, List.forall_mem_cons.mpr ⟨lw_p3, List.forall_mem_cons.mpr ⟨lw_p4, List.forall_mem_cons.mpr ⟨lw_p5, List.forall_mem_cons.mpr ⟨lw_p6, List.forall_mem_cons.mpr ⟨lw_p7, List.forall_mem_cons.mpr ⟨lw_p8, List.forall_mem_cons.mpr ⟨lw_p9, List.forall_mem_cons.mpr ⟨lw_p10, List.forall_mem_cons.mpr ⟨lw_p11, List.forall_mem_cons.mpr ⟨lw_p12, List.forall_mem_cons.mpr ⟨lw_p13, List.forall_mem_cons.mpr ⟨lw_p14, List.forall_mem_cons.mpr ⟨lw_p15, fun _ h => absurd h List.not_mem_nil⟩⟩⟩⟩⟩⟩⟩⟩⟩⟩⟩⟩⟩⟩⟩⟩
theorem lw_p16 : lw_okq (⟨"OffOnTheSecond$Odds", "spread", "(I)V"⟩, 3) := ⟨⟨by decide +kernel, by decide +kernel⟩, List.mem_of_getElem? (i := 237) (by decide +kernel), List.mem_of_getElem? (i := 781) (by decide +kernel), List.mem_of_getElem? (i := 782) (by decide +kernel)⟩
theorem lw_p17 : lw_okq (⟨"OffOnTheSecond$Odds", "waysWithin", "(II)J"⟩, 3) := ⟨⟨by decide +kernel, by decide +kernel⟩, List.mem_of_getElem? (i := 237) (by decide +kernel), List.mem_of_getElem? (i := 787) (by decide +kernel), List.mem_of_getElem? (i := 788) (by decide +kernel)⟩
theorem lw_p18 : lw_okq (⟨"OffOnTheSecond$Odds", "reduce", "()V"⟩, 3) := ⟨⟨by decide +kernel, by decide +kernel⟩, List.mem_of_getElem? (i := 237) (by decide +kernel), List.mem_of_getElem? (i := 791) (by decide +kernel), List.mem_of_getElem? (i := 792) (by decide +kernel)⟩
theorem lw_p19 : lw_okq (⟨"OffOnTheSecond", "sheetAt", "(I)LOffOnTheSecond$Sheet;"⟩, 10) := ⟨⟨by decide +kernel, by decide +kernel⟩, List.mem_of_getElem? (i := 17) (by decide +kernel), List.mem_of_getElem? (i := 802) (by decide +kernel), List.mem_of_getElem? (i := 803) (by decide +kernel)⟩
theorem lw_p20 : lw_okq (⟨"OffOnTheSecond$Voices", "speak", "(IIII)I"⟩, 5) := ⟨⟨by decide +kernel, by decide +kernel⟩, List.mem_of_getElem? (i := 256) (by decide +kernel), List.mem_of_getElem? (i := 824) (by decide +kernel), List.mem_of_getElem? (i := 825) (by decide +kernel)⟩
theorem lw_p21 : lw_okq (⟨"OffOnTheSecond$Voices", "answerOf", "(III)I"⟩, 5) := ⟨⟨by decide +kernel, by decide +kernel⟩, List.mem_of_getElem? (i := 256) (by decide +kernel), List.mem_of_getElem? (i := 835) (by decide +kernel), List.mem_of_getElem? (i := 836) (by decide +kernel)⟩
theorem lw_p22 : lw_okq (⟨"OffOnTheSecond$Voices", "cutUp", "(I)I"⟩, 5) := ⟨⟨by decide +kernel, by decide +kernel⟩, List.mem_of_getElem? (i := 256) (by decide +kernel), List.mem_of_getElem? (i := 839) (by decide +kernel), List.mem_of_getElem? (i := 840) (by decide +kernel)⟩
theorem lw_p23 : lw_okq (⟨"OffOnTheSecondModel", "error", "(I)I"⟩, 25) := ⟨⟨by decide +kernel, by decide +kernel⟩, List.mem_of_getElem? (i := 932) (by decide +kernel), List.mem_of_getElem? (i := 1021) (by decide +kernel), List.mem_of_getElem? (i := 1022) (by decide +kernel)⟩
theorem lw_p24 : lw_okq (⟨"OffOnTheSecondModel", "whole", "()Z"⟩, 25) := ⟨⟨by decide +kernel, by decide +kernel⟩, List.mem_of_getElem? (i := 932) (by decide +kernel), List.mem_of_getElem? (i := 1031) (by decide +kernel), List.mem_of_getElem? (i := 1032) (by decide +kernel)⟩
theorem lw_p25 : lw_okq (⟨"OffOnTheSecondModel", "both", "()Z"⟩, 25) := ⟨⟨by decide +kernel, by decide +kernel⟩, List.mem_of_getElem? (i := 932) (by decide +kernel), List.mem_of_getElem? (i := 1035) (by decide +kernel), List.mem_of_getElem? (i := 1036) (by decide +kernel)⟩
theorem lw_p26 : lw_okq (⟨"OffOnTheSecondModel", "compared", "()Z"⟩, 25) := ⟨⟨by decide +kernel, by decide +kernel⟩, List.mem_of_getElem? (i := 932) (by decide +kernel), List.mem_of_getElem? (i := 1039) (by decide +kernel), List.mem_of_getElem? (i := 1040) (by decide +kernel)⟩
theorem lw_p27 : lw_okq (⟨"OffOnTheSecondModel", "sum", "()Z"⟩, 25) := ⟨⟨by decide +kernel, by decide +kernel⟩, List.mem_of_getElem? (i := 932) (by decide +kernel), List.mem_of_getElem? (i := 1043) (by decide +kernel), List.mem_of_getElem? (i := 1044) (by decide +kernel)⟩
theorem lw_p28 : lw_okq (⟨"OffOnTheSecondModel", "product", "()Z"⟩, 25) := ⟨⟨by decide +kernel, by decide +kernel⟩, List.mem_of_getElem? (i := 932) (by decide +kernel), List.mem_of_getElem? (i := 1047) (by decide +kernel), List.mem_of_getElem? (i := 1048) (by decide +kernel)⟩
theorem lw_p29 : lw_okq (⟨"OffOnTheSecondModel", "one", "()Z"⟩, 25) := ⟨⟨by decide +kernel, by decide +kernel⟩, List.mem_of_getElem? (i := 932) (by decide +kernel), List.mem_of_getElem? (i := 1051) (by decide +kernel), List.mem_of_getElem? (i := 1052) (by decide +kernel)⟩
theorem lw_p30 : lw_okq (⟨"OffOnTheSecondModel", "look", "()I"⟩, 25) := ⟨⟨by decide +kernel, by decide +kernel⟩, List.mem_of_getElem? (i := 932) (by decide +kernel), List.mem_of_getElem? (i := 1055) (by decide +kernel), List.mem_of_getElem? (i := 1056) (by decide +kernel)⟩
theorem lw_p31 : lw_okq (⟨"OffOnTheSecondModel", "isName", "(I)Z"⟩, 25) := ⟨⟨by decide +kernel, by decide +kernel⟩, List.mem_of_getElem? (i := 932) (by decide +kernel), List.mem_of_getElem? (i := 1059) (by decide +kernel), List.mem_of_getElem? (i := 1060) (by decide +kernel)⟩
def lw_privs_2 : List (MethodName × Nat) := [(⟨"OffOnTheSecond$Odds", "spread", "(I)V"⟩, 3), (⟨"OffOnTheSecond$Odds", "waysWithin", "(II)J"⟩, 3), (⟨"OffOnTheSecond$Odds", "reduce", "()V"⟩, 3), (⟨"OffOnTheSecond", "sheetAt", "(I)LOffOnTheSecond$Sheet;"⟩, 10), (⟨"OffOnTheSecond$Voices", "speak", "(IIII)I"⟩, 5), (⟨"OffOnTheSecond$Voices", "answerOf", "(III)I"⟩, 5), (⟨"OffOnTheSecond$Voices", "cutUp", "(I)I"⟩, 5), (⟨"OffOnTheSecondModel", "error", "(I)I"⟩, 25), (⟨"OffOnTheSecondModel", "whole", "()Z"⟩, 25), (⟨"OffOnTheSecondModel", "both", "()Z"⟩, 25), (⟨"OffOnTheSecondModel", "compared", "()Z"⟩, 25), (⟨"OffOnTheSecondModel", "sum", "()Z"⟩, 25), (⟨"OffOnTheSecondModel", "product", "()Z"⟩, 25), (⟨"OffOnTheSecondModel", "one", "()Z"⟩, 25), (⟨"OffOnTheSecondModel", "look", "()I"⟩, 25), (⟨"OffOnTheSecondModel", "isName", "(I)Z"⟩, 25)]
theorem lw_r2 : ∀ q ∈ lw_privs_2, lw_okq q := List.forall_mem_cons.mpr ⟨lw_p16, List.forall_mem_cons.mpr ⟨lw_p17, List.forall_mem_cons.mpr ⟨lw_p18, List.forall_mem_cons.mpr ⟨lw_p19, List.forall_mem_cons.mpr ⟨lw_p20, List.forall_mem_cons.mpr ⟨lw_p21, List.forall_mem_cons.mpr ⟨lw_p22, List.forall_mem_cons.mpr ⟨lw_p23, List.forall_mem_cons.mpr ⟨lw_p24, List.forall_mem_cons.mpr ⟨lw_p25, List.forall_mem_cons.mpr ⟨lw_p26, List.forall_mem_cons.mpr ⟨lw_p27, List.forall_mem_cons.mpr ⟨lw_p28, List.forall_mem_cons.mpr ⟨lw_p29, List.forall_mem_cons.mpr ⟨lw_p30, List.forall_mem_cons.mpr ⟨lw_p31, fun _ h => absurd h List.not_mem_nil⟩⟩⟩⟩⟩⟩⟩⟩⟩⟩⟩⟩⟩⟩⟩⟩
theorem lw_p32 : lw_okq (⟨"OffOnTheSecondModel", "step1", "(II)V"⟩, 25) := ⟨⟨by decide +kernel, by decide +kernel⟩, List.mem_of_getElem? (i := 932) (by decide +kernel), List.mem_of_getElem? (i := 1063) (by decide +kernel), List.mem_of_getElem? (i := 1064) (by decide +kernel)⟩
theorem lw_p33 : lw_okq (⟨"OffOnTheSecondModel", "opens", "()Z"⟩, 25) := ⟨⟨by decide +kernel, by decide +kernel⟩, List.mem_of_getElem? (i := 932) (by decide +kernel), List.mem_of_getElem? (i := 1067) (by decide +kernel), List.mem_of_getElem? (i := 1068) (by decide +kernel)⟩
theorem lw_p34 : lw_okq (⟨"OffOnTheSecondModel", "hasText", "(I)Z"⟩, 25) := ⟨⟨by decide +kernel, by decide +kernel⟩, List.mem_of_getElem? (i := 932) (by decide +kernel), List.mem_of_getElem? (i := 1075) (by decide +kernel), List.mem_of_getElem? (i := 1076) (by decide +kernel)⟩
theorem lw_p35 : lw_okq (⟨"OffOnTheSecondModel", "lays1", "(III)V"⟩, 25) := ⟨⟨by decide +kernel, by decide +kernel⟩, List.mem_of_getElem? (i := 932) (by decide +kernel), List.mem_of_getElem? (i := 1086) (by decide +kernel), List.mem_of_getElem? (i := 1087) (by decide +kernel)⟩
theorem lw_p36 : lw_okq (⟨"OffOnTheSecondModel", "isItem", "(I)Z"⟩, 25) := ⟨⟨by decide +kernel, by decide +kernel⟩, List.mem_of_getElem? (i := 932) (by decide +kernel), List.mem_of_getElem? (i := 1094) (by decide +kernel), List.mem_of_getElem? (i := 1095) (by decide +kernel)⟩
theorem lw_p37 : lw_okq (⟨"OffOnTheSecondModel", "leastOf", "(I)I"⟩, 25) := ⟨⟨by decide +kernel, by decide +kernel⟩, List.mem_of_getElem? (i := 932) (by decide +kernel), List.mem_of_getElem? (i := 1098) (by decide +kernel), List.mem_of_getElem? (i := 1099) (by decide +kernel)⟩
theorem lw_p38 : lw_okq (⟨"OffOnTheSecondModel", "its", "(II)I"⟩, 25) := ⟨⟨by decide +kernel, by decide +kernel⟩, List.mem_of_getElem? (i := 932) (by decide +kernel), List.mem_of_getElem? (i := 1102) (by decide +kernel), List.mem_of_getElem? (i := 1103) (by decide +kernel)⟩
theorem lw_p39 : lw_okq (⟨"OffOnTheSecondModel", "mostOf", "(I)I"⟩, 25) := ⟨⟨by decide +kernel, by decide +kernel⟩, List.mem_of_getElem? (i := 932) (by decide +kernel), List.mem_of_getElem? (i := 1106) (by decide +kernel), List.mem_of_getElem? (i := 1107) (by decide +kernel)⟩
theorem lw_p40 : lw_okq (⟨"OffOnTheSecondModel", "change1", "(II)I"⟩, 25) := ⟨⟨by decide +kernel, by decide +kernel⟩, List.mem_of_getElem? (i := 932) (by decide +kernel), List.mem_of_getElem? (i := 1114) (by decide +kernel), List.mem_of_getElem? (i := 1115) (by decide +kernel)⟩
theorem lw_p41 : lw_okq (⟨"OffOnTheSecondModel", "isLeft", "(I)Z"⟩, 25) := ⟨⟨by decide +kernel, by decide +kernel⟩, List.mem_of_getElem? (i := 932) (by decide +kernel), List.mem_of_getElem? (i := 1133) (by decide +kernel), List.mem_of_getElem? (i := 1134) (by decide +kernel)⟩
theorem lw_p42 : lw_okq (⟨"OffOnTheSecondModel", "worthTold", "(III)I"⟩, 25) := ⟨⟨by decide +kernel, by decide +kernel⟩, List.mem_of_getElem? (i := 932) (by decide +kernel), List.mem_of_getElem? (i := 1145) (by decide +kernel), List.mem_of_getElem? (i := 1146) (by decide +kernel)⟩
theorem lw_p43 : lw_okq (⟨"OffOnTheSecondModel", "worked", "(I)I"⟩, 25) := ⟨⟨by decide +kernel, by decide +kernel⟩, List.mem_of_getElem? (i := 932) (by decide +kernel), List.mem_of_getElem? (i := 1149) (by decide +kernel), List.mem_of_getElem? (i := 1150) (by decide +kernel)⟩
theorem lw_p44 : lw_okq (⟨"OffOnTheSecondModel", "likedTold", "(III)I"⟩, 25) := ⟨⟨by decide +kernel, by decide +kernel⟩, List.mem_of_getElem? (i := 932) (by decide +kernel), List.mem_of_getElem? (i := 1159) (by decide +kernel), List.mem_of_getElem? (i := 1160) (by decide +kernel)⟩
theorem lw_p45 : lw_okq (⟨"OffOnTheSecondModel", "onNow", "()I"⟩, 25) := ⟨⟨by decide +kernel, by decide +kernel⟩, List.mem_of_getElem? (i := 932) (by decide +kernel), List.mem_of_getElem? (i := 1167) (by decide +kernel), List.mem_of_getElem? (i := 1168) (by decide +kernel)⟩
theorem lw_p46 : lw_okq (⟨"OffOnTheSecondModel", "itemAt", "(I)I"⟩, 25) := ⟨⟨by decide +kernel, by decide +kernel⟩, List.mem_of_getElem? (i := 932) (by decide +kernel), List.mem_of_getElem? (i := 1171) (by decide +kernel), List.mem_of_getElem? (i := 1172) (by decide +kernel)⟩
theorem lw_p47 : lw_okq (⟨"OffOnTheSecondModel", "isDone", "(II)V"⟩, 25) := ⟨⟨by decide +kernel, by decide +kernel⟩, List.mem_of_getElem? (i := 932) (by decide +kernel), List.mem_of_getElem? (i := 1175) (by decide +kernel), List.mem_of_getElem? (i := 1176) (by decide +kernel)⟩
def lw_privs_3 : List (MethodName × Nat) := [(⟨"OffOnTheSecondModel", "step1", "(II)V"⟩, 25), (⟨"OffOnTheSecondModel", "opens", "()Z"⟩, 25), (⟨"OffOnTheSecondModel", "hasText", "(I)Z"⟩, 25), (⟨"OffOnTheSecondModel", "lays1", "(III)V"⟩, 25), (⟨"OffOnTheSecondModel", "isItem", "(I)Z"⟩, 25), (⟨"OffOnTheSecondModel", "leastOf", "(I)I"⟩, 25), (⟨"OffOnTheSecondModel", "its", "(II)I"⟩, 25), (⟨"OffOnTheSecondModel", "mostOf", "(I)I"⟩, 25), (⟨"OffOnTheSecondModel", "change1", "(II)I"⟩, 25), (⟨"OffOnTheSecondModel", "isLeft", "(I)Z"⟩, 25), (⟨"OffOnTheSecondModel", "worthTold", "(III)I"⟩, 25), (⟨"OffOnTheSecondModel", "worked", "(I)I"⟩, 25), (⟨"OffOnTheSecondModel", "likedTold", "(III)I"⟩, 25), (⟨"OffOnTheSecondModel", "onNow", "()I"⟩, 25), (⟨"OffOnTheSecondModel", "itemAt", "(I)I"⟩, 25), (⟨"OffOnTheSecondModel", "isDone", "(II)V"⟩, 25)]
theorem lw_r3 : ∀ q ∈ lw_privs_3, lw_okq q := List.forall_mem_cons.mpr ⟨lw_p32, List.forall_mem_cons.mpr ⟨lw_p33, List.forall_mem_cons.mpr ⟨lw_p34, List.forall_mem_cons.mpr ⟨lw_p35, List.forall_mem_cons.mpr ⟨lw_p36, List.forall_mem_cons.mpr ⟨lw_p37, List.forall_mem_cons.mpr ⟨lw_p38, List.forall_mem_cons.mpr ⟨lw_p39, List.forall_mem_cons.mpr ⟨lw_p40, List.forall_mem_cons.mpr ⟨lw_p41, List.forall_mem_cons.mpr ⟨lw_p42, List.forall_mem_cons.mpr ⟨lw_p43, List.forall_mem_cons.mpr ⟨lw_p44, List.forall_mem_cons.mpr ⟨lw_p45, List.forall_mem_cons.mpr ⟨lw_p46, List.forall_mem_cons.mpr ⟨lw_p47, fun _ h => absurd h List.not_mem_nil⟩⟩⟩⟩⟩⟩⟩⟩⟩⟩⟩⟩⟩⟩⟩⟩
theorem lw_p48 : lw_okq (⟨"OffOnTheSecondModel", "leftSet", "()I"⟩, 25) := ⟨⟨by decide +kernel, by decide +kernel⟩, List.mem_of_getElem? (i := 932) (by decide +kernel), List.mem_of_getElem? (i := 1187) (by decide +kernel), List.mem_of_getElem? (i := 1188) (by decide +kernel)⟩
theorem lw_p49 : lw_okq (⟨"OffOnTheSecondModel", "draw", "()I"⟩, 25) := ⟨⟨by decide +kernel, by decide +kernel⟩, List.mem_of_getElem? (i := 932) (by decide +kernel), List.mem_of_getElem? (i := 1198) (by decide +kernel), List.mem_of_getElem? (i := 1199) (by decide +kernel)⟩
theorem lw_p50 : lw_okq (⟨"OffOnTheSecondModel", "thereIs", "()I"⟩, 25) := ⟨⟨by decide +kernel, by decide +kernel⟩, List.mem_of_getElem? (i := 932) (by decide +kernel), List.mem_of_getElem? (i := 1219) (by decide +kernel), List.mem_of_getElem? (i := 1220) (by decide +kernel)⟩
theorem lw_p51 : lw_okq (⟨"OffOnTheSecondModel", "fitsSet", "(II)Z"⟩, 25) := ⟨⟨by decide +kernel, by decide +kernel⟩, List.mem_of_getElem? (i := 932) (by decide +kernel), List.mem_of_getElem? (i := 1223) (by decide +kernel), List.mem_of_getElem? (i := 1224) (by decide +kernel)⟩
theorem lw_p52 : lw_okq (⟨"OffOnTheSecondModel", "leastAll", "(I)I"⟩, 25) := ⟨⟨by decide +kernel, by decide +kernel⟩, List.mem_of_getElem? (i := 932) (by decide +kernel), List.mem_of_getElem? (i := 1227) (by decide +kernel), List.mem_of_getElem? (i := 1228) (by decide +kernel)⟩
theorem lw_p53 : lw_okq (⟨"OffOnTheSecondModel", "mostAll", "(I)I"⟩, 25) := ⟨⟨by decide +kernel, by decide +kernel⟩, List.mem_of_getElem? (i := 932) (by decide +kernel), List.mem_of_getElem? (i := 1231) (by decide +kernel), List.mem_of_getElem? (i := 1232) (by decide +kernel)⟩
theorem lw_p54 : lw_okq (⟨"OffOnTheSecondModel", "noPlan", "(I)I"⟩, 25) := ⟨⟨by decide +kernel, by decide +kernel⟩, List.mem_of_getElem? (i := 932) (by decide +kernel), List.mem_of_getElem? (i := 1247) (by decide +kernel), List.mem_of_getElem? (i := 1248) (by decide +kernel)⟩
theorem lw_p55 : lw_okq (⟨"OffOnTheSecondModel", "aheadOf", "(I)I"⟩, 25) := ⟨⟨by decide +kernel, by decide +kernel⟩, List.mem_of_getElem? (i := 932) (by decide +kernel), List.mem_of_getElem? (i := 1255) (by decide +kernel), List.mem_of_getElem? (i := 1256) (by decide +kernel)⟩
theorem lw_p56 : lw_okq (⟨"OffOnTheSecondModel", "worthAll", "(I)I"⟩, 25) := ⟨⟨by decide +kernel, by decide +kernel⟩, List.mem_of_getElem? (i := 932) (by decide +kernel), List.mem_of_getElem? (i := 1263) (by decide +kernel), List.mem_of_getElem? (i := 1264) (by decide +kernel)⟩
theorem lw_p57 : lw_okq (⟨"OffOnTheSecondModel", "goesRow", "(IIII)V"⟩, 25) := ⟨⟨by decide +kernel, by decide +kernel⟩, List.mem_of_getElem? (i := 932) (by decide +kernel), List.mem_of_getElem? (i := 1271) (by decide +kernel), List.mem_of_getElem? (i := 1272) (by decide +kernel)⟩
theorem lw_p58 : lw_okq (⟨"OffOnTheSecondModel", "isLive", "(I)Z"⟩, 25) := ⟨⟨by decide +kernel, by decide +kernel⟩, List.mem_of_getElem? (i := 932) (by decide +kernel), List.mem_of_getElem? (i := 1279) (by decide +kernel), List.mem_of_getElem? (i := 1280) (by decide +kernel)⟩
theorem lw_p59 : lw_okq (⟨"OffOnTheSecondModel", "moreBy", "(I)V"⟩, 25) := ⟨⟨by decide +kernel, by decide +kernel⟩, List.mem_of_getElem? (i := 932) (by decide +kernel), List.mem_of_getElem? (i := 1283) (by decide +kernel), List.mem_of_getElem? (i := 1284) (by decide +kernel)⟩
theorem lw_p60 : lw_okq (⟨"OffOnTheSecondModel", "lacks", "(I)I"⟩, 25) := ⟨⟨by decide +kernel, by decide +kernel⟩, List.mem_of_getElem? (i := 932) (by decide +kernel), List.mem_of_getElem? (i := 1294) (by decide +kernel), List.mem_of_getElem? (i := 1295) (by decide +kernel)⟩
theorem lw_p61 : lw_okq (⟨"OffOnTheSecondModel", "truthAll", "(I)I"⟩, 25) := ⟨⟨by decide +kernel, by decide +kernel⟩, List.mem_of_getElem? (i := 932) (by decide +kernel), List.mem_of_getElem? (i := 1301) (by decide +kernel), List.mem_of_getElem? (i := 1302) (by decide +kernel)⟩
theorem lw_p62 : lw_okq (⟨"OffOnTheSecondModel", "kindNow", "()I"⟩, 25) := ⟨⟨by decide +kernel, by decide +kernel⟩, List.mem_of_getElem? (i := 932) (by decide +kernel), List.mem_of_getElem? (i := 1309) (by decide +kernel), List.mem_of_getElem? (i := 1310) (by decide +kernel)⟩
theorem lw_p63 : lw_okq (⟨"OffOnTheSecondModel", "readsAs", "(II)I"⟩, 25) := ⟨⟨by decide +kernel, by decide +kernel⟩, List.mem_of_getElem? (i := 932) (by decide +kernel), List.mem_of_getElem? (i := 1313) (by decide +kernel), List.mem_of_getElem? (i := 1314) (by decide +kernel)⟩
def lw_privs_4 : List (MethodName × Nat) := [(⟨"OffOnTheSecondModel", "leftSet", "()I"⟩, 25), (⟨"OffOnTheSecondModel", "draw", "()I"⟩, 25), (⟨"OffOnTheSecondModel", "thereIs", "()I"⟩, 25), (⟨"OffOnTheSecondModel", "fitsSet", "(II)Z"⟩, 25), (⟨"OffOnTheSecondModel", "leastAll", "(I)I"⟩, 25), (⟨"OffOnTheSecondModel", "mostAll", "(I)I"⟩, 25), (⟨"OffOnTheSecondModel", "noPlan", "(I)I"⟩, 25), (⟨"OffOnTheSecondModel", "aheadOf", "(I)I"⟩, 25), (⟨"OffOnTheSecondModel", "worthAll", "(I)I"⟩, 25), (⟨"OffOnTheSecondModel", "goesRow", "(IIII)V"⟩, 25), (⟨"OffOnTheSecondModel", "isLive", "(I)Z"⟩, 25), (⟨"OffOnTheSecondModel", "moreBy", "(I)V"⟩, 25), (⟨"OffOnTheSecondModel", "lacks", "(I)I"⟩, 25), (⟨"OffOnTheSecondModel", "truthAll", "(I)I"⟩, 25), (⟨"OffOnTheSecondModel", "kindNow", "()I"⟩, 25), (⟨"OffOnTheSecondModel", "readsAs", "(II)I"⟩, 25)]
theorem lw_r4 : ∀ q ∈ lw_privs_4, lw_okq q := List.forall_mem_cons.mpr ⟨lw_p48, List.forall_mem_cons.mpr ⟨lw_p49, List.forall_mem_cons.mpr ⟨lw_p50, List.forall_mem_cons.mpr ⟨lw_p51, List.forall_mem_cons.mpr ⟨lw_p52, List.forall_mem_cons.mpr ⟨lw_p53, List.forall_mem_cons.mpr ⟨lw_p54, List.forall_mem_cons.mpr ⟨lw_p55, List.forall_mem_cons.mpr ⟨lw_p56, List.forall_mem_cons.mpr ⟨lw_p57, List.forall_mem_cons.mpr ⟨lw_p58, List.forall_mem_cons.mpr ⟨lw_p59, List.forall_mem_cons.mpr ⟨lw_p60, List.forall_mem_cons.mpr ⟨lw_p61, List.forall_mem_cons.mpr ⟨lw_p62, List.forall_mem_cons.mpr ⟨lw_p63, fun _ h => absurd h List.not_mem_nil⟩⟩⟩⟩⟩⟩⟩⟩⟩⟩⟩⟩⟩⟩⟩⟩
theorem lw_p64 : lw_okq (⟨"OffOnTheSecondModel", "starts", "(I)V"⟩, 25) := ⟨⟨by decide +kernel, by decide +kernel⟩, List.mem_of_getElem? (i := 932) (by decide +kernel), List.mem_of_getElem? (i := 1317) (by decide +kernel), List.mem_of_getElem? (i := 1318) (by decide +kernel)⟩
theorem lw_p65 : lw_okq (⟨"OffOnTheSecondModel", "adlibsAs", "(II)I"⟩, 25) := ⟨⟨by decide +kernel, by decide +kernel⟩, List.mem_of_getElem? (i := 932) (by decide +kernel), List.mem_of_getElem? (i := 1321) (by decide +kernel), List.mem_of_getElem? (i := 1322) (by decide +kernel)⟩
theorem lw_p66 : lw_okq (⟨"OffOnTheSecondModel", "mNow", "()I"⟩, 25) := ⟨⟨by decide +kernel, by decide +kernel⟩, List.mem_of_getElem? (i := 932) (by decide +kernel), List.mem_of_getElem? (i := 1325) (by decide +kernel), List.mem_of_getElem? (i := 1326) (by decide +kernel)⟩
theorem lw_p67 : lw_okq (⟨"OffOnTheSecondModel", "windsAs", "(II)I"⟩, 25) := ⟨⟨by decide +kernel, by decide +kernel⟩, List.mem_of_getElem? (i := 932) (by decide +kernel), List.mem_of_getElem? (i := 1329) (by decide +kernel), List.mem_of_getElem? (i := 1330) (by decide +kernel)⟩
theorem lw_p68 : lw_okq (⟨"OffOnTheSecondModel", "partsAs", "(II)I"⟩, 25) := ⟨⟨by decide +kernel, by decide +kernel⟩, List.mem_of_getElem? (i := 932) (by decide +kernel), List.mem_of_getElem? (i := 1333) (by decide +kernel), List.mem_of_getElem? (i := 1334) (by decide +kernel)⟩
def lw_privs_5 : List (MethodName × Nat) := [(⟨"OffOnTheSecondModel", "starts", "(I)V"⟩, 25), (⟨"OffOnTheSecondModel", "adlibsAs", "(II)I"⟩, 25), (⟨"OffOnTheSecondModel", "mNow", "()I"⟩, 25), (⟨"OffOnTheSecondModel", "windsAs", "(II)I"⟩, 25), (⟨"OffOnTheSecondModel", "partsAs", "(II)I"⟩, 25)]
theorem lw_r5 : ∀ q ∈ lw_privs_5, lw_okq q := List.forall_mem_cons.mpr ⟨lw_p64, List.forall_mem_cons.mpr ⟨lw_p65, List.forall_mem_cons.mpr ⟨lw_p66, List.forall_mem_cons.mpr ⟨lw_p67, List.forall_mem_cons.mpr ⟨lw_p68, fun _ h => absurd h List.not_mem_nil⟩⟩⟩⟩⟩
def lw_privs : List (MethodName × Nat) := lw_privs_1 ++ (lw_privs_2 ++ (lw_privs_3 ++ (lw_privs_4 ++ (lw_privs_5))))
def lw_tbl : List Cond := k2_sels lw_privs ++ tables_1
theorem lw_privs_ok : ∀ q ∈ lw_privs, lw_okq q := by
  show ∀ q ∈ lw_privs_1 ++ (lw_privs_2 ++ (lw_privs_3 ++ (lw_privs_4 ++ (lw_privs_5)))), lw_okq q
  exact List.forall_mem_append.mpr ⟨lw_r1, List.forall_mem_append.mpr ⟨lw_r2, List.forall_mem_append.mpr ⟨lw_r3, List.forall_mem_append.mpr ⟨lw_r4, lw_r5⟩⟩⟩⟩
-- ===== end of PART A; then your names; then what follows =====
def RX0 : String := "OffOnTheSecond$Items"
def TX0 : u_T := fun k => match k with
  | 0 => ("OffOnTheSecond$Items", "size", "I", false)
  | 1 => ("OffOnTheSecond$Items", "kinds", "LOffOnTheSecond$Line;", true)
  | 2 => ("OffOnTheSecond$Items", "ms", "LOffOnTheSecond$Line;", true)
  | 3 => ("OffOnTheSecond$Items", "trues", "LOffOnTheSecond$Line;", true)
  | 4 => ("OffOnTheSecond$Items", "fates", "LOffOnTheSecond$Line;", true)
  | _ => ("OffOnTheSecond$Items", "order", "LOffOnTheSecond$Line;", true)
def tyX0 : Nat → FieldType := fun k => match k with
  | 0 => .int
  | 1 => .object "OffOnTheSecond$Line"
  | 2 => .object "OffOnTheSecond$Line"
  | 3 => .object "OffOnTheSecond$Line"
  | 4 => .object "OffOnTheSecond$Line"
  | _ => .object "OffOnTheSecond$Line"
abbrev wsX00 : List Cond := u_ws RX0 TX0 6
theorem nmX0 : ∀ a, a < 6 → ∀ b, b < 6 → a ≠ b → (TX0 a).2.1 ≠ (TX0 b).2.1 := by decide +kernel
theorem tyX0_ok : ∀ k, k < 6 → parseFieldDescriptor (TX0 k).2.2.1 = some (tyX0 k) := by decide +kernel
abbrev cX0_init : ByteArray := prog_2_method_1_code
def yX0_init : MethodName := ⟨RX0, "<init>", "()V"⟩
abbrev cX0_above : ByteArray := prog_2_method_2_code
def yX0_above : MethodName := ⟨RX0, "above", "(I)I"⟩
abbrev cX0_isUnder : ByteArray := prog_2_method_3_code
def yX0_isUnder : MethodName := ⟨RX0, "isUnder", "(II)Z"⟩
abbrev cX0_has : ByteArray := prog_2_method_4_code
def yX0_has : MethodName := ⟨RX0, "has", "(I)Z"⟩
abbrev cX0_isLeft : ByteArray := prog_2_method_5_code
def yX0_isLeft : MethodName := ⟨RX0, "isLeft", "(I)Z"⟩
abbrev cX0_isOf : ByteArray := prog_2_method_6_code
def yX0_isOf : MethodName := ⟨RX0, "isOf", "(II)Z"⟩
abbrev cX0_append : ByteArray := prog_2_method_7_code
def yX0_append : MethodName := ⟨RX0, "append", "(II)I"⟩
abbrev cX0_name : ByteArray := prog_2_method_8_code
def yX0_name : MethodName := ⟨RX0, "name", "(II)V"⟩
abbrev cX0_least : ByteArray := prog_2_method_9_code
def yX0_least : MethodName := ⟨RX0, "least", "(I)I"⟩
abbrev cX0_most : ByteArray := prog_2_method_10_code
def yX0_most : MethodName := ⟨RX0, "most", "(I)I"⟩
abbrev cX0_placeOf : ByteArray := prog_2_method_11_code
def yX0_placeOf : MethodName := ⟨RX0, "placeOf", "(I)I"⟩
abbrev cX0_bringTo : ByteArray := prog_2_method_12_code
def yX0_bringTo : MethodName := ⟨RX0, "bringTo", "(II)I"⟩
abbrev cX0_on : ByteArray := prog_2_method_13_code
def yX0_on : MethodName := ⟨RX0, "on", "()I"⟩
abbrev cX0_leftSet : ByteArray := prog_2_method_14_code
def yX0_leftSet : MethodName := ⟨RX0, "leftSet", "()I"⟩
abbrev cX0_howManyLeft : ByteArray := prog_2_method_15_code
def yX0_howManyLeft : MethodName := ⟨RX0, "howManyLeft", "()I"⟩
abbrev cX0_trueOfLeft : ByteArray := prog_2_method_16_code
def yX0_trueOfLeft : MethodName := ⟨RX0, "trueOfLeft", "()I"⟩
abbrev cX0_leastOfLeft : ByteArray := prog_2_method_17_code
def yX0_leastOfLeft : MethodName := ⟨RX0, "leastOfLeft", "()I"⟩
abbrev cX0_mostOfLeft : ByteArray := prog_2_method_18_code
def yX0_mostOfLeft : MethodName := ⟨RX0, "mostOfLeft", "()I"⟩
abbrev cX0_leastOfLeftFrom : ByteArray := prog_2_method_19_code
def yX0_leastOfLeftFrom : MethodName := ⟨RX0, "leastOfLeftFrom", "(I)I"⟩
abbrev cX0_mostOfLeftFrom : ByteArray := prog_2_method_20_code
def yX0_mostOfLeftFrom : MethodName := ⟨RX0, "mostOfLeftFrom", "(I)I"⟩
abbrev cX0_bringBackDone : ByteArray := prog_2_method_21_code
def yX0_bringBackDone : MethodName := ⟨RX0, "bringBackDone", "()V"⟩
abbrev cX0_howManyWithin : ByteArray := prog_2_method_22_code
def yX0_howManyWithin : MethodName := ⟨RX0, "howManyWithin", "(LOffOnTheSecond$Line;)I"⟩
abbrev cX0_firstUnlike : ByteArray := prog_2_method_23_code
def yX0_firstUnlike : MethodName := ⟨RX0, "firstUnlike", "(LOffOnTheSecond$Line;)I"⟩
abbrev cX0_takeFrom : ByteArray := prog_2_method_24_code
def yX0_takeFrom : MethodName := ⟨RX0, "takeFrom", "(LOffOnTheSecond$Items;)V"⟩
def RX1 : String := "OffOnTheSecond$Line"
def TX1 : u_T := fun k => match k with
  | 0 => ("OffOnTheSecond$Line", "cells", "[I", true)
  | _ => ("OffOnTheSecond$Line", "size", "I", false)
def tyX1 : Nat → FieldType := fun k => match k with
  | 0 => .array .int
  | _ => .int
abbrev wsX10 : List Cond := u_ws RX1 TX1 2
theorem nmX1 : ∀ a, a < 2 → ∀ b, b < 2 → a ≠ b → (TX1 a).2.1 ≠ (TX1 b).2.1 := by decide +kernel
theorem tyX1_ok : ∀ k, k < 2 → parseFieldDescriptor (TX1 k).2.2.1 = some (tyX1 k) := by decide +kernel
abbrev cX1_init : ByteArray := prog_3_method_1_code
def yX1_init : MethodName := ⟨RX1, "<init>", "(I)V"⟩
abbrev cX1_hasRoom : ByteArray := prog_3_method_2_code
def yX1_hasRoom : MethodName := ⟨RX1, "hasRoom", "(I)Z"⟩
abbrev cX1_spans : ByteArray := prog_3_method_3_code
def yX1_spans : MethodName := ⟨RX1, "spans", "(II)Z"⟩
abbrev cX1_at : ByteArray := prog_3_method_4_code
def yX1_at : MethodName := ⟨RX1, "at", "(I)I"⟩
abbrev cX1_set : ByteArray := prog_3_method_5_code
def yX1_set : MethodName := ⟨RX1, "set", "(II)V"⟩
abbrev cX1_append : ByteArray := prog_3_method_6_code
def yX1_append : MethodName := ⟨RX1, "append", "(I)V"⟩
abbrev cX1_last : ByteArray := prog_3_method_7_code
def yX1_last : MethodName := ⟨RX1, "last", "()I"⟩
abbrev cX1_takeLast : ByteArray := prog_3_method_8_code
def yX1_takeLast : MethodName := ⟨RX1, "takeLast", "()I"⟩
abbrev cX1_clear : ByteArray := prog_3_method_9_code
def yX1_clear : MethodName := ⟨RX1, "clear", "()V"⟩
abbrev cX1_takeFrom : ByteArray := prog_3_method_10_code
def yX1_takeFrom : MethodName := ⟨RX1, "takeFrom", "(LOffOnTheSecond$Line;)V"⟩
def RX2 : String := "OffOnTheSecond$Odds"
def TX2 : u_T := fun k => match k with
  | 0 => ("OffOnTheSecond$Odds", "above", "J", false)
  | 1 => ("OffOnTheSecond$Odds", "below", "J", false)
  | _ => ("OffOnTheSecond$Odds", "ways", "[J", true)
def tyX2 : Nat → FieldType := fun k => match k with
  | 0 => .long
  | 1 => .long
  | _ => .array .long
abbrev wsX20 : List Cond := u_ws RX2 TX2 3
theorem nmX2 : ∀ a, a < 3 → ∀ b, b < 3 → a ≠ b → (TX2 a).2.1 ≠ (TX2 b).2.1 := by decide +kernel
theorem tyX2_ok : ∀ k, k < 3 → parseFieldDescriptor (TX2 k).2.2.1 = some (tyX2 k) := by decide +kernel
abbrev cX2_init : ByteArray := prog_4_method_1_code
def yX2_init : MethodName := ⟨RX2, "<init>", "()V"⟩
abbrev cX2_think : ByteArray := prog_4_method_2_code
def yX2_think : MethodName := ⟨RX2, "think", "(LOffOnTheSecond$Show;)V"⟩
abbrev cX2_clearWays : ByteArray := prog_4_method_3_code
def yX2_clearWays : MethodName := ⟨RX2, "clearWays", "()V"⟩
abbrev cX2_spread : ByteArray := prog_4_method_4_code
def yX2_spread : MethodName := ⟨RX2, "spread", "(I)V"⟩
abbrev cX2_waysWithin : ByteArray := prog_4_method_5_code
def yX2_waysWithin : MethodName := ⟨RX2, "waysWithin", "(II)J"⟩
abbrev cX2_reduce : ByteArray := prog_4_method_6_code
def yX2_reduce : MethodName := ⟨RX2, "reduce", "()V"⟩
def RX3 : String := "OffOnTheSecond$Reader"
def TX3 : u_T := fun k => match k with
  | 0 => ("OffOnTheSecond$Reader", "code", "LOffOnTheSecond$Line;", true)
  | 1 => ("OffOnTheSecond$Reader", "pending", "LOffOnTheSecond$Line;", true)
  | 2 => ("OffOnTheSecond$Reader", "wantsQ", "Z", false)
  | 3 => ("OffOnTheSecond$Reader", "open", "I", false)
  | _ => ("OffOnTheSecond$Reader", "digits", "I", false)
def tyX3 : Nat → FieldType := fun k => match k with
  | 0 => .object "OffOnTheSecond$Line"
  | 1 => .object "OffOnTheSecond$Line"
  | 2 => .boolean
  | 3 => .int
  | _ => .int
abbrev wsX30 : List Cond := u_ws RX3 TX3 5
theorem nmX3 : ∀ a, a < 5 → ∀ b, b < 5 → a ≠ b → (TX3 a).2.1 ≠ (TX3 b).2.1 := by decide +kernel
theorem tyX3_ok : ∀ k, k < 5 → parseFieldDescriptor (TX3 k).2.2.1 = some (tyX3 k) := by decide +kernel
abbrev cX3_init : ByteArray := prog_5_method_1_code
def yX3_init : MethodName := ⟨RX3, "<init>", "()V"⟩
abbrev cX3_faultOf : ByteArray := prog_5_method_2_code
def yX3_faultOf : MethodName := ⟨RX3, "faultOf", "(LOffOnTheSecond$Line;I)I"⟩
abbrev cX3_takes : ByteArray := prog_5_method_3_code
def yX3_takes : MethodName := ⟨RX3, "takes", "(II)Z"⟩
abbrev cX3_takesDigit : ByteArray := prog_5_method_4_code
def yX3_takesDigit : MethodName := ⟨RX3, "takesDigit", "(I)Z"⟩
abbrev cX3_takesStart : ByteArray := prog_5_method_5_code
def yX3_takesStart : MethodName := ⟨RX3, "takesStart", "(II)Z"⟩
abbrev cX3_takesNext : ByteArray := prog_5_method_6_code
def yX3_takesNext : MethodName := ⟨RX3, "takesNext", "(I)Z"⟩
abbrev cX3_closes : ByteArray := prog_5_method_7_code
def yX3_closes : MethodName := ⟨RX3, "closes", "()Z"⟩
abbrev cX3_isWhole : ByteArray := prog_5_method_8_code
def yX3_isWhole : MethodName := ⟨RX3, "isWhole", "()Z"⟩
abbrev cX3_settle : ByteArray := prog_5_method_9_code
def yX3_settle : MethodName := ⟨RX3, "settle", "(I)V"⟩
abbrev cX3_rankOf : ByteArray := prog_5_method_10_code
def yX3_rankOf : MethodName := ⟨RX3, "rankOf", "(I)I"⟩
abbrev cX3_nameOf : ByteArray := prog_5_method_11_code
def yX3_nameOf : MethodName := ⟨RX3, "nameOf", "(II)I"⟩
def RX4 : String := "OffOnTheSecond$Rows"
def TX4 : u_T := fun k => match k with
  | 0 => ("OffOnTheSecond$Rows", "liked", "I", false)
  | 1 => ("OffOnTheSecond$Rows", "chosen", "LOffOnTheSecond$Line;", true)
  | 2 => ("OffOnTheSecond$Rows", "members", "LOffOnTheSecond$Line;", true)
  | 3 => ("OffOnTheSecond$Rows", "likings", "LOffOnTheSecond$Line;", true)
  | _ => ("OffOnTheSecond$Rows", "best", "LOffOnTheSecond$Line;", true)
def tyX4 : Nat → FieldType := fun k => match k with
  | 0 => .int
  | 1 => .object "OffOnTheSecond$Line"
  | 2 => .object "OffOnTheSecond$Line"
  | 3 => .object "OffOnTheSecond$Line"
  | _ => .object "OffOnTheSecond$Line"
abbrev wsX40 : List Cond := u_ws RX4 TX4 5
theorem nmX4 : ∀ a, a < 5 → ∀ b, b < 5 → a ≠ b → (TX4 a).2.1 ≠ (TX4 b).2.1 := by decide +kernel
theorem tyX4_ok : ∀ k, k < 5 → parseFieldDescriptor (TX4 k).2.2.1 = some (tyX4 k) := by decide +kernel
abbrev cX4_init : ByteArray := prog_6_method_1_code
def yX4_init : MethodName := ⟨RX4, "<init>", "()V"⟩
abbrev cX4_think : ByteArray := prog_6_method_2_code
def yX4_think : MethodName := ⟨RX4, "think", "(LOffOnTheSecond$Show;)V"⟩
abbrev cX4_askLikings : ByteArray := prog_6_method_3_code
def yX4_askLikings : MethodName := ⟨RX4, "askLikings", "(LOffOnTheSecond$Show;)V"⟩
abbrev cX4_bestNext : ByteArray := prog_6_method_4_code
def yX4_bestNext : MethodName := ⟨RX4, "bestNext", "(I)I"⟩
abbrev cX4_withNext : ByteArray := prog_6_method_5_code
def yX4_withNext : MethodName := ⟨RX4, "withNext", "(II)I"⟩
abbrev cX4_choose : ByteArray := prog_6_method_6_code
def yX4_choose : MethodName := ⟨RX4, "choose", "(I)V"⟩
def RX5 : String := "OffOnTheSecond$Sets"
def TX5 : u_T := fun k => match k with
  | 0 => ("OffOnTheSecond$Sets", "found", "I", false)
  | 1 => ("OffOnTheSecond$Sets", "values", "LOffOnTheSecond$Line;", true)
  | 2 => ("OffOnTheSecond$Sets", "leasts", "[I", true)
  | 3 => ("OffOnTheSecond$Sets", "mosts", "[I", true)
  | 4 => ("OffOnTheSecond$Sets", "worths", "[I", true)
  | _ => ("OffOnTheSecond$Sets", "trues", "[I", true)
def tyX5 : Nat → FieldType := fun k => match k with
  | 0 => .int
  | 1 => .object "OffOnTheSecond$Line"
  | 2 => .array .int
  | 3 => .array .int
  | 4 => .array .int
  | _ => .array .int
abbrev wsX50 : List Cond := u_ws RX5 TX5 6
theorem nmX5 : ∀ a, a < 6 → ∀ b, b < 6 → a ≠ b → (TX5 a).2.1 ≠ (TX5 b).2.1 := by decide +kernel
theorem tyX5_ok : ∀ k, k < 6 → parseFieldDescriptor (TX5 k).2.2.1 = some (tyX5 k) := by decide +kernel
abbrev cX5_init : ByteArray := prog_7_method_1_code
def yX5_init : MethodName := ⟨RX5, "<init>", "()V"⟩
abbrev cX5_findsDrops : ByteArray := prog_7_method_2_code
def yX5_findsDrops : MethodName := ⟨RX5, "findsDrops", "(LOffOnTheSecond$Show;)Z"⟩
abbrev cX5_countSums : ByteArray := prog_7_method_3_code
def yX5_countSums : MethodName := ⟨RX5, "countSums", "(LOffOnTheSecond$Show;I)I"⟩
abbrev cX5_addUp : ByteArray := prog_7_method_4_code
def yX5_addUp : MethodName := ⟨RX5, "addUp", "([II)V"⟩
abbrev cX5_findsBest : ByteArray := prog_7_method_5_code
def yX5_findsBest : MethodName := ⟨RX5, "findsBest", "(II)Z"⟩
abbrev cX5_sumAt : ByteArray := prog_7_method_6_code
def yX5_sumAt : MethodName := ⟨RX5, "sumAt", "([II)I"⟩
def RX6 : String := "OffOnTheSecond$Sheet"
def TX6 : u_T := fun k => match k with
  | 0 => ("OffOnTheSecond$Sheet", "bits", "I", false)
  | _ => ("OffOnTheSecond$Sheet", "numbers", "LOffOnTheSecond$Line;", true)
def tyX6 : Nat → FieldType := fun k => match k with
  | 0 => .int
  | _ => .object "OffOnTheSecond$Line"
abbrev wsX60 : List Cond := u_ws RX6 TX6 2
theorem nmX6 : ∀ a, a < 2 → ∀ b, b < 2 → a ≠ b → (TX6 a).2.1 ≠ (TX6 b).2.1 := by decide +kernel
theorem tyX6_ok : ∀ k, k < 2 → parseFieldDescriptor (TX6 k).2.2.1 = some (tyX6 k) := by decide +kernel
abbrev cX6_init : ByteArray := prog_8_method_1_code
def yX6_init : MethodName := ⟨RX6, "<init>", "()V"⟩
abbrev cX6_lay : ByteArray := prog_8_method_2_code
def yX6_lay : MethodName := ⟨RX6, "lay", "(II)V"⟩
abbrev cX6_write : ByteArray := prog_8_method_3_code
def yX6_write : MethodName := ⟨RX6, "write", "(II)V"⟩
def RX7 : String := "OffOnTheSecond$Show"
def TX7 : u_T := fun k => match k with
  | 0 => ("OffOnTheSecond$Show", "items", "LOffOnTheSecond$Items;", true)
  | 1 => ("OffOnTheSecond$Show", "end", "I", false)
  | 2 => ("OffOnTheSecond$Show", "now", "I", false)
  | 3 => ("OffOnTheSecond$Show", "tune", "I", false)
  | 4 => ("OffOnTheSecond$Show", "z", "I", false)
  | 5 => ("OffOnTheSecond$Show", "tape", "LOffOnTheSecond$Line;", true)
  | 6 => ("OffOnTheSecond$Show", "waiting", "LOffOnTheSecond$Line;", true)
  | 7 => ("OffOnTheSecond$Show", "worth", "LOffOnTheSecond$Text;", true)
  | _ => ("OffOnTheSecond$Show", "liked", "LOffOnTheSecond$Text;", true)
def tyX7 : Nat → FieldType := fun k => match k with
  | 0 => .object "OffOnTheSecond$Items"
  | 1 => .int
  | 2 => .int
  | 3 => .int
  | 4 => .int
  | 5 => .object "OffOnTheSecond$Line"
  | 6 => .object "OffOnTheSecond$Line"
  | 7 => .object "OffOnTheSecond$Text"
  | _ => .object "OffOnTheSecond$Text"
abbrev wsX70 : List Cond := u_ws RX7 TX7 9
theorem nmX7 : ∀ a, a < 9 → ∀ b, b < 9 → a ≠ b → (TX7 a).2.1 ≠ (TX7 b).2.1 := by decide +kernel
theorem tyX7_ok : ∀ k, k < 9 → parseFieldDescriptor (TX7 k).2.2.1 = some (tyX7 k) := by decide +kernel
abbrev cX7_init : ByteArray := prog_9_method_1_code
def yX7_init : MethodName := ⟨RX7, "<init>", "()V"⟩
abbrev cX7_setClock : ByteArray := prog_9_method_2_code
def yX7_setClock : MethodName := ⟨RX7, "setClock", "(II)I"⟩
abbrev cX7_there : ByteArray := prog_9_method_3_code
def yX7_there : MethodName := ⟨RX7, "there", "()I"⟩
abbrev cX7_fitsLeft : ByteArray := prog_9_method_4_code
def yX7_fitsLeft : MethodName := ⟨RX7, "fitsLeft", "()Z"⟩
abbrev cX7_finish : ByteArray := prog_9_method_5_code
def yX7_finish : MethodName := ⟨RX7, "finish", "(II)I"⟩
abbrev cX7_finishesOneByDraw : ByteArray := prog_9_method_6_code
def yX7_finishesOneByDraw : MethodName := ⟨RX7, "finishesOneByDraw", "()Z"⟩
abbrev cX7_draw : ByteArray := prog_9_method_7_code
def yX7_draw : MethodName := ⟨RX7, "draw", "()I"⟩
abbrev cX7_planned : ByteArray := prog_9_method_8_code
def yX7_planned : MethodName := ⟨RX7, "planned", "(I)I"⟩
abbrev cX7_earliest : ByteArray := prog_9_method_9_code
def yX7_earliest : MethodName := ⟨RX7, "earliest", "(I)I"⟩
abbrev cX7_latest : ByteArray := prog_9_method_10_code
def yX7_latest : MethodName := ⟨RX7, "latest", "(I)I"⟩
abbrev cX7_textOf : ByteArray := prog_9_method_11_code
def yX7_textOf : MethodName := ⟨RX7, "textOf", "(I)LOffOnTheSecond$Text;"⟩
abbrev cX7_worthBy : ByteArray := prog_9_method_12_code
def yX7_worthBy : MethodName := ⟨RX7, "worthBy", "(III)I"⟩
abbrev cX7_likingBy : ByteArray := prog_9_method_13_code
def yX7_likingBy : MethodName := ⟨RX7, "likingBy", "(III)I"⟩
abbrev cX7_worthOf : ByteArray := prog_9_method_14_code
def yX7_worthOf : MethodName := ⟨RX7, "worthOf", "(I)I"⟩
abbrev cX7_takeFrom : ByteArray := prog_9_method_15_code
def yX7_takeFrom : MethodName := ⟨RX7, "takeFrom", "(LOffOnTheSecond$Show;)V"⟩
def RX8 : String := "OffOnTheSecond$Text"
def TX8 : u_T := fun k => match k with
  | 0 => ("OffOnTheSecond$Text", "stands", "Z", false)
  | 1 => ("OffOnTheSecond$Text", "code", "LOffOnTheSecond$Line;", true)
  | _ => ("OffOnTheSecond$Text", "stack", "LOffOnTheSecond$Line;", true)
def tyX8 : Nat → FieldType := fun k => match k with
  | 0 => .boolean
  | 1 => .object "OffOnTheSecond$Line"
  | _ => .object "OffOnTheSecond$Line"
abbrev wsX80 : List Cond := u_ws RX8 TX8 3
theorem nmX8 : ∀ a, a < 3 → ∀ b, b < 3 → a ≠ b → (TX8 a).2.1 ≠ (TX8 b).2.1 := by decide +kernel
theorem tyX8_ok : ∀ k, k < 3 → parseFieldDescriptor (TX8 k).2.2.1 = some (tyX8 k) := by decide +kernel
abbrev cX8_init : ByteArray := prog_10_method_1_code
def yX8_init : MethodName := ⟨RX8, "<init>", "()V"⟩
abbrev cX8_learn : ByteArray := prog_10_method_2_code
def yX8_learn : MethodName := ⟨RX8, "learn", "(LOffOnTheSecond$Line;)V"⟩
abbrev cX8_forget : ByteArray := prog_10_method_3_code
def yX8_forget : MethodName := ⟨RX8, "forget", "()Z"⟩
abbrev cX8_give : ByteArray := prog_10_method_4_code
def yX8_give : MethodName := ⟨RX8, "give", "(III)I"⟩
abbrev cX8_joined : ByteArray := prog_10_method_5_code
def yX8_joined : MethodName := ⟨RX8, "joined", "(III)I"⟩
abbrev cX8_takeFrom : ByteArray := prog_10_method_6_code
def yX8_takeFrom : MethodName := ⟨RX8, "takeFrom", "(LOffOnTheSecond$Text;)V"⟩
def RX9 : String := "OffOnTheSecond$Voices"
def TX9 : u_T := fun k => match k with
  | 0 => ("OffOnTheSecond$Voices", "trace", "LOffOnTheSecond$Line;", true)
  | 1 => ("OffOnTheSecond$Voices", "parted", "Z", false)
  | 2 => ("OffOnTheSecond$Voices", "kind", "I", false)
  | 3 => ("OffOnTheSecond$Voices", "k", "I", false)
  | _ => ("OffOnTheSecond$Voices", "m", "I", false)
def tyX9 : Nat → FieldType := fun k => match k with
  | 0 => .object "OffOnTheSecond$Line"
  | 1 => .boolean
  | 2 => .int
  | 3 => .int
  | _ => .int
abbrev wsX90 : List Cond := u_ws RX9 TX9 5
theorem nmX9 : ∀ a, a < 5 → ∀ b, b < 5 → a ≠ b → (TX9 a).2.1 ≠ (TX9 b).2.1 := by decide +kernel
theorem tyX9_ok : ∀ k, k < 5 → parseFieldDescriptor (TX9 k).2.2.1 = some (tyX9 k) := by decide +kernel
abbrev cX9_init : ByteArray := prog_11_method_1_code
def yX9_init : MethodName := ⟨RX9, "<init>", "()V"⟩
abbrev cX9_hear : ByteArray := prog_11_method_2_code
def yX9_hear : MethodName := ⟨RX9, "hear", "(LOffOnTheSecond$Items;III)I"⟩
abbrev cX9_speak : ByteArray := prog_11_method_3_code
def yX9_speak : MethodName := ⟨RX9, "speak", "(IIII)I"⟩
abbrev cX9_answerOf : ByteArray := prog_11_method_4_code
def yX9_answerOf : MethodName := ⟨RX9, "answerOf", "(III)I"⟩
abbrev cX9_cutUp : ByteArray := prog_11_method_5_code
def yX9_cutUp : MethodName := ⟨RX9, "cutUp", "(I)I"⟩
abbrev cX9_bodyOf : ByteArray := prog_11_method_6_code
def yX9_bodyOf : MethodName := ⟨RX9, "bodyOf", "(II)I"⟩
def RX10 : String := "OffOnTheSecond"
def TX10 : u_T := fun k => match k with
  | 0 => ("OffOnTheSecond", "show", "LOffOnTheSecond$Show;", true)
  | 1 => ("OffOnTheSecond", "kept", "LOffOnTheSecond$Show;", true)
  | 2 => ("OffOnTheSecond", "images", "I", false)
  | 3 => ("OffOnTheSecond", "errors", "LOffOnTheSecond$Line;", true)
  | 4 => ("OffOnTheSecond", "reader", "LOffOnTheSecond$Reader;", true)
  | 5 => ("OffOnTheSecond", "sets", "LOffOnTheSecond$Sets;", true)
  | 6 => ("OffOnTheSecond", "rows", "LOffOnTheSecond$Rows;", true)
  | 7 => ("OffOnTheSecond", "chances", "LOffOnTheSecond$Odds;", true)
  | 8 => ("OffOnTheSecond", "voices", "LOffOnTheSecond$Voices;", true)
  | _ => ("OffOnTheSecond", "sheets", "[LOffOnTheSecond$Sheet;", true)
def tyX10 : Nat → FieldType := fun k => match k with
  | 0 => .object "OffOnTheSecond$Show"
  | 1 => .object "OffOnTheSecond$Show"
  | 2 => .int
  | 3 => .object "OffOnTheSecond$Line"
  | 4 => .object "OffOnTheSecond$Reader"
  | 5 => .object "OffOnTheSecond$Sets"
  | 6 => .object "OffOnTheSecond$Rows"
  | 7 => .object "OffOnTheSecond$Odds"
  | 8 => .object "OffOnTheSecond$Voices"
  | _ => .array (.object "OffOnTheSecond$Sheet")
abbrev wsX100 : List Cond := u_ws RX10 TX10 10
theorem nmX10 : ∀ a, a < 10 → ∀ b, b < 10 → a ≠ b → (TX10 a).2.1 ≠ (TX10 b).2.1 := by decide +kernel
theorem tyX10_ok : ∀ k, k < 10 → parseFieldDescriptor (TX10 k).2.2.1 = some (tyX10 k) := by decide +kernel
abbrev cX10_init : ByteArray := prog_1_method_1_code
def yX10_init : MethodName := ⟨RX10, "<init>", "()V"⟩
abbrev cX10_item : ByteArray := prog_1_method_2_code
def yX10_item : MethodName := ⟨RX10, "item", "(II)I"⟩
abbrev cX10_itemIs : ByteArray := prog_1_method_3_code
def yX10_itemIs : MethodName := ⟨RX10, "itemIs", "(II)I"⟩
abbrev cX10_become : ByteArray := prog_1_method_4_code
def yX10_become : MethodName := ⟨RX10, "become", "(II)I"⟩
abbrev cX10_as : ByteArray := prog_1_method_5_code
def yX10_as : MethodName := ⟨RX10, "as", "(II)I"⟩
abbrev cX10_truth : ByteArray := prog_1_method_6_code
def yX10_truth : MethodName := ⟨RX10, "truth", "(II)I"⟩
abbrev cX10_shift : ByteArray := prog_1_method_7_code
def yX10_shift : MethodName := ⟨RX10, "shift", "(II)I"⟩
abbrev cX10_clock : ByteArray := prog_1_method_8_code
def yX10_clock : MethodName := ⟨RX10, "clock", "(II)I"⟩
abbrev cX10_feed : ByteArray := prog_1_method_9_code
def yX10_feed : MethodName := ⟨RX10, "feed", "(JI)I"⟩
abbrev cX10_text : ByteArray := prog_1_method_10_code
def yX10_text : MethodName := ⟨RX10, "text", "(I)I"⟩
abbrev cX10_untell : ByteArray := prog_1_method_11_code
def yX10_untell : MethodName := ⟨RX10, "untell", "(I)I"⟩
abbrev cX10_law : ByteArray := prog_1_method_12_code
def yX10_law : MethodName := ⟨RX10, "law", "(IIII)I"⟩
abbrev cX10_air : ByteArray := prog_1_method_13_code
def yX10_air : MethodName := ⟨RX10, "air", "(I)I"⟩
abbrev cX10_breaks : ByteArray := prog_1_method_14_code
def yX10_breaks : MethodName := ⟨RX10, "breaks", "(I)I"⟩
abbrev cX10_drop : ByteArray := prog_1_method_15_code
def yX10_drop : MethodName := ⟨RX10, "drop", "(I)I"⟩
abbrev cX10_loose : ByteArray := prog_1_method_16_code
def yX10_loose : MethodName := ⟨RX10, "loose", "(I)I"⟩
abbrev cX10_anew : ByteArray := prog_1_method_17_code
def yX10_anew : MethodName := ⟨RX10, "anew", "()I"⟩
abbrev cX10_seed : ByteArray := prog_1_method_18_code
def yX10_seed : MethodName := ⟨RX10, "seed", "(I)I"⟩
abbrev cX10_over : ByteArray := prog_1_method_19_code
def yX10_over : MethodName := ⟨RX10, "over", "()I"⟩
abbrev cX10_fits : ByteArray := prog_1_method_20_code
def yX10_fits : MethodName := ⟨RX10, "fits", "()I"⟩
abbrev cX10_spare : ByteArray := prog_1_method_21_code
def yX10_spare : MethodName := ⟨RX10, "spare", "()I"⟩
abbrev cX10_tuned : ByteArray := prog_1_method_22_code
def yX10_tuned : MethodName := ⟨RX10, "tuned", "()I"⟩
abbrev cX10_plan : ByteArray := prog_1_method_23_code
def yX10_plan : MethodName := ⟨RX10, "plan", "(I)I"⟩
abbrev cX10_begins : ByteArray := prog_1_method_24_code
def yX10_begins : MethodName := ⟨RX10, "begins", "(II)I"⟩
abbrev cX10_drops : ByteArray := prog_1_method_25_code
def yX10_drops : MethodName := ⟨RX10, "drops", "(I)I"⟩
abbrev cX10_row : ByteArray := prog_1_method_26_code
def yX10_row : MethodName := ⟨RX10, "row", "(I)I"⟩
abbrev cX10_odds : ByteArray := prog_1_method_27_code
def yX10_odds : MethodName := ⟨RX10, "odds", "(I)J"⟩
abbrev cX10_sums : ByteArray := prog_1_method_28_code
def yX10_sums : MethodName := ⟨RX10, "sums", "(II)I"⟩
abbrev cX10_voice : ByteArray := prog_1_method_29_code
def yX10_voice : MethodName := ⟨RX10, "voice", "(III)I"⟩
abbrev cX10_body : ByteArray := prog_1_method_30_code
def yX10_body : MethodName := ⟨RX10, "body", "(I)I"⟩
abbrev cX10_sheet : ByteArray := prog_1_method_31_code
def yX10_sheet : MethodName := ⟨RX10, "sheet", "(III)I"⟩
abbrev cX10_put : ByteArray := prog_1_method_32_code
def yX10_put : MethodName := ⟨RX10, "put", "(III)I"⟩
abbrev cX10_move : ByteArray := prog_1_method_33_code
def yX10_move : MethodName := ⟨RX10, "move", "(IIIII)I"⟩
abbrev cX10_truths : ByteArray := prog_1_method_34_code
def yX10_truths : MethodName := ⟨RX10, "truths", "(I)I"⟩
abbrev cX10_judge : ByteArray := prog_1_method_35_code
def yX10_judge : MethodName := ⟨RX10, "judge", "(I)I"⟩
abbrev cX10_image : ByteArray := prog_1_method_36_code
def yX10_image : MethodName := ⟨RX10, "image", "()I"⟩
abbrev cX10_restore : ByteArray := prog_1_method_37_code
def yX10_restore : MethodName := ⟨RX10, "restore", "()I"⟩
abbrev cX10_tell : ByteArray := prog_1_method_38_code
def yX10_tell : MethodName := ⟨RX10, "tell", "(I)I"⟩
abbrev cX10_check : ByteArray := prog_1_method_39_code
def yX10_check : MethodName := ⟨RX10, "check", "()I"⟩
abbrev cX10_count : ByteArray := prog_1_method_40_code
def yX10_count : MethodName := ⟨RX10, "count", "(I)I"⟩
abbrev cX10_told : ByteArray := prog_1_method_41_code
def yX10_told : MethodName := ⟨RX10, "told", "(I)I"⟩
abbrev cX10_error : ByteArray := prog_1_method_42_code
def yX10_error : MethodName := ⟨RX10, "error", "(I)I"⟩
abbrev cX10_sheetAt : ByteArray := prog_1_method_43_code
def yX10_sheetAt : MethodName := ⟨RX10, "sheetAt", "(I)LOffOnTheSecond$Sheet;"⟩
abbrev cX10_isSheet : ByteArray := prog_1_method_44_code
def yX10_isSheet : MethodName := ⟨RX10, "isSheet", "(I)Z"⟩
abbrev cX10_isMissing : ByteArray := prog_1_method_45_code
def yX10_isMissing : MethodName := ⟨RX10, "isMissing", "(LOffOnTheSecond$Sheet;)Z"⟩
abbrev cX10_isKm : ByteArray := prog_1_method_46_code
def yX10_isKm : MethodName := ⟨RX10, "isKm", "(I)Z"⟩
abbrev cX10_isTruth : ByteArray := prog_1_method_47_code
def yX10_isTruth : MethodName := ⟨RX10, "isTruth", "(I)Z"⟩
abbrev cX10_isUse : ByteArray := prog_1_method_48_code
def yX10_isUse : MethodName := ⟨RX10, "isUse", "(I)Z"⟩
abbrev cX10_within : ByteArray := prog_1_method_49_code
def yX10_within : MethodName := ⟨RX10, "within", "(III)I"⟩
def RX11 : String := "OffOnTheSecondModel"
def TX11 : u_T := fun k => match k with
  | 0 => ("OffOnTheSecondModel", "s", "[I", true)
  | 1 => ("OffOnTheSecondModel", "kept", "[I", true)
  | 2 => ("OffOnTheSecondModel", "images", "I", false)
  | 3 => ("OffOnTheSecondModel", "errors", "[I", true)
  | 4 => ("OffOnTheSecondModel", "at", "I", false)
  | 5 => ("OffOnTheSecondModel", "open", "I", false)
  | 6 => ("OffOnTheSecondModel", "steps", "I", false)
  | 7 => ("OffOnTheSecondModel", "use", "I", false)
  | 8 => ("OffOnTheSecondModel", "step", "[I", true)
  | 9 => ("OffOnTheSecondModel", "named", "[I", true)
  | 10 => ("OffOnTheSecondModel", "pile", "[I", true)
  | 11 => ("OffOnTheSecondModel", "row1", "[I", true)
  | 12 => ("OffOnTheSecondModel", "best1", "[I", true)
  | 13 => ("OffOnTheSecondModel", "most1", "I", false)
  | 14 => ("OffOnTheSecondModel", "isBest", "Z", false)
  | 15 => ("OffOnTheSecondModel", "ways", "[J", true)
  | 16 => ("OffOnTheSecondModel", "waysThen", "[J", true)
  | 17 => ("OffOnTheSecondModel", "traced", "I", false)
  | 18 => ("OffOnTheSecondModel", "trace", "[I", true)
  | 19 => ("OffOnTheSecondModel", "speaks", "I", false)
  | 20 => ("OffOnTheSecondModel", "isParted", "Z", false)
  | 21 => ("OffOnTheSecondModel", "bits", "[I", true)
  | 22 => ("OffOnTheSecondModel", "sizes", "[I", true)
  | 23 => ("OffOnTheSecondModel", "number", "[I", true)
  | _ => ("OffOnTheSecondModel", "aside", "[I", true)
def tyX11 : Nat → FieldType := fun k => match k with
  | 0 => .array .int
  | 1 => .array .int
  | 2 => .int
  | 3 => .array .int
  | 4 => .int
  | 5 => .int
  | 6 => .int
  | 7 => .int
  | 8 => .array .int
  | 9 => .array .int
  | 10 => .array .int
  | 11 => .array .int
  | 12 => .array .int
  | 13 => .int
  | 14 => .boolean
  | 15 => .array .long
  | 16 => .array .long
  | 17 => .int
  | 18 => .array .int
  | 19 => .int
  | 20 => .boolean
  | 21 => .array .int
  | 22 => .array .int
  | 23 => .array .int
  | _ => .array .int
abbrev wsX110 : List Cond := u_ws RX11 TX11 25
theorem nmX11 : ∀ a, a < 25 → ∀ b, b < 25 → a ≠ b → (TX11 a).2.1 ≠ (TX11 b).2.1 := by decide +kernel
theorem tyX11_ok : ∀ k, k < 25 → parseFieldDescriptor (TX11 k).2.2.1 = some (tyX11 k) := by decide +kernel
abbrev cX11_init : ByteArray := prog_13_method_1_code
def yX11_init : MethodName := ⟨RX11, "<init>", "()V"⟩
abbrev cX11_error : ByteArray := prog_13_method_2_code
def yX11_error : MethodName := ⟨RX11, "error", "(I)I"⟩
abbrev cX11_in : ByteArray := prog_13_method_3_code
def yX11_in : MethodName := ⟨RX11, "in", "(III)Z"⟩
abbrev cX11_held : ByteArray := prog_13_method_4_code
def yX11_held : MethodName := ⟨RX11, "held", "(III)I"⟩
abbrev cX11_copyAll : ByteArray := prog_13_method_5_code
def yX11_copyAll : MethodName := ⟨RX11, "copyAll", "([I[I)V"⟩
abbrev cX11_isItem : ByteArray := prog_13_method_6_code
def yX11_isItem : MethodName := ⟨RX11, "isItem", "(I)Z"⟩
abbrev cX11_its : ByteArray := prog_13_method_7_code
def yX11_its : MethodName := ⟨RX11, "its", "(II)I"⟩
abbrev cX11_lays1 : ByteArray := prog_13_method_8_code
def yX11_lays1 : MethodName := ⟨RX11, "lays1", "(III)V"⟩
abbrev cX11_change1 : ByteArray := prog_13_method_9_code
def yX11_change1 : MethodName := ⟨RX11, "change1", "(II)I"⟩
abbrev cX11_feed : ByteArray := prog_13_method_10_code
def yX11_feed : MethodName := ⟨RX11, "feed", "(JI)I"⟩
abbrev cX11_look : ByteArray := prog_13_method_11_code
def yX11_look : MethodName := ⟨RX11, "look", "()I"⟩
abbrev cX11_isName : ByteArray := prog_13_method_12_code
def yX11_isName : MethodName := ⟨RX11, "isName", "(I)Z"⟩
abbrev cX11_step1 : ByteArray := prog_13_method_13_code
def yX11_step1 : MethodName := ⟨RX11, "step1", "(II)V"⟩
abbrev cX11_whole : ByteArray := prog_13_method_14_code
def yX11_whole : MethodName := ⟨RX11, "whole", "()Z"⟩
abbrev cX11_both : ByteArray := prog_13_method_15_code
def yX11_both : MethodName := ⟨RX11, "both", "()Z"⟩
abbrev cX11_compared : ByteArray := prog_13_method_16_code
def yX11_compared : MethodName := ⟨RX11, "compared", "()Z"⟩
abbrev cX11_sum : ByteArray := prog_13_method_17_code
def yX11_sum : MethodName := ⟨RX11, "sum", "()Z"⟩
abbrev cX11_product : ByteArray := prog_13_method_18_code
def yX11_product : MethodName := ⟨RX11, "product", "()Z"⟩
abbrev cX11_opens : ByteArray := prog_13_method_19_code
def yX11_opens : MethodName := ⟨RX11, "opens", "()Z"⟩
abbrev cX11_one : ByteArray := prog_13_method_20_code
def yX11_one : MethodName := ⟨RX11, "one", "()Z"⟩
abbrev cX11_hasText : ByteArray := prog_13_method_21_code
def yX11_hasText : MethodName := ⟨RX11, "hasText", "(I)Z"⟩
abbrev cX11_text : ByteArray := prog_13_method_22_code
def yX11_text : MethodName := ⟨RX11, "text", "(I)I"⟩
abbrev cX11_untell : ByteArray := prog_13_method_23_code
def yX11_untell : MethodName := ⟨RX11, "untell", "(I)I"⟩
abbrev cX11_joined : ByteArray := prog_13_method_24_code
def yX11_joined : MethodName := ⟨RX11, "joined", "(III)I"⟩
abbrev cX11_worked : ByteArray := prog_13_method_25_code
def yX11_worked : MethodName := ⟨RX11, "worked", "(I)I"⟩
abbrev cX11_leastOf : ByteArray := prog_13_method_26_code
def yX11_leastOf : MethodName := ⟨RX11, "leastOf", "(I)I"⟩
abbrev cX11_mostOf : ByteArray := prog_13_method_27_code
def yX11_mostOf : MethodName := ⟨RX11, "mostOf", "(I)I"⟩
abbrev cX11_isLeft : ByteArray := prog_13_method_28_code
def yX11_isLeft : MethodName := ⟨RX11, "isLeft", "(I)Z"⟩
abbrev cX11_leftSet : ByteArray := prog_13_method_29_code
def yX11_leftSet : MethodName := ⟨RX11, "leftSet", "()I"⟩
abbrev cX11_bitsOf : ByteArray := prog_13_method_30_code
def yX11_bitsOf : MethodName := ⟨RX11, "bitsOf", "(I)I"⟩
abbrev cX11_leastAll : ByteArray := prog_13_method_31_code
def yX11_leastAll : MethodName := ⟨RX11, "leastAll", "(I)I"⟩
abbrev cX11_mostAll : ByteArray := prog_13_method_32_code
def yX11_mostAll : MethodName := ⟨RX11, "mostAll", "(I)I"⟩
abbrev cX11_thereIs : ByteArray := prog_13_method_33_code
def yX11_thereIs : MethodName := ⟨RX11, "thereIs", "()I"⟩
abbrev cX11_fitsSet : ByteArray := prog_13_method_34_code
def yX11_fitsSet : MethodName := ⟨RX11, "fitsSet", "(II)Z"⟩
abbrev cX11_itemAt : ByteArray := prog_13_method_35_code
def yX11_itemAt : MethodName := ⟨RX11, "itemAt", "(I)I"⟩
abbrev cX11_onNow : ByteArray := prog_13_method_36_code
def yX11_onNow : MethodName := ⟨RX11, "onNow", "()I"⟩
abbrev cX11_isKind : ByteArray := prog_13_method_37_code
def yX11_isKind : MethodName := ⟨RX11, "isKind", "(I)Z"⟩
abbrev cX11_item : ByteArray := prog_13_method_38_code
def yX11_item : MethodName := ⟨RX11, "item", "(II)I"⟩
abbrev cX11_itemIs : ByteArray := prog_13_method_39_code
def yX11_itemIs : MethodName := ⟨RX11, "itemIs", "(II)I"⟩
abbrev cX11_become : ByteArray := prog_13_method_40_code
def yX11_become : MethodName := ⟨RX11, "become", "(II)I"⟩
abbrev cX11_as : ByteArray := prog_13_method_41_code
def yX11_as : MethodName := ⟨RX11, "as", "(II)I"⟩
abbrev cX11_truth : ByteArray := prog_13_method_42_code
def yX11_truth : MethodName := ⟨RX11, "truth", "(II)I"⟩
abbrev cX11_shift : ByteArray := prog_13_method_43_code
def yX11_shift : MethodName := ⟨RX11, "shift", "(II)I"⟩
abbrev cX11_clock : ByteArray := prog_13_method_44_code
def yX11_clock : MethodName := ⟨RX11, "clock", "(II)I"⟩
abbrev cX11_worthTold : ByteArray := prog_13_method_45_code
def yX11_worthTold : MethodName := ⟨RX11, "worthTold", "(III)I"⟩
abbrev cX11_likedTold : ByteArray := prog_13_method_46_code
def yX11_likedTold : MethodName := ⟨RX11, "likedTold", "(III)I"⟩
abbrev cX11_law : ByteArray := prog_13_method_47_code
def yX11_law : MethodName := ⟨RX11, "law", "(IIII)I"⟩
abbrev cX11_isDone : ByteArray := prog_13_method_48_code
def yX11_isDone : MethodName := ⟨RX11, "isDone", "(II)V"⟩
abbrev cX11_air : ByteArray := prog_13_method_49_code
def yX11_air : MethodName := ⟨RX11, "air", "(I)I"⟩
abbrev cX11_breaks : ByteArray := prog_13_method_50_code
def yX11_breaks : MethodName := ⟨RX11, "breaks", "(I)I"⟩
abbrev cX11_drop : ByteArray := prog_13_method_51_code
def yX11_drop : MethodName := ⟨RX11, "drop", "(I)I"⟩
abbrev cX11_draw : ByteArray := prog_13_method_52_code
def yX11_draw : MethodName := ⟨RX11, "draw", "()I"⟩
abbrev cX11_loose : ByteArray := prog_13_method_53_code
def yX11_loose : MethodName := ⟨RX11, "loose", "(I)I"⟩
abbrev cX11_anew : ByteArray := prog_13_method_54_code
def yX11_anew : MethodName := ⟨RX11, "anew", "()I"⟩
abbrev cX11_seed : ByteArray := prog_13_method_55_code
def yX11_seed : MethodName := ⟨RX11, "seed", "(I)I"⟩
abbrev cX11_over : ByteArray := prog_13_method_56_code
def yX11_over : MethodName := ⟨RX11, "over", "()I"⟩
abbrev cX11_fits : ByteArray := prog_13_method_57_code
def yX11_fits : MethodName := ⟨RX11, "fits", "()I"⟩
abbrev cX11_spare : ByteArray := prog_13_method_58_code
def yX11_spare : MethodName := ⟨RX11, "spare", "()I"⟩
abbrev cX11_tuned : ByteArray := prog_13_method_59_code
def yX11_tuned : MethodName := ⟨RX11, "tuned", "()I"⟩
abbrev cX11_aheadOf : ByteArray := prog_13_method_60_code
def yX11_aheadOf : MethodName := ⟨RX11, "aheadOf", "(I)I"⟩
abbrev cX11_noPlan : ByteArray := prog_13_method_61_code
def yX11_noPlan : MethodName := ⟨RX11, "noPlan", "(I)I"⟩
abbrev cX11_plan : ByteArray := prog_13_method_62_code
def yX11_plan : MethodName := ⟨RX11, "plan", "(I)I"⟩
abbrev cX11_begins : ByteArray := prog_13_method_63_code
def yX11_begins : MethodName := ⟨RX11, "begins", "(II)I"⟩
abbrev cX11_worthAll : ByteArray := prog_13_method_64_code
def yX11_worthAll : MethodName := ⟨RX11, "worthAll", "(I)I"⟩
abbrev cX11_drops : ByteArray := prog_13_method_65_code
def yX11_drops : MethodName := ⟨RX11, "drops", "(I)I"⟩
abbrev cX11_goesRow : ByteArray := prog_13_method_66_code
def yX11_goesRow : MethodName := ⟨RX11, "goesRow", "(IIII)V"⟩
abbrev cX11_row : ByteArray := prog_13_method_67_code
def yX11_row : MethodName := ⟨RX11, "row", "(I)I"⟩
abbrev cX11_divisor : ByteArray := prog_13_method_68_code
def yX11_divisor : MethodName := ⟨RX11, "divisor", "(JJ)J"⟩
abbrev cX11_isLive : ByteArray := prog_13_method_69_code
def yX11_isLive : MethodName := ⟨RX11, "isLive", "(I)Z"⟩
abbrev cX11_moreBy : ByteArray := prog_13_method_70_code
def yX11_moreBy : MethodName := ⟨RX11, "moreBy", "(I)V"⟩
abbrev cX11_odds : ByteArray := prog_13_method_71_code
def yX11_odds : MethodName := ⟨RX11, "odds", "(I)J"⟩
abbrev cX11_truthAll : ByteArray := prog_13_method_72_code
def yX11_truthAll : MethodName := ⟨RX11, "truthAll", "(I)I"⟩
abbrev cX11_sums : ByteArray := prog_13_method_73_code
def yX11_sums : MethodName := ⟨RX11, "sums", "(II)I"⟩
abbrev cX11_starts : ByteArray := prog_13_method_74_code
def yX11_starts : MethodName := ⟨RX11, "starts", "(I)V"⟩
abbrev cX11_above : ByteArray := prog_13_method_75_code
def yX11_above : MethodName := ⟨RX11, "above", "(I)I"⟩
abbrev cX11_kindNow : ByteArray := prog_13_method_76_code
def yX11_kindNow : MethodName := ⟨RX11, "kindNow", "()I"⟩
abbrev cX11_mNow : ByteArray := prog_13_method_77_code
def yX11_mNow : MethodName := ⟨RX11, "mNow", "()I"⟩
abbrev cX11_readsAs : ByteArray := prog_13_method_78_code
def yX11_readsAs : MethodName := ⟨RX11, "readsAs", "(II)I"⟩
abbrev cX11_adlibsAs : ByteArray := prog_13_method_79_code
def yX11_adlibsAs : MethodName := ⟨RX11, "adlibsAs", "(II)I"⟩
abbrev cX11_windsAs : ByteArray := prog_13_method_80_code
def yX11_windsAs : MethodName := ⟨RX11, "windsAs", "(II)I"⟩
abbrev cX11_partsAs : ByteArray := prog_13_method_81_code
def yX11_partsAs : MethodName := ⟨RX11, "partsAs", "(II)I"⟩
abbrev cX11_voice : ByteArray := prog_13_method_82_code
def yX11_voice : MethodName := ⟨RX11, "voice", "(III)I"⟩
abbrev cX11_body : ByteArray := prog_13_method_83_code
def yX11_body : MethodName := ⟨RX11, "body", "(I)I"⟩
abbrev cX11_isSheet : ByteArray := prog_13_method_84_code
def yX11_isSheet : MethodName := ⟨RX11, "isSheet", "(I)Z"⟩
abbrev cX11_sheet : ByteArray := prog_13_method_85_code
def yX11_sheet : MethodName := ⟨RX11, "sheet", "(III)I"⟩
abbrev cX11_put : ByteArray := prog_13_method_86_code
def yX11_put : MethodName := ⟨RX11, "put", "(III)I"⟩
abbrev cX11_move : ByteArray := prog_13_method_87_code
def yX11_move : MethodName := ⟨RX11, "move", "(IIIII)I"⟩
abbrev cX11_lacks : ByteArray := prog_13_method_88_code
def yX11_lacks : MethodName := ⟨RX11, "lacks", "(I)I"⟩
abbrev cX11_truths : ByteArray := prog_13_method_89_code
def yX11_truths : MethodName := ⟨RX11, "truths", "(I)I"⟩
abbrev cX11_judge : ByteArray := prog_13_method_90_code
def yX11_judge : MethodName := ⟨RX11, "judge", "(I)I"⟩
abbrev cX11_image : ByteArray := prog_13_method_91_code
def yX11_image : MethodName := ⟨RX11, "image", "()I"⟩
abbrev cX11_restore : ByteArray := prog_13_method_92_code
def yX11_restore : MethodName := ⟨RX11, "restore", "()I"⟩
abbrev cX11_tell : ByteArray := prog_13_method_93_code
def yX11_tell : MethodName := ⟨RX11, "tell", "(I)I"⟩
abbrev cX11_check : ByteArray := prog_13_method_94_code
def yX11_check : MethodName := ⟨RX11, "check", "()I"⟩
abbrev cX11_count : ByteArray := prog_13_method_95_code
def yX11_count : MethodName := ⟨RX11, "count", "(I)I"⟩
abbrev cX11_told : ByteArray := prog_13_method_96_code
def yX11_told : MethodName := ⟨RX11, "told", "(I)I"⟩
def RJ6 : String := "java/lang/Integer"
abbrev cJ6_bitCount_0f7a4 : ByteArray := prog_14_method_49_code
def yJ6_bitCount_0f7a4 : MethodName := ⟨RJ6, "bitCount", "(I)I"⟩
def RJ9 : String := "java/lang/Math"
abbrev cJ9_max_7cf53 : ByteArray := prog_15_method_65_code
def yJ9_max_7cf53 : MethodName := ⟨RJ9, "max", "(II)I"⟩
abbrev cJ9_min_7cf53 : ByteArray := prog_15_method_69_code
def yJ9_min_7cf53 : MethodName := ⟨RJ9, "min", "(II)I"⟩
abbrev mx_cl : List vw_C := [(RX0, TX0, 6), (RX1, TX1, 2), (RX2, TX2, 3), (RX3, TX3, 5), (RX4, TX4, 5), (RX5, TX5, 6), (RX6, TX6, 2), (RX7, TX7, 9), (RX8, TX8, 3), (RX9, TX9, 5), (RX10, TX10, 10), (RX11, TX11, 25)]
