section
-- ===== PART A: goes FIRST, ahead of the names: the tables' words, and 'selects' of the private methods out of them =====
/-- a private method of a class that the tables say can be made, by its rows of tables_1 -/
def lw_okq (q : MethodName × Nat) : Prop := (q.1.cls ≠ "java/lang/invoke/MethodHandle" ∧ q.1.cls ≠ "java/lang/invoke/VarHandle") ∧ Cond.instantiable q.1.cls q.2 ∈ tables_1 ∧ Cond.privateMethod q.1 ∈ tables_1 ∧ Cond.instanceMethod q.1 ∈ tables_1
theorem lw_p0 : lw_okq (⟨"Monobuild$Text", "hasEmptySegment", "()Z"⟩, 2) := ⟨⟨by decide +kernel, by decide +kernel⟩, List.mem_of_getElem? (i := 29) (by decide +kernel), List.mem_of_getElem? (i := 219) (by decide +kernel), List.mem_of_getElem? (i := 220) (by decide +kernel)⟩
theorem lw_p1 : lw_okq (⟨"Monobuild$Text", "signAt", "(I)C"⟩, 2) := ⟨⟨by decide +kernel, by decide +kernel⟩, List.mem_of_getElem? (i := 29) (by decide +kernel), List.mem_of_getElem? (i := 223) (by decide +kernel), List.mem_of_getElem? (i := 224) (by decide +kernel)⟩
theorem lw_p2 : lw_okq (⟨"Monobuild$Text", "isDoubleStar", "(I)Z"⟩, 2) := ⟨⟨by decide +kernel, by decide +kernel⟩, List.mem_of_getElem? (i := 29) (by decide +kernel), List.mem_of_getElem? (i := 235) (by decide +kernel), List.mem_of_getElem? (i := 236) (by decide +kernel)⟩
theorem lw_p3 : lw_okq (⟨"Monobuild$Graph", "nextBehind", "(I)I"⟩, 5) := ⟨⟨by decide +kernel, by decide +kernel⟩, List.mem_of_getElem? (i := 72) (by decide +kernel), List.mem_of_getElem? (i := 279) (by decide +kernel), List.mem_of_getElem? (i := 280) (by decide +kernel)⟩
theorem lw_p4 : lw_okq (⟨"Monobuild$Graph", "isNext", "(II)Z"⟩, 5) := ⟨⟨by decide +kernel, by decide +kernel⟩, List.mem_of_getElem? (i := 72) (by decide +kernel), List.mem_of_getElem? (i := 283) (by decide +kernel), List.mem_of_getElem? (i := 284) (by decide +kernel)⟩
theorem lw_p5 : lw_okq (⟨"Monobuild$KeyBook", "lookUp", "(I)V"⟩, 8) := ⟨⟨by decide +kernel, by decide +kernel⟩, List.mem_of_getElem? (i := 119) (by decide +kernel), List.mem_of_getElem? (i := 295) (by decide +kernel), List.mem_of_getElem? (i := 296) (by decide +kernel)⟩
theorem lw_p6 : lw_okq (⟨"Monobuild$KeyBook", "fillRow", "(I)V"⟩, 8) := ⟨⟨by decide +kernel, by decide +kernel⟩, List.mem_of_getElem? (i := 119) (by decide +kernel), List.mem_of_getElem? (i := 299) (by decide +kernel), List.mem_of_getElem? (i := 300) (by decide +kernel)⟩
theorem lw_p7 : lw_okq (⟨"Monobuild$KeyBook", "dependenciesHaveKeys", "(I)Z"⟩, 8) := ⟨⟨by decide +kernel, by decide +kernel⟩, List.mem_of_getElem? (i := 119) (by decide +kernel), List.mem_of_getElem? (i := 321) (by decide +kernel), List.mem_of_getElem? (i := 322) (by decide +kernel)⟩
theorem lw_p8 : lw_okq (⟨"Monobuild$KeyBook", "keyOfRow", "(I)I"⟩, 8) := ⟨⟨by decide +kernel, by decide +kernel⟩, List.mem_of_getElem? (i := 119) (by decide +kernel), List.mem_of_getElem? (i := 329) (by decide +kernel), List.mem_of_getElem? (i := 330) (by decide +kernel)⟩
theorem lw_p9 : lw_okq (⟨"Monobuild$KeyBook", "agrees", "(II)Z"⟩, 8) := ⟨⟨by decide +kernel, by decide +kernel⟩, List.mem_of_getElem? (i := 119) (by decide +kernel), List.mem_of_getElem? (i := 333) (by decide +kernel), List.mem_of_getElem? (i := 334) (by decide +kernel)⟩
theorem lw_p10 : lw_okq (⟨"java/lang/Throwable", "fillInStackTrace", "(I)Ljava/lang/Throwable;"⟩, 6) := ⟨⟨by decide +kernel, by decide +kernel⟩, List.mem_of_getElem? (i := 440) (by decide +kernel), List.mem_of_getElem? (i := 438) (by decide +kernel), List.mem_of_getElem? (i := 439) (by decide +kernel)⟩
theorem lw_p11 : lw_okq (⟨"Monobuild", "requireContent", "(I)V"⟩, 6) := ⟨⟨by decide +kernel, by decide +kernel⟩, List.mem_of_getElem? (i := 21) (by decide +kernel), List.mem_of_getElem? (i := 501) (by decide +kernel), List.mem_of_getElem? (i := 502) (by decide +kernel)⟩
theorem lw_p12 : lw_okq (⟨"Monobuild", "numberNewPath", "()I"⟩, 6) := ⟨⟨by decide +kernel, by decide +kernel⟩, List.mem_of_getElem? (i := 21) (by decide +kernel), List.mem_of_getElem? (i := 521) (by decide +kernel), List.mem_of_getElem? (i := 522) (by decide +kernel)⟩
theorem lw_p13 : lw_okq (⟨"Monobuild$Text", "startsFrom", "(I)I"⟩, 2) := ⟨⟨by decide +kernel, by decide +kernel⟩, List.mem_of_getElem? (i := 29) (by decide +kernel), List.mem_of_getElem? (i := 545) (by decide +kernel), List.mem_of_getElem? (i := 546) (by decide +kernel)⟩
theorem lw_p14 : lw_okq (⟨"Monobuild$Text", "overLetters", "(I)I"⟩, 2) := ⟨⟨by decide +kernel, by decide +kernel⟩, List.mem_of_getElem? (i := 29) (by decide +kernel), List.mem_of_getElem? (i := 550) (by decide +kernel), List.mem_of_getElem? (i := 551) (by decide +kernel)⟩
theorem lw_p15 : lw_okq (⟨"Monobuild$Text", "overSign", "(IC)I"⟩, 2) := ⟨⟨by decide +kernel, by decide +kernel⟩, List.mem_of_getElem? (i := 29) (by decide +kernel), List.mem_of_getElem? (i := 554) (by decide +kernel), List.mem_of_getElem? (i := 555) (by decide +kernel)⟩
def lw_privs_1 : List (MethodName × Nat) := [(⟨"Monobuild$Text", "hasEmptySegment", "()Z"⟩, 2), (⟨"Monobuild$Text", "signAt", "(I)C"⟩, 2), (⟨"Monobuild$Text", "isDoubleStar", "(I)Z"⟩, 2), (⟨"Monobuild$Graph", "nextBehind", "(I)I"⟩, 5), (⟨"Monobuild$Graph", "isNext", "(II)Z"⟩, 5), (⟨"Monobuild$KeyBook", "lookUp", "(I)V"⟩, 8), (⟨"Monobuild$KeyBook", "fillRow", "(I)V"⟩, 8), (⟨"Monobuild$KeyBook", "dependenciesHaveKeys", "(I)Z"⟩, 8), (⟨"Monobuild$KeyBook", "keyOfRow", "(I)I"⟩, 8), (⟨"Monobuild$KeyBook", "agrees", "(II)Z"⟩, 8), (⟨"java/lang/Throwable", "fillInStackTrace", "(I)Ljava/lang/Throwable;"⟩, 6), (⟨"Monobuild", "requireContent", "(I)V"⟩, 6), (⟨"Monobuild", "numberNewPath", "()I"⟩, 6), (⟨"Monobuild$Text", "startsFrom", "(I)I"⟩, 2), (⟨"Monobuild$Text", "overLetters", "(I)I"⟩, 2), (⟨"Monobuild$Text", "overSign", "(IC)I"⟩, 2)]
theorem lw_r1 : ∀ q ∈ lw_privs_1, lw_okq q := List.forall_mem_cons.mpr ⟨lw_p0, List.forall_mem_cons.mpr ⟨lw_p1, List.forall_mem_cons.mpr ⟨lw_p2, List.forall_mem_cons.mpr ⟨lw_p3, List.forall_mem_cons.mpr ⟨lw_p4, List.forall_mem_cons.mpr ⟨lw_p5, List.forall_mem_cons.mpr ⟨lw_p6, List.forall_mem_cons.mpr ⟨lw_p7, List.forall_mem_cons.mpr ⟨lw_p8, List.forall_mem_cons.mpr ⟨lw_p9, List.forall_mem_cons.mpr ⟨lw_p10, List.forall_mem_cons.mpr ⟨lw_p11, List.forall_mem_cons.mpr ⟨lw_p12, List.forall_mem_cons.mpr ⟨lw_p13, List.forall_mem_cons.mpr ⟨lw_p14, List.forall_mem_cons.mpr ⟨lw_p15, fun _ h => absurd h List.not_mem_nil⟩⟩⟩⟩⟩⟩⟩⟩⟩⟩⟩⟩⟩⟩⟩⟩
theorem lw_p16 : lw_okq (⟨"Monobuild", "requireFileThere", "(I)V"⟩, 6) := ⟨⟨by decide +kernel, by decide +kernel⟩, List.mem_of_getElem? (i := 21) (by decide +kernel), List.mem_of_getElem? (i := 575) (by decide +kernel), List.mem_of_getElem? (i := 576) (by decide +kernel)⟩
theorem lw_p17 : lw_okq (⟨"Monobuild", "requireFile", "(I)V"⟩, 6) := ⟨⟨by decide +kernel, by decide +kernel⟩, List.mem_of_getElem? (i := 21) (by decide +kernel), List.mem_of_getElem? (i := 614) (by decide +kernel), List.mem_of_getElem? (i := 615) (by decide +kernel)⟩
theorem lw_p18 : lw_okq (⟨"Monobuild", "requireTarget", "(I)V"⟩, 6) := ⟨⟨by decide +kernel, by decide +kernel⟩, List.mem_of_getElem? (i := 21) (by decide +kernel), List.mem_of_getElem? (i := 650) (by decide +kernel), List.mem_of_getElem? (i := 651) (by decide +kernel)⟩
theorem lw_p19 : lw_okq (⟨"Monobuild", "requireGlob", "()V"⟩, 6) := ⟨⟨by decide +kernel, by decide +kernel⟩, List.mem_of_getElem? (i := 21) (by decide +kernel), List.mem_of_getElem? (i := 659) (by decide +kernel), List.mem_of_getElem? (i := 660) (by decide +kernel)⟩
theorem lw_p20 : lw_okq (⟨"Monobuild$Graph", "downFrom", "(I)I"⟩, 5) := ⟨⟨by decide +kernel, by decide +kernel⟩, List.mem_of_getElem? (i := 72) (by decide +kernel), List.mem_of_getElem? (i := 746) (by decide +kernel), List.mem_of_getElem? (i := 747) (by decide +kernel)⟩
theorem lw_p21 : lw_okq (⟨"Monobuild$KeyBook", "give", "(I)I"⟩, 8) := ⟨⟨by decide +kernel, by decide +kernel⟩, List.mem_of_getElem? (i := 119) (by decide +kernel), List.mem_of_getElem? (i := 789) (by decide +kernel), List.mem_of_getElem? (i := 790) (by decide +kernel)⟩
theorem lw_p22 : lw_okq (⟨"Monobuild", "requireShards", "(I)V"⟩, 6) := ⟨⟨by decide +kernel, by decide +kernel⟩, List.mem_of_getElem? (i := 21) (by decide +kernel), List.mem_of_getElem? (i := 814) (by decide +kernel), List.mem_of_getElem? (i := 815) (by decide +kernel)⟩
theorem lw_p23 : lw_okq (⟨"Monobuild$Spread", "dearest", "(LMonobuild$Graph;I)I"⟩, 2) := ⟨⟨by decide +kernel, by decide +kernel⟩, List.mem_of_getElem? (i := 152) (by decide +kernel), List.mem_of_getElem? (i := 827) (by decide +kernel), List.mem_of_getElem? (i := 828) (by decide +kernel)⟩
theorem lw_p24 : lw_okq (⟨"Monobuild$Spread", "lightest", "(I)I"⟩, 2) := ⟨⟨by decide +kernel, by decide +kernel⟩, List.mem_of_getElem? (i := 152) (by decide +kernel), List.mem_of_getElem? (i := 837) (by decide +kernel), List.mem_of_getElem? (i := 838) (by decide +kernel)⟩
theorem lw_p25 : lw_okq (⟨"MonobuildModel", "isPathNow", "()Z"⟩, 27) := ⟨⟨by decide +kernel, by decide +kernel⟩, List.mem_of_getElem? (i := 900) (by decide +kernel), List.mem_of_getElem? (i := 1005) (by decide +kernel), List.mem_of_getElem? (i := 1006) (by decide +kernel)⟩
theorem lw_p26 : lw_okq (⟨"MonobuildModel", "hasEmpty", "()Z"⟩, 27) := ⟨⟨by decide +kernel, by decide +kernel⟩, List.mem_of_getElem? (i := 900) (by decide +kernel), List.mem_of_getElem? (i := 1009) (by decide +kernel), List.mem_of_getElem? (i := 1010) (by decide +kernel)⟩
theorem lw_p27 : lw_okq (⟨"MonobuildModel", "at", "(II)I"⟩, 27) := ⟨⟨by decide +kernel, by decide +kernel⟩, List.mem_of_getElem? (i := 900) (by decide +kernel), List.mem_of_getElem? (i := 1013) (by decide +kernel), List.mem_of_getElem? (i := 1014) (by decide +kernel)⟩
theorem lw_p28 : lw_okq (⟨"MonobuildModel", "isGlobNow", "()Z"⟩, 27) := ⟨⟨by decide +kernel, by decide +kernel⟩, List.mem_of_getElem? (i := 900) (by decide +kernel), List.mem_of_getElem? (i := 1021) (by decide +kernel), List.mem_of_getElem? (i := 1022) (by decide +kernel)⟩
theorem lw_p29 : lw_okq (⟨"MonobuildModel", "fileOf", "()I"⟩, 27) := ⟨⟨by decide +kernel, by decide +kernel⟩, List.mem_of_getElem? (i := 900) (by decide +kernel), List.mem_of_getElem? (i := 1032) (by decide +kernel), List.mem_of_getElem? (i := 1033) (by decide +kernel)⟩
theorem lw_p30 : lw_okq (⟨"MonobuildModel", "isThere", "(I)Z"⟩, 27) := ⟨⟨by decide +kernel, by decide +kernel⟩, List.mem_of_getElem? (i := 900) (by decide +kernel), List.mem_of_getElem? (i := 1044) (by decide +kernel), List.mem_of_getElem? (i := 1045) (by decide +kernel)⟩
theorem lw_p31 : lw_okq (⟨"MonobuildModel", "isMatched", "(II)Z"⟩, 27) := ⟨⟨by decide +kernel, by decide +kernel⟩, List.mem_of_getElem? (i := 900) (by decide +kernel), List.mem_of_getElem? (i := 1060) (by decide +kernel), List.mem_of_getElem? (i := 1061) (by decide +kernel)⟩
def lw_privs_2 : List (MethodName × Nat) := [(⟨"Monobuild", "requireFileThere", "(I)V"⟩, 6), (⟨"Monobuild", "requireFile", "(I)V"⟩, 6), (⟨"Monobuild", "requireTarget", "(I)V"⟩, 6), (⟨"Monobuild", "requireGlob", "()V"⟩, 6), (⟨"Monobuild$Graph", "downFrom", "(I)I"⟩, 5), (⟨"Monobuild$KeyBook", "give", "(I)I"⟩, 8), (⟨"Monobuild", "requireShards", "(I)V"⟩, 6), (⟨"Monobuild$Spread", "dearest", "(LMonobuild$Graph;I)I"⟩, 2), (⟨"Monobuild$Spread", "lightest", "(I)I"⟩, 2), (⟨"MonobuildModel", "isPathNow", "()Z"⟩, 27), (⟨"MonobuildModel", "hasEmpty", "()Z"⟩, 27), (⟨"MonobuildModel", "at", "(II)I"⟩, 27), (⟨"MonobuildModel", "isGlobNow", "()Z"⟩, 27), (⟨"MonobuildModel", "fileOf", "()I"⟩, 27), (⟨"MonobuildModel", "isThere", "(I)Z"⟩, 27), (⟨"MonobuildModel", "isMatched", "(II)Z"⟩, 27)]
theorem lw_r2 : ∀ q ∈ lw_privs_2, lw_okq q := List.forall_mem_cons.mpr ⟨lw_p16, List.forall_mem_cons.mpr ⟨lw_p17, List.forall_mem_cons.mpr ⟨lw_p18, List.forall_mem_cons.mpr ⟨lw_p19, List.forall_mem_cons.mpr ⟨lw_p20, List.forall_mem_cons.mpr ⟨lw_p21, List.forall_mem_cons.mpr ⟨lw_p22, List.forall_mem_cons.mpr ⟨lw_p23, List.forall_mem_cons.mpr ⟨lw_p24, List.forall_mem_cons.mpr ⟨lw_p25, List.forall_mem_cons.mpr ⟨lw_p26, List.forall_mem_cons.mpr ⟨lw_p27, List.forall_mem_cons.mpr ⟨lw_p28, List.forall_mem_cons.mpr ⟨lw_p29, List.forall_mem_cons.mpr ⟨lw_p30, List.forall_mem_cons.mpr ⟨lw_p31, fun _ h => absurd h List.not_mem_nil⟩⟩⟩⟩⟩⟩⟩⟩⟩⟩⟩⟩⟩⟩⟩⟩
theorem lw_p32 : lw_okq (⟨"MonobuildModel", "endOf", "(II)I"⟩, 27) := ⟨⟨by decide +kernel, by decide +kernel⟩, List.mem_of_getElem? (i := 900) (by decide +kernel), List.mem_of_getElem? (i := 1064) (by decide +kernel), List.mem_of_getElem? (i := 1065) (by decide +kernel)⟩
theorem lw_p33 : lw_okq (⟨"MonobuildModel", "pathAt", "(II)I"⟩, 27) := ⟨⟨by decide +kernel, by decide +kernel⟩, List.mem_of_getElem? (i := 900) (by decide +kernel), List.mem_of_getElem? (i := 1068) (by decide +kernel), List.mem_of_getElem? (i := 1069) (by decide +kernel)⟩
theorem lw_p34 : lw_okq (⟨"MonobuildModel", "isLaid", "(IIIIII)Z"⟩, 27) := ⟨⟨by decide +kernel, by decide +kernel⟩, List.mem_of_getElem? (i := 900) (by decide +kernel), List.mem_of_getElem? (i := 1072) (by decide +kernel), List.mem_of_getElem? (i := 1073) (by decide +kernel)⟩
theorem lw_p35 : lw_okq (⟨"MonobuildModel", "begins", "(II)I"⟩, 27) := ⟨⟨by decide +kernel, by decide +kernel⟩, List.mem_of_getElem? (i := 900) (by decide +kernel), List.mem_of_getElem? (i := 1076) (by decide +kernel), List.mem_of_getElem? (i := 1077) (by decide +kernel)⟩
theorem lw_p36 : lw_okq (⟨"MonobuildModel", "isTarget", "(I)Z"⟩, 27) := ⟨⟨by decide +kernel, by decide +kernel⟩, List.mem_of_getElem? (i := 900) (by decide +kernel), List.mem_of_getElem? (i := 1088) (by decide +kernel), List.mem_of_getElem? (i := 1089) (by decide +kernel)⟩
theorem lw_p37 : lw_okq (⟨"MonobuildModel", "copies", "(I)V"⟩, 27) := ⟨⟨by decide +kernel, by decide +kernel⟩, List.mem_of_getElem? (i := 900) (by decide +kernel), List.mem_of_getElem? (i := 1092) (by decide +kernel), List.mem_of_getElem? (i := 1093) (by decide +kernel)⟩
theorem lw_p38 : lw_okq (⟨"MonobuildModel", "inputsOf", "(I)I"⟩, 27) := ⟨⟨by decide +kernel, by decide +kernel⟩, List.mem_of_getElem? (i := 900) (by decide +kernel), List.mem_of_getElem? (i := 1096) (by decide +kernel), List.mem_of_getElem? (i := 1097) (by decide +kernel)⟩
theorem lw_p39 : lw_okq (⟨"MonobuildModel", "takes", "(II)Z"⟩, 27) := ⟨⟨by decide +kernel, by decide +kernel⟩, List.mem_of_getElem? (i := 900) (by decide +kernel), List.mem_of_getElem? (i := 1100) (by decide +kernel), List.mem_of_getElem? (i := 1101) (by decide +kernel)⟩
theorem lw_p40 : lw_okq (⟨"MonobuildModel", "aboveOf", "(I)I"⟩, 27) := ⟨⟨by decide +kernel, by decide +kernel⟩, List.mem_of_getElem? (i := 900) (by decide +kernel), List.mem_of_getElem? (i := 1111) (by decide +kernel), List.mem_of_getElem? (i := 1112) (by decide +kernel)⟩
theorem lw_p41 : lw_okq (⟨"MonobuildModel", "upwards", "(I)I"⟩, 27) := ⟨⟨by decide +kernel, by decide +kernel⟩, List.mem_of_getElem? (i := 900) (by decide +kernel), List.mem_of_getElem? (i := 1115) (by decide +kernel), List.mem_of_getElem? (i := 1116) (by decide +kernel)⟩
theorem lw_p42 : lw_okq (⟨"MonobuildModel", "orders", "()V"⟩, 27) := ⟨⟨by decide +kernel, by decide +kernel⟩, List.mem_of_getElem? (i := 900) (by decide +kernel), List.mem_of_getElem? (i := 1135) (by decide +kernel), List.mem_of_getElem? (i := 1136) (by decide +kernel)⟩
theorem lw_p43 : lw_okq (⟨"MonobuildModel", "affected", "(I)I"⟩, 27) := ⟨⟨by decide +kernel, by decide +kernel⟩, List.mem_of_getElem? (i := 900) (by decide +kernel), List.mem_of_getElem? (i := 1143) (by decide +kernel), List.mem_of_getElem? (i := 1144) (by decide +kernel)⟩
theorem lw_p44 : lw_okq (⟨"MonobuildModel", "laysKeys", "()V"⟩, 27) := ⟨⟨by decide +kernel, by decide +kernel⟩, List.mem_of_getElem? (i := 900) (by decide +kernel), List.mem_of_getElem? (i := 1155) (by decide +kernel), List.mem_of_getElem? (i := 1156) (by decide +kernel)⟩
theorem lw_p45 : lw_okq (⟨"MonobuildModel", "given", "(I)I"⟩, 27) := ⟨⟨by decide +kernel, by decide +kernel⟩, List.mem_of_getElem? (i := 900) (by decide +kernel), List.mem_of_getElem? (i := 1159) (by decide +kernel), List.mem_of_getElem? (i := 1160) (by decide +kernel)⟩
theorem lw_p46 : lw_okq (⟨"MonobuildModel", "hasInputs", "(II)Z"⟩, 27) := ⟨⟨by decide +kernel, by decide +kernel⟩, List.mem_of_getElem? (i := 900) (by decide +kernel), List.mem_of_getElem? (i := 1163) (by decide +kernel), List.mem_of_getElem? (i := 1164) (by decide +kernel)⟩
theorem lw_p47 : lw_okq (⟨"MonobuildModel", "neededNow", "()I"⟩, 27) := ⟨⟨by decide +kernel, by decide +kernel⟩, List.mem_of_getElem? (i := 900) (by decide +kernel), List.mem_of_getElem? (i := 1171) (by decide +kernel), List.mem_of_getElem? (i := 1172) (by decide +kernel)⟩
def lw_privs_3 : List (MethodName × Nat) := [(⟨"MonobuildModel", "endOf", "(II)I"⟩, 27), (⟨"MonobuildModel", "pathAt", "(II)I"⟩, 27), (⟨"MonobuildModel", "isLaid", "(IIIIII)Z"⟩, 27), (⟨"MonobuildModel", "begins", "(II)I"⟩, 27), (⟨"MonobuildModel", "isTarget", "(I)Z"⟩, 27), (⟨"MonobuildModel", "copies", "(I)V"⟩, 27), (⟨"MonobuildModel", "inputsOf", "(I)I"⟩, 27), (⟨"MonobuildModel", "takes", "(II)Z"⟩, 27), (⟨"MonobuildModel", "aboveOf", "(I)I"⟩, 27), (⟨"MonobuildModel", "upwards", "(I)I"⟩, 27), (⟨"MonobuildModel", "orders", "()V"⟩, 27), (⟨"MonobuildModel", "affected", "(I)I"⟩, 27), (⟨"MonobuildModel", "laysKeys", "()V"⟩, 27), (⟨"MonobuildModel", "given", "(I)I"⟩, 27), (⟨"MonobuildModel", "hasInputs", "(II)Z"⟩, 27), (⟨"MonobuildModel", "neededNow", "()I"⟩, 27)]
theorem lw_r3 : ∀ q ∈ lw_privs_3, lw_okq q := List.forall_mem_cons.mpr ⟨lw_p32, List.forall_mem_cons.mpr ⟨lw_p33, List.forall_mem_cons.mpr ⟨lw_p34, List.forall_mem_cons.mpr ⟨lw_p35, List.forall_mem_cons.mpr ⟨lw_p36, List.forall_mem_cons.mpr ⟨lw_p37, List.forall_mem_cons.mpr ⟨lw_p38, List.forall_mem_cons.mpr ⟨lw_p39, List.forall_mem_cons.mpr ⟨lw_p40, List.forall_mem_cons.mpr ⟨lw_p41, List.forall_mem_cons.mpr ⟨lw_p42, List.forall_mem_cons.mpr ⟨lw_p43, List.forall_mem_cons.mpr ⟨lw_p44, List.forall_mem_cons.mpr ⟨lw_p45, List.forall_mem_cons.mpr ⟨lw_p46, List.forall_mem_cons.mpr ⟨lw_p47, fun _ h => absurd h List.not_mem_nil⟩⟩⟩⟩⟩⟩⟩⟩⟩⟩⟩⟩⟩⟩⟩⟩
theorem lw_p48 : lw_okq (⟨"MonobuildModel", "runs", "(I)V"⟩, 27) := ⟨⟨by decide +kernel, by decide +kernel⟩, List.mem_of_getElem? (i := 900) (by decide +kernel), List.mem_of_getElem? (i := 1183) (by decide +kernel), List.mem_of_getElem? (i := 1184) (by decide +kernel)⟩
theorem lw_p49 : lw_okq (⟨"MonobuildModel", "spreads", "(I)I"⟩, 27) := ⟨⟨by decide +kernel, by decide +kernel⟩, List.mem_of_getElem? (i := 900) (by decide +kernel), List.mem_of_getElem? (i := 1199) (by decide +kernel), List.mem_of_getElem? (i := 1200) (by decide +kernel)⟩
theorem lw_p50 : lw_okq (⟨"MonobuildModel", "ownerNow", "(I)I"⟩, 27) := ⟨⟨by decide +kernel, by decide +kernel⟩, List.mem_of_getElem? (i := 900) (by decide +kernel), List.mem_of_getElem? (i := 1219) (by decide +kernel), List.mem_of_getElem? (i := 1220) (by decide +kernel)⟩
theorem lw_p51 : lw_okq (⟨"MonobuildModel", "isChanged", "(I)Z"⟩, 27) := ⟨⟨by decide +kernel, by decide +kernel⟩, List.mem_of_getElem? (i := 900) (by decide +kernel), List.mem_of_getElem? (i := 1231) (by decide +kernel), List.mem_of_getElem? (i := 1232) (by decide +kernel)⟩
def lw_privs_4 : List (MethodName × Nat) := [(⟨"MonobuildModel", "runs", "(I)V"⟩, 27), (⟨"MonobuildModel", "spreads", "(I)I"⟩, 27), (⟨"MonobuildModel", "ownerNow", "(I)I"⟩, 27), (⟨"MonobuildModel", "isChanged", "(I)Z"⟩, 27)]
theorem lw_r4 : ∀ q ∈ lw_privs_4, lw_okq q := List.forall_mem_cons.mpr ⟨lw_p48, List.forall_mem_cons.mpr ⟨lw_p49, List.forall_mem_cons.mpr ⟨lw_p50, List.forall_mem_cons.mpr ⟨lw_p51, fun _ h => absurd h List.not_mem_nil⟩⟩⟩⟩
def lw_privs : List (MethodName × Nat) := lw_privs_1 ++ (lw_privs_2 ++ (lw_privs_3 ++ (lw_privs_4)))
def lw_tbl : List Cond := k2_sels lw_privs ++ tables_1
theorem lw_privs_ok : ∀ q ∈ lw_privs, lw_okq q := by
  show ∀ q ∈ lw_privs_1 ++ (lw_privs_2 ++ (lw_privs_3 ++ (lw_privs_4))), lw_okq q
  exact List.forall_mem_append.mpr ⟨lw_r1, List.forall_mem_append.mpr ⟨lw_r2, List.forall_mem_append.mpr ⟨lw_r3, lw_r4⟩⟩⟩
-- ===== end of PART A; then your names; then what follows =====
-- the words that the printed rows of 'new T[n][m]' speak of
def va_AOA (t : FieldType) (U : State) : Prop := (Cond.arrayOver (.array t)).before #[] U = true
theorem va_AOA.of {t : FieldType} {A : Array Value} {U : State} (h : (Cond.arrayOver (.array t)).before A U = true) : va_AOA t U := h
theorem va_AOA.use {t : FieldType} {A : Array Value} {U : State} (h : va_AOA t U) : (Cond.arrayOver (.array t)).before A U = true := h
end
section
/-! ===== BEGIN words of one list among another's, by their places ===== -/
theorem goodIn_r {big : List Cond} (ws : List Cond) (ps : List Nat) (hp : ws = ps.filterMap (fun i => big[i]?)) (h : ws.all goodWord = true) : GoodIn big ws := by
  intro w hw
  have h1 := List.all_eq_true.mp h w hw
  rw [hp] at hw
  obtain ⟨i, -, hi⟩ := List.mem_filterMap.mp hw
  have hm : w ∈ big := by first | exact List.mem_of_getElem? hi | exact List.getElem?_mem hi
  exact ⟨hm, good_of_word h1⟩
theorem goodIn_app {big a b : List Cond} (ha : GoodIn big a) (hb : GoodIn big b) : GoodIn big (a ++ b) := fun w h => (List.mem_append.mp h).elim (ha w) (hb w)
theorem goodIn_ca {big a b : List Cond} {c : Cond} (ha : GoodIn big (c :: a)) (hb : GoodIn big b) : GoodIn big (c :: (a ++ b)) := fun w h => (List.mem_cons.mp h).elim (fun e => ha w (List.mem_cons.mpr (Or.inl e))) (fun h => (List.mem_append.mp h).elim (fun h => ha w (List.mem_cons.mpr (Or.inr h))) (hb w))
theorem goodIn_sub {big ws : List Cond} (hm : ∀ w ∈ ws, w ∈ big) (h : ws.all goodWord = true) : GoodIn big ws := fun w hw => ⟨hm w hw, good_of_word (List.all_eq_true.mp h w hw)⟩
/-! ===== END ===== -/

/-! ===== BEGIN new T[n][m]: the outer array a place, the inner ones among the pooled ===== -/
/-- f, but v at every address of l -/
def vr_up {α : Type} (f : Nat → α) (l : List Nat) (v : α) : Nat → α := fun a => if a ∈ l then v else f a
theorem vr_up_in {α : Type} {f : Nat → α} {l : List Nat} {v : α} {a : Nat} (h : a ∈ l) : vr_up f l v a = v := if_pos h
theorem vr_up_ne {α : Type} {f : Nat → α} {l : List Nat} {v : α} {a : Nat} (h : a ∉ l) : vr_up f l v a = f a := if_neg h
theorem vr_rows {L l : List Nat} {f : Nat → va_E} {e : va_E} (h : ∀ a, a ∈ l → a ∉ L) : va_pl L f ++ l.map (fun a => (a, e)) = va_pl (L ++ l) (vr_up f l e) := by
  unfold va_pl
  rw [List.map_append]
  congr 1
  · apply List.map_congr_left
    intro a ha
    rw [vr_up_ne (fun q => h a q ha)]
  · apply List.map_congr_left
    intro a ha
    rw [vr_up_in ha]
theorem vr_lay {X rows : va_W} {x : Nat × va_E} {pl : va_W} {D : va_G} {cl : List vw_C} {H : Heap} (hP : va_P D cl (((X ++ pl) ++ [x]) ++ rows) H) : va_P D cl ((X ++ [x]) ++ (pl ++ rows)) H := by
  rw [List.append_assoc (X ++ pl)] at hP
  have h := va_P.swap hP
  rw [← List.append_assoc X] at h
  have h2 := va_P.swap h
  rw [List.append_assoc (X ++ [x])] at h2
  exact h2
theorem vr_layD {X rows : va_W} {x : Nat × va_E} {pl : va_W} {A : Nat → Prop} (hD : va_D A (((X ++ pl) ++ [x]) ++ rows)) : va_D A ((X ++ [x]) ++ (pl ++ rows)) := by
  rw [List.append_assoc (X ++ pl)] at hD
  have h := va_D.swap hD
  rw [← List.append_assoc X] at h
  have h2 := va_D.swap h
  rw [List.append_assoc (X ++ [x])] at h2
  exact h2
theorem vr_outer (c : ClassId) (N h0 : Nat) : ∀ i : Nat, Jvm.Free.Multi.outerC c N h0 i = arrV c N (fun j => va_rf (if j < i then some (h0 + 1 + j) else none))
  | 0 => by
    show ({ cls := c, slots := Array.replicate N .null, vm := .none } : Cell) = _
    rw [arrV_new]
    refine congrArg (arrV c N) (funext fun j => ?_)
    simp [va_rf]
  | i + 1 => by
    show (Jvm.Free.Multi.outerC c N h0 i).setSlot i (.ref (h0 + 1 + i)) = _
    rw [vr_outer c N h0 i, arrV_store]
    refine congrArg (arrV c N) (funext fun j => ?_)
    by_cases e : j = i
    · subst e
      simp [updV, va_rf]
    · by_cases h : j < i
      · simp [updV, e, h, Nat.lt_succ_of_lt h]
      · simp [updV, e, h, show ¬ j < i + 1 by omega]
section VGM
variable {p : Program} {l : Launch} {e : Env} {R : Room} {s : State} {m : MethodId} {args : Array Value} {below : List Frame} {meth : Method} {c : Code} {H : Heap} {locs : List Loc} {cells slots : Nat} {Q : State → Prop}
variable {cc : ByteArray} {pc : Nat} {ls : Array Slot} {rest : List Value} {D : va_G} {cl : List vw_C} {A : Nat → Prop} {a : Nat} {tys : List (ClassId × FieldType)} {ws : va_W} {H0 : Heap}
theorem va_mna {X : va_W} {L : List Nat} {f : Nat → va_E} {cc : ByteArray} (hexec : p.tables.exec = Jvm.exec) (hb : c.code = cc) {own : String} {index : Nat} {ty : FieldType} {cy : ClassId} (hown : s.vm.findClass own = some m.cls) (hclink : (Cond.classLink own index ("[" ++ (FieldType.array ty).toString)).before args s = true) (hover : va_AOA ty s) (harr : (Cond.arrayClass ty).before args s = true) (hcy : s.vm.findClass (FieldType.array ty).toString = some cy)
    (hK : va_K D cl tys s) (hP : va_P D cl (X ++ va_pl L f) H) (hD : va_D A (X ++ va_pl L f)) (hS : va_S A H0 H locs) (hA : ∀ q, H0.size ≤ q → A q) {n k : Int32} {N' K' : Nat} {z : vp_A} (hn : ¬ n < 0) (hk : ¬ k < 0) (hN : n.toNatClampNeg = N') (hM : k.toNatClampNeg = K')
    (hb1 : N' * 4 ≤ 536870912) (hb2 : K' * componentBytes ty ≤ 536870912) (hb3 : K' ≤ 536870912) (hdf : fits ty (defaultValue ty) = true) (hdd : (defaultValue ty).isDefault = true) (hcells : cells + (1 + N') ≤ R.cells) (hslots : slots + (N' + N' * K') ≤ R.slots) (hz : ∀ c : ClassId, Jvm.Free.Multi.innerC c K' (defaultValue ty) = vp_cell c z) (hdg : decode cc pc = .ok (.multianewarray index 2, 4))
    (kk : ∀ (q : Nat) (r : Nat → Nat) (cA : ClassId) (H1 : Heap), (∀ i j : Nat, i < N' → j < N' → r i = r j → i = j) → (∀ i : Nat, i < N' → r i ∉ L) → va_K D cl (tys ++ [(cA, .array ty)]) s →
      va_P D cl ((X ++ [(q, .inl (cA, N', .inr (.inr (.inr (.inr (fun i => if i < N' then some (r i) else none))))))]) ++ va_pl (L ++ (List.range N').map r) (vr_up f ((List.range N').map r) (.inl (cy, z)))) H1 → va_D A ((X ++ [(q, .inl (cA, N', .inr (.inr (.inr (.inr (fun i => if i < N' then some (r i) else none))))))]) ++ va_pl (L ++ (List.range N').map r) (vr_up f ((List.range N').map r) (.inl (cy, z)))) → va_S A H0 H1 locs →
      W p l e R s m args below meth c H1 locs (cells + 1 + N') (slots + N' + N' * K') Q (F0 m (pc + 4) ls (.ref q :: rest))) : W p l e R s m args below meth c H locs cells slots Q (F0 m pc ls (.int k :: .int n :: rest)) := by
  subst hN
  subst hM
  intro T hT Xs
  obtain ⟨vm₁, cA, comp, -, fA, fC, hO, -, X', step⟩ := Xs.multianewarray2F hexec hown hclink (va_AOA.use hover) harr (g := F0 m pc ls (.int k :: .int n :: rest)) rfl (by rw [hb]; exact hdg) rfl hn hk hb1 hb2 hb3 hdf hdd hcells hslots
  have ec : some cy = some comp := hcy.symm.trans fC
  cases ec
  generalize hF : Jvm.Free.Multi.fill (T.setVm vm₁) cA cy n.toNatClampNeg k.toNatClampNeg (defaultValue ty) n.toNatClampNeg = F at X' step
  have hTh : (T.setVm vm₁).heap = H := hT
  obtain ⟨f1, f2, -, -⟩ := Jvm.Free.Multi.fill_facts (T.setVm vm₁) cA cy n.toNatClampNeg k.toNatClampNeg (defaultValue ty) n.toNatClampNeg
  rw [hF, hTh] at f1 f2
  have hold : ∀ x : Nat, x < H.size → F.heap[x]? = H[x]? := fun x hx => by
    have := Jvm.Free.Multi.fill_old (T.setVm vm₁) cA cy n.toNatClampNeg k.toNatClampNeg (defaultValue ty) (a := x) (by rw [hTh]; exact hx) n.toNatClampNeg
    rw [hF, hTh] at this
    exact this
  have hrow : ∀ j : Nat, j < n.toNatClampNeg → F.heap[H.size + 1 + j]? = some (vp_cell cy z) := fun j hj => by
    have := Jvm.Free.Multi.fill_inner (T.setVm vm₁) cA cy n.toNatClampNeg k.toNatClampNeg (defaultValue ty) n.toNatClampNeg j hj
    rw [hF, hTh, hz] at this
    exact this
  have hout : Jvm.Free.Multi.outerC cA n.toNatClampNeg H.size n.toNatClampNeg = vp_cell cA (n.toNatClampNeg, .inr (.inr (.inr (.inr (fun i => if i < n.toNatClampNeg then some (H.size + 1 + i) else none))))) := by
    rw [vp_cell_q]
    exact vr_outer cA n.toNatClampNeg H.size n.toNatClampNeg
  rw [hout] at f2
  have hlt : ∀ a, a ∈ L → a < H.size := fun a ha => by
    obtain ⟨k9, hk9⟩ := va_pl_get (X := X) (f := f) ha
    exact (hP k9 _ hk9).lt
  have hnl : ∀ i : Nat, i < n.toNatClampNeg → H.size + 1 + i ∉ L := fun i _ h => by
    have := hlt _ h
    omega
  have hnm : ∀ a, a ∈ (List.range n.toNatClampNeg).map (fun i => H.size + 1 + i) → a ∉ L := fun a ha h => by
    obtain ⟨i, -, rfl⟩ := List.mem_map.mp ha
    have := hlt _ h
    omega
  have hP0 : va_P D cl (X ++ va_pl L f) F.heap := hP.kept (fun k9 x hx => hold x.1 ((hP k9 x hx).lt))
  have hP1 : va_P D cl ((X ++ va_pl L f) ++ [(H.size, .inl (cA, n.toNatClampNeg, .inr (.inr (.inr (.inr (fun i => if i < n.toNatClampNeg then some (H.size + 1 + i) else none))))))]) F.heap := hP0.app (fun k9 x hx => by
    have h0 : k9 < 1 := (List.getElem?_eq_some_iff.mp hx).1
    rw [show k9 = 0 by omega] at hx
    cases hx
    exact f2)
  have hP2 : va_P D cl (((X ++ va_pl L f) ++ [(H.size, .inl (cA, n.toNatClampNeg, .inr (.inr (.inr (.inr (fun i => if i < n.toNatClampNeg then some (H.size + 1 + i) else none))))))]) ++ ((List.range n.toNatClampNeg).map (fun i => H.size + 1 + i)).map (fun a => (a, .inl (cy, z)))) F.heap := hP1.app (fun k9 x hx => by
    obtain ⟨a, ha, rfl⟩ := List.mem_map.mp (List.mem_of_getElem? hx)
    obtain ⟨i, hi, rfl⟩ := List.mem_map.mp ha
    exact hrow i (List.mem_range.mp hi))
  have hD2 : va_D A (((X ++ va_pl L f) ++ [(H.size, .inl (cA, n.toNatClampNeg, .inr (.inr (.inr (.inr (fun i => if i < n.toNatClampNeg then some (H.size + 1 + i) else none))))))]) ++ ((List.range n.toNatClampNeg).map (fun i => H.size + 1 + i)).map (fun a => (a, .inl (cy, z)))) := by
    have hD1 := hD.push (e := .inl (cA, n.toNatClampNeg, .inr (.inr (.inr (.inr (fun i => if i < n.toNatClampNeg then some (H.size + 1 + i) else none)))))) hP rfl (hA _ hS.1)
    generalize hW1 : (X ++ va_pl L f) ++ [(H.size, .inl (cA, n.toNatClampNeg, .inr (.inr (.inr (.inr (fun i => if i < n.toNatClampNeg then some (H.size + 1 + i) else none))))))] = W1 at hD1 hP1 ⊢
    have hle : ∀ (k9 : Nat) (x : Nat × va_E), W1[k9]? = some x → x.1 ≤ H.size := fun k9 x hx => by
      rw [← hW1] at hx
      by_cases hl : k9 < (X ++ va_pl L f).length
      · rw [List.getElem?_append_left hl] at hx
        exact Nat.le_of_lt ((hP k9 x hx).lt)
      · rw [List.getElem?_append_right (by omega)] at hx
        have h0 : k9 - (X ++ va_pl L f).length < 1 := (List.getElem?_eq_some_iff.mp hx).1
        rw [show k9 - (X ++ va_pl L f).length = 0 by omega] at hx
        cases hx
        exact Nat.le_refl _
    have hr : ∀ (k9 : Nat) (x : Nat × va_E), (((List.range n.toNatClampNeg).map (fun i => H.size + 1 + i)).map (fun a => ((a, .inl (cy, z)) : Nat × va_E)))[k9]? = some x → x.1 = H.size + 1 + k9 := fun k9 x hx => by
      rw [List.getElem?_map, List.getElem?_map] at hx
      by_cases h9 : k9 < n.toNatClampNeg
      · rw [List.getElem?_range h9] at hx
        cases hx
        rfl
      · have hn0 : (List.range n.toNatClampNeg)[k9]? = none := List.getElem?_eq_none (by rw [List.length_range]; omega)
        rw [hn0] at hx
        cases hx
    refine ⟨fun i j x y hi hj hxy => ?_, fun k9 x hx => ?_⟩
    · by_cases h1 : i < W1.length <;> by_cases h2 : j < W1.length
      · rw [List.getElem?_append_left h1] at hi
        rw [List.getElem?_append_left h2] at hj
        exact hD1.1 i j x y hi hj hxy
      · rw [List.getElem?_append_left h1] at hi
        rw [List.getElem?_append_right (by omega)] at hj
        have := hle _ _ hi
        have := hr _ _ hj
        omega
      · rw [List.getElem?_append_right (by omega)] at hi
        rw [List.getElem?_append_left h2] at hj
        have := hle _ _ hj
        have := hr _ _ hi
        omega
      · rw [List.getElem?_append_right (by omega)] at hi hj
        have := hr _ _ hi
        have := hr _ _ hj
        omega
    · by_cases h1 : k9 < W1.length
      · rw [List.getElem?_append_left h1] at hx
        exact hD1.2 k9 x hx
      · rw [List.getElem?_append_right (by omega)] at hx
        have := hr _ _ hx
        exact hA _ (by have := hS.1; omega)
  have hAr : ArrOfT s cA (.array ty) := fun N9 z9 => by
    obtain ⟨-, k9, hk9, cm9, hkk9⟩ := (hO 0 0 0).1
    exact ⟨(fun q hq => by cases hq), k9, hk9, cm9, hkk9⟩
  have hK2 : va_K D cl (tys ++ [(cA, .array ty)]) s := ⟨hK.1, fun k9 x hx => by
    by_cases hl : k9 < tys.length
    · rw [List.getElem?_append_left hl] at hx
      exact hK.2 k9 x hx
    · rw [List.getElem?_append_right (by omega)] at hx
      have h0 : k9 - tys.length < 1 := (List.getElem?_eq_some_iff.mp hx).1
      rw [show k9 - tys.length = 0 by omega] at hx
      cases hx
      exact ⟨hAr, fA⟩⟩
  obtain ⟨t, a1, b1⟩ := kk H.size (fun i => H.size + 1 + i) cA F.heap (fun i j _ _ h => by have h9 : H.size + 1 + i = H.size + 1 + j := h; omega) hnl hK2 (by rw [← vr_rows hnm]; exact vr_lay hP2) (by rw [← vr_rows hnm]; exact vr_layD hD2) ⟨by rw [f1]; have := hS.1; omega, fun x h1 h2 => (hold x (Nat.lt_of_lt_of_le h1 hS.1)).trans (hS.2.1 x h1 h2), hS.2.2⟩ F rfl X'
  refine ⟨t, step t ?_, b1⟩
  have e : T.heap.size = H.size := by rw [hT]
  rw [e]
  exact a1
end VGM
/-! ===== END ===== -/

/-! ===== BEGIN exceptions that leave a method, and their catching by the caller (launches without stack traces) ===== -/
section VXA
/-! The laws vx_back, vx_callV, vx_callS, vx_callSW, vx_throw0, vx_throwS follow proofs of the library, with one case more: JvmDerived/Free/Laws.lean (Back.of_free), Shelf42/LK1.lean (callV, callS), Shelf/KitTraced.lean (throwNew0V, throwNewS). -/
/-- where a method has thrown q: the class by its name, the cell, what was written, the world -/
def vx_T (XC : String → State → State → Prop) (st : State) (q : Addr) (t : State) (mc ms : Nat) (free : Addr → Prop) : Prop :=
  ∃ (E : String) (ce : Cell) (L : List Loc), XC E st t ∧ t.heap[q]? = some ce ∧ ce.vm = .none ∧ st.vm.findClass E = some ce.cls ∧ st.WarmedH t.vm ∧ st.sameButNew ({ t with vm := st.vm } : State) L mc ms ∧ ∀ z ∈ L, free z.base
def vx_Q (Qc : Array Value → State → Outcome → State → Prop) (XC : String → State → State → Prop) (mc ms : Nat) (free : Addr → Prop) : Array Value → State → Outcome → State → Prop := fun a st o t =>
  (Qc a st o t ∧ ∃ L, FrameEnd st o t L mc ms ∧ ∀ q ∈ L, free q.base) ∨ ∃ q, o = .threw q ∧ vx_T XC st q t mc ms free
/-- a callee that returns or throws -/
def vx_Met (l : Launch) (y : MethodName) (ws : List Cond) (rm : Room) (Pc : Array Value → State → Prop) (Qc : Array Value → State → Outcome → State → Prop) (XC : String → State → State → Prop) (mc ms : Nat) (free : Addr → Prop) : Prop :=
  MetFree l y (headSpec ws rm) Pc (fun _ _ _ _ _ => True) (vx_Q Qc XC mc ms free)
def vx_Post (XC : String → State → State → Prop) (mc ms : Nat) (free : Addr → Prop) : Pt → Array Value → Addr → Pt → Prop := fun A a q B =>
  ∃ (g : JFrame) (mk : MethodId) (t : State) (L : List Loc) (E : String) (ce : Cell), B.U.heap = t.heap ∧ B.U.vm = t.vm ∧ XC E (A.U.calling g mk a) t ∧ t.heap[q]? = some ce ∧ ce.vm = .none ∧ A.U.vm.findClass E = some ce.cls ∧ B.locs = A.locs ++ L ∧ (∀ z ∈ L, free z.base) ∧ B.cells = A.cells + mc ∧ B.slots = A.slots + ms
def vx_Back (l : Launch) (R : Room) (p : Program) (e : Env) (below : List Frame) (s : State) (sargs : Array Value) (y : MethodName) (len W9 : Nat)
    (Pre : Pt → Array Value → Prop) (Post : Pt → Array Value → Option Value → Pt → Prop) (PostX : Pt → Array Value → Addr → Pt → Prop) : Prop :=
  ∀ (m : MethodId) (meth : Method) (c : Code) (A : Pt) (g : JFrame) (ig : Instr) (mk : MethodId) (a : Array Value),
    Stand p l e R s m sargs below meth c A.U A.locs A.cells A.slots → g.method = m → g.locals.size = c.maxLocals → decode c.code g.pc = .ok (ig, len) →
    2 * g.monitorRoom + (g.stack.map fun v => v.category).sum ≤ W9 → A.U.methodNamed? y = some mk → Pre A a →
    (∃ (v : Option Value) (B : Pt), Stand p l e R s m sargs below meth c B.U B.locs B.cells B.slots ∧ Post A a v B ∧
      Steps p.tables e below (doInvoke e (A.U.setTop g) [] mk a).1 (B.U.setTop { g with pc := g.pc + len, stack := v.toList ++ g.stack })) ∨
    (∃ (q : Addr) (B : Pt), Stand p l e R s m sargs below meth c B.U B.locs B.cells B.slots ∧ PostX A a q B ∧
      Steps p.tables e below (doInvoke e (A.U.setTop g) [] mk a).1 ((B.U.setTop g).pushFrame (.throwing q)))
section Payer
variable {l : Launch} {R : Room} {p : Program} {e : Env} {below : List Frame} {s : State} {sargs : Array Value} {y : MethodName} {len W9 : Nat}
theorem vx_back {ws : List Cond} {rm : Room} {Pc : Array Value → State → Prop} {Qc : Array Value → State → Outcome → State → Prop} {XC : String → State → State → Prop} {mc ms : Nat} {free : Addr → Prop} {bytes : ByteArray} {maxL : Nat} {ret : Option FieldType}
    (hM : vx_Met l y ws rm Pc Qc XC mc ms free) (hblind : FrameBlind Pc) (hrc : rm.cells = mc) (hrs : rm.slots = ms)
    (hframes : rm.frames + 1 ≤ R.frames) (hlocals : W9 + (maxL + 11) + rm.locals ≤ R.locals)
    (hws : ∀ w ∈ ws, ∀ a' U, s.WarmedH U.vm → w.before a' U = true) (hcode : Cond.code y bytes maxL ret ∈ ws) (hinit : ∀ a' U, s.WarmedH U.vm → (Cond.initialized y.cls).before a' U = true) :
    vx_Back l R p e below s sargs y len W9 (PreOf R mc ms Pc) (PostOf Qc mc ms free) (vx_Post XC mc ms free) := by
  intro m meth c A g ig mk a X hg hsize hdg hW hn hp
  have h1 : (headSpec ws rm).pre.before a A.U = true := atoms_intro fun w hw => hws w hw _ _ X.warmed
  have h2 : (Cond.code y bytes maxL ret).before a A.U = true := hws _ hcode _ _ X.warmed
  have h3 : (Cond.initialized y.cls).before a A.U = true := hinit _ _ X.warmed
  have h4 : A.cells + (headSpec ws rm).room.cells ≤ R.cells := by rw [show (headSpec ws rm).room.cells = mc from hrc]; exact hp.1
  have h5 : A.slots + (headSpec ws rm).room.slots ≤ R.slots := by rw [show (headSpec ws rm).room.slots = ms from hrs]; exact hp.2.1
  have hPc : Pc a (A.U.calling g mk a) := hblind _ _ _ _ hp.2.2
  obtain ⟨U, Ls, c0, s0⟩ := A
  dsimp only [Pt.U, Pt.locs, Pt.cells, Pt.slots] at h1 h2 h3 h4 h5 X hn hPc ⊢
  obtain ⟨methY, cY, hmY, hcY, -, hlY, -, -, -, -⟩ := Cond.code_spec hn h2
  obtain ⟨kY, hkY, -⟩ := className_of_methodNamed hn
  have hinitY : kY.init = .initialized := Cond.initialized_spec (findClass_of_methodNamed hn) hkY h3
  have h : At U g.method c below := by rw [hg]; exact X.here
  have hlocals9 : W9 + (maxL + 11) + (headSpec ws rm).room.locals ≤ R.locals := hlocals
  have happ : (headSpec ws rm).appliesLoose y e.platform (U.calling g mk a) = true :=
    Spec.appliesLoose_calling (g := g) h hdg hn hkY hinitY
      (X.room_calling (g := g) (R' := (headSpec ws rm).room) hsize hmY hcY hframes (by rw [hlY]; omega) h4 h5) h1
  obtain ⟨mid, hmid⟩ := h.above
  have hfr : (U.setTop g).frames = (.java g :: mid) ++ below := by rw [State.frames_setTop' g h.top, hmid]; rfl
  obtain ⟨o, s₂, hsteps, -, hend, hq⟩ := Steps.callFree hM p X.admits X.cas X.clock (acts := []) hfr happ hPc trivial
  have hq' : vx_Q Qc XC mc ms free a (U.calling g mk a) o s₂ := hq
  rw [State.frames_setTop' g h.top] at hend
  obtain ⟨g₀, hg0⟩ := Option.isSome_iff_exists.mp h.top
  obtain ⟨r, hr⟩ := State.topJava?_eq_some.mp hg0
  have hr' : (({ U with heap := s₂.heap, slotsUsed := s₂.slotsUsed } : State).setVm s₂.vm).frames = .java g₀ :: r := hr
  rcases hq' with ⟨hqc, L, hfe, hL⟩ | ⟨q, rfl, E, ce, L, hx, hce, hcv, hcl, hW₂, hsm, hL⟩
  · obtain ⟨⟨v, rfl⟩, hW₂, e2, q2, q3, q4, q5, q6⟩ := id hfe
    have e3 : s₂ = ({ (U.calling g mk a).setFrames s₂.frames with heap := s₂.heap, slotsUsed := s₂.slotsUsed } : State).setVm s₂.vm := by
      have : s₂ = ({ s₂ with vm := (U.calling g mk a).vm } : State).setVm s₂.vm := rfl
      rw [e2] at this
      exact this
    obtain ⟨c₂, i₂, len₂, hc₂, hd₂, hf₂⟩ := hend
    have hW' : U.WarmedH s₂.vm := hW₂
    have hcc : c₂ = c := by
      have h1 : s₂.code? g.method = U.code? g.method := by
        rw [State.code?_eq, State.code?_eq, hW'.alike.method?]
      exact Option.some.inj (hc₂.symm.trans (h1.trans h.code))
    subst hcc
    have hlen : len₂ = len := by rw [hdg] at hd₂; cases hd₂; rfl
    subst hlen
    have hs₂ : s₂ = (({ U with heap := s₂.heap, slotsUsed := s₂.slotsUsed } : State).setVm s₂.vm).setTop { g with pc := g.pc + len₂, stack := v.toList ++ g.stack } := by
      refine e3.trans ?_
      rw [hf₂, State.calling_eq h.top, State.setFrames_setFrames, State.setTop_of_frames _ hr', hr]
      rfl
    have hsame : U.sameButNew ({ U with heap := s₂.heap, slotsUsed := s₂.slotsUsed } : State) L mc ms := by
      refine ⟨?_, q2, q3, q4, q5, q6⟩
      obtain ⟨t, ht, -⟩ := State.frames_cons hr
      show ({ U with heap := s₂.heap, slotsUsed := s₂.slotsUsed } : State) = { U.setFrames U.frames with heap := s₂.heap, slotsUsed := s₂.slotsUsed }
      rw [State.setFrames_self ht]
    subst hg
    refine Or.inl ⟨v, ⟨(({ U with heap := s₂.heap, slotsUsed := s₂.slotsUsed } : State).setVm s₂.vm), Ls ++ L, c0 + mc, s0 + ms⟩,
      ⟨X.admits, X.cas, X.clock, X.frames, X.room, X.hears, X.method, X.code, (X.here.setHeapUsed s₂.heap s₂.slotsUsed).setVm hW'.alike, X.tail, State.WarmedH.trans X.warmed hW', X.limits, X.bytes, X.same.trans (hsame.setVm s.vm)⟩,
      ⟨g, mk, s₂, L, rfl, rfl, hqc, rfl, hL, rfl, rfl⟩, ?_⟩
    show Steps p.tables e below _ ((({ U with heap := s₂.heap, slotsUsed := s₂.slotsUsed } : State).setVm s₂.vm).setTop { g with pc := g.pc + len₂, stack := v.toList ++ g.stack })
    rw [← hs₂]
    exact hsteps
  · obtain ⟨e2, q2, q3, q4, q5, q6⟩ := id hsm
    have e3 : s₂ = ({ (U.calling g mk a).setFrames s₂.frames with heap := s₂.heap, slotsUsed := s₂.slotsUsed } : State).setVm s₂.vm := by
      have : s₂ = ({ s₂ with vm := (U.calling g mk a).vm } : State).setVm s₂.vm := rfl
      rw [e2] at this
      exact this
    have hf₂ : s₂.frames = .throwing q :: .java g :: U.frames.tail := hend
    have hW' : U.WarmedH s₂.vm := hW₂
    have hs₂ : s₂ = ((({ U with heap := s₂.heap, slotsUsed := s₂.slotsUsed } : State).setVm s₂.vm).setTop g).pushFrame (.throwing q) := by
      refine e3.trans ?_
      rw [hf₂, State.calling_eq h.top, State.setFrames_setFrames, State.pushFrame, State.frames_setTop _ hr', State.setTop_of_frames _ hr', State.setFrames_setFrames, hr]
      rfl
    have hsame : U.sameButNew ({ U with heap := s₂.heap, slotsUsed := s₂.slotsUsed } : State) L mc ms := by
      refine ⟨?_, q2, q3, q4, q5, q6⟩
      obtain ⟨t, ht, -⟩ := State.frames_cons hr
      show ({ U with heap := s₂.heap, slotsUsed := s₂.slotsUsed } : State) = { U.setFrames U.frames with heap := s₂.heap, slotsUsed := s₂.slotsUsed }
      rw [State.setFrames_self ht]
    subst hg
    refine Or.inr ⟨q, ⟨(({ U with heap := s₂.heap, slotsUsed := s₂.slotsUsed } : State).setVm s₂.vm), Ls ++ L, c0 + mc, s0 + ms⟩,
      ⟨X.admits, X.cas, X.clock, X.frames, X.room, X.hears, X.method, X.code, (X.here.setHeapUsed s₂.heap s₂.slotsUsed).setVm hW'.alike, X.tail, State.WarmedH.trans X.warmed hW', X.limits, X.bytes, X.same.trans (hsame.setVm s.vm)⟩,
      ⟨g, mk, s₂, L, E, ce, rfl, rfl, hx, hce, hcv, hcl, rfl, hL, rfl, rfl⟩, ?_⟩
    show Steps p.tables e below _ (((({ U with heap := s₂.heap, slotsUsed := s₂.slotsUsed } : State).setVm s₂.vm).setTop g).pushFrame (.throwing q))
    rw [← hs₂]
    exact hsteps
end Payer
section Calls
variable {p : Program} {l : Launch} {e : Env} {R : Room} {s : State} {m : MethodId} {args : Array Value} {below : List Frame} {meth : Method} {c : Code} {T : State} {locs : List Loc} {cells slots : Nat}
theorem vx_callV (X : Stand p l e R s m args below meth c T locs cells slots) (hexec : p.tables.exec = Jvm.exec) {own C : String} {index : Nat} {y : MethodName} {bytes : ByteArray} {maxL : Nat} {ret : Option FieldType}
    (hown : s.vm.findClass own = some m.cls) (hlink : (Cond.methodLink own index y).before args s = true) (hinst : (Cond.instanceMethod y).before args s = true) (hsel : (Cond.selects C y y).before args s = true)
    (hcode : (Cond.code y bytes maxL ret).before args s = true) (hy : y.cls ≠ "java/lang/invoke/MethodHandle" ∧ y.cls ≠ "java/lang/invoke/VarHandle")
    {W9 : Nat} {Pre : Pt → Array Value → Prop} {Post : Pt → Array Value → Option Value → Pt → Prop} {PostX : Pt → Array Value → Addr → Pt → Prop} (hK : vx_Back l R p e below s args y 3 W9 Pre Post PostX)
    {b : Addr} {cellB : Cell} (hcell : T.heap[b]? = some cellB) (hobj : cellB.vm.isStatics = false) (hcls : s.vm.findClass C = some cellB.cls)
    {g : JFrame} (hg : g.method = m) (hsize : g.locals.size = c.maxLocals) {argsL rest : List Value} (hlen : ∀ sig, parseMethodDescriptor y.desc = some sig → argsL.length = sig.parameters.length)
    (hstack : g.stack = argsL.reverse ++ .ref b :: rest) (hW : 2 * g.monitorRoom + (rest.map fun v => v.category).sum ≤ W9) (hdg : decode c.code g.pc = .ok (.invokevirtual index, 3))
    (hpre : ∀ vm₁, s.WarmedH vm₁ → Pre ⟨T.setVm vm₁, locs, cells, slots⟩ (Value.ref b :: argsL).toArray) :
    (∃ (v : Option Value) (vm₁ : Vm) (B : Pt), s.WarmedH vm₁ ∧ Stand p l e R s m args below meth c B.U B.locs B.cells B.slots ∧ Post ⟨T.setVm vm₁, locs, cells, slots⟩ (Value.ref b :: argsL).toArray v B ∧
      ∀ target, Steps p.tables e below (B.U.setTop { g with pc := g.pc + 3, stack := v.toList ++ rest }) target → Steps p.tables e below (T.setTop g) target) ∨
    (∃ (q : Addr) (vm₁ : Vm) (B : Pt), s.WarmedH vm₁ ∧ Stand p l e R s m args below meth c B.U B.locs B.cells B.slots ∧ PostX ⟨T.setVm vm₁, locs, cells, slots⟩ (Value.ref b :: argsL).toArray q B ∧
      Steps p.tables e below (T.setTop g) ((B.U.setTop { g with stack := rest }).pushFrame (.throwing q))) := by
  obtain ⟨mk, methM, hnamed, hmethM, hstM, habM⟩ := Cond.instanceMethod_spec hinst
  obtain ⟨methM', cM, hmethM', -, -, -, -, -, -, hsigM⟩ := Cond.code_spec hnamed hcode
  cases hmethM.symm.trans hmethM'
  obtain ⟨c2, r2, m2, q1, q2, q3, q4, kP, hkP, hkPi⟩ := Cond.selects_spec hsel
  cases hcls.symm.trans q1
  cases (State.methodFound?_of_named hnamed hy).symm.trans q2
  cases hnamed.symm.trans q3
  have hselP : selectMethod e.platform s.vm cellB.cls mk = .method mk := by rw [Launch.admits_selectMethod X.admits]; exact q4
  obtain ⟨vm₁, X₁, hstep₁⟩ := X.invokevirtual hexec hown hlink hnamed hmethM hstM hkP hkPi hy (a := b) (cell := cellB) hcell
    (fun z h => by rw [h] at hobj; cases hobj) hselP hmethM habM hkP hkPi (g := g) hg (argsL := argsL) (rest := rest) (hlen _ hsigM) hstack hdg
  rcases hK m meth c ⟨T.setVm vm₁, locs, cells, slots⟩ { g with stack := rest } (.invokevirtual index) mk (Value.ref b :: argsL).toArray X₁ hg hsize hdg hW (X₁.named hnamed) (hpre vm₁ X₁.warmed) with ⟨v, B, X', hpost, hsteps⟩ | ⟨q, B, X', hpost, hsteps⟩
  · exact Or.inl ⟨v, vm₁, B, X₁.warmed, X', hpost, fun target h => hstep₁ _ fun acts => by rw [doInvoke_state]; exact hsteps.trans h⟩
  · exact Or.inr ⟨q, vm₁, B, X₁.warmed, X', hpost, hstep₁ _ fun acts => by rw [doInvoke_state]; exact hsteps⟩
theorem vx_callS (X : Stand p l e R s m args below meth c T locs cells slots) (hexec : p.tables.exec = Jvm.exec) {own : String} {index : Nat} {y : MethodName} {bytes : ByteArray} {maxL : Nat} {ret : Option FieldType}
    (hown : s.vm.findClass own = some m.cls) (hlink : (Cond.methodLink own index y).before args s = true) (hstat : (Cond.static y).before args s = true) (hinit : (Cond.initialized y.cls).before args s = true)
    (hcode : (Cond.code y bytes maxL ret).before args s = true) (hy : y.cls ≠ "java/lang/invoke/MethodHandle" ∧ y.cls ≠ "java/lang/invoke/VarHandle")
    {W9 : Nat} {Pre : Pt → Array Value → Prop} {Post : Pt → Array Value → Option Value → Pt → Prop} {PostX : Pt → Array Value → Addr → Pt → Prop} (hK : vx_Back l R p e below s args y 3 W9 Pre Post PostX)
    {g : JFrame} (hg : g.method = m) (hsize : g.locals.size = c.maxLocals) {argsL rest : List Value} (hlen : ∀ sig, parseMethodDescriptor y.desc = some sig → argsL.length = sig.parameters.length)
    (hstack : g.stack = argsL.reverse ++ rest) (hW : 2 * g.monitorRoom + (rest.map fun v => v.category).sum ≤ W9) (hdg : decode c.code g.pc = .ok (.invokestatic index, 3))
    (hpre : ∀ vm₁, s.WarmedH vm₁ → Pre ⟨T.setVm vm₁, locs, cells, slots⟩ argsL.toArray) :
    (∃ (v : Option Value) (vm₁ : Vm) (B : Pt), s.WarmedH vm₁ ∧ Stand p l e R s m args below meth c B.U B.locs B.cells B.slots ∧ Post ⟨T.setVm vm₁, locs, cells, slots⟩ argsL.toArray v B ∧
      ∀ target, Steps p.tables e below (B.U.setTop { g with pc := g.pc + 3, stack := v.toList ++ rest }) target → Steps p.tables e below (T.setTop g) target) ∨
    (∃ (q : Addr) (vm₁ : Vm) (B : Pt), s.WarmedH vm₁ ∧ Stand p l e R s m args below meth c B.U B.locs B.cells B.slots ∧ PostX ⟨T.setVm vm₁, locs, cells, slots⟩ argsL.toArray q B ∧
      Steps p.tables e below (T.setTop g) ((B.U.setTop { g with stack := rest }).pushFrame (.throwing q))) := by
  obtain ⟨mk, hnamed⟩ := Cond.code_named hcode
  obtain ⟨methM, cM, hmethM, -, -, -, -, -, -, hsigM⟩ := Cond.code_spec hnamed hcode
  have hstatic : methM.isStatic = true := Cond.static_spec hnamed hmethM hstat
  obtain ⟨kP, hkP, -⟩ := className_of_methodNamed hnamed
  have hinitP : kP.init = .initialized := Cond.initialized_spec (findClass_of_methodNamed hnamed) hkP hinit
  obtain ⟨vm₁, X₁, hstep₁⟩ := X.invokestatic hexec hown hlink hnamed hmethM hstatic hkP hinitP hy (g := g) hg (argsL := argsL) (rest := rest) (hlen _ hsigM) hstack hdg
  rcases hK m meth c ⟨T.setVm vm₁, locs, cells, slots⟩ { g with stack := rest } (.invokestatic index) mk argsL.toArray X₁ hg hsize hdg hW (X₁.named hnamed) (hpre vm₁ X₁.warmed) with ⟨v, B, X', hpost, hsteps⟩ | ⟨q, B, X', hpost, hsteps⟩
  · exact Or.inl ⟨v, vm₁, B, X₁.warmed, X', hpost, fun target h => hstep₁ _ fun acts => by rw [doInvoke_state]; exact hsteps.trans h⟩
  · exact Or.inr ⟨q, vm₁, B, X₁.warmed, X', hpost, hstep₁ _ fun acts => by rw [doInvoke_state]; exact hsteps⟩
end Calls
theorem vx_cls {s : State} {T : State} {vm₁ : Vm} {E : String} {k : ClassId} (hW : s.WarmedH vm₁) (h : (T.setVm vm₁).vm.findClass E = some k) : s.vm.findClass E = some k := by
  have h1 : vm₁.findClass E = some k := h
  rw [hW.alike.findClass] at h1
  exact h1
/-- the method's frame g, with q thrown over it -/
def vx_W (p : Program) (l : Launch) (e : Env) (R : Room) (s : State) (m : MethodId) (args : Array Value) (below : List Frame) (meth : Method) (c : Code) (H : Heap) (locs : List Loc) (cells slots : Nat) (Q : State → Prop) (g : JFrame) (q : Addr) : Prop :=
  ∀ T : State, T.heap = H → Stand p l e R s m args below meth c T locs cells slots → ∃ t, Steps p.tables e below ((T.setTop g).pushFrame (.throwing q)) t ∧ Q t
def vx_Run (p : Program) (l : Launch) (e : Env) (R : Room) (s : State) (m : MethodId) (args : Array Value) (below : List Frame) (meth : Method) (c : Code) (H : Heap) (locs : List Loc) (cells slots mc ms : Nat) (g : JFrame) (rest : List Value) (Qa : State → Outcome → State → Prop) (XC : String → State → State → Prop) (free : Addr → Prop) : Prop :=
  ∀ T : State, T.heap = H → Stand p l e R s m args below meth c T locs cells slots →
    (∃ (v : Option Value) (st₀ t T' : State) (L : List Loc), st₀.heap = H ∧ Stand p l e R s m args below meth c T' (locs ++ L) (cells + mc) (slots + ms) ∧ (∀ q ∈ L, free q.base) ∧ T'.heap = t.heap ∧ T'.vm = t.vm ∧ Qa st₀ (.returned v) t ∧
      Goes p e below T g T' { g with pc := g.pc + 3, stack := v.toList ++ rest }) ∨
    (∃ (q : Addr) (st₀ t T' : State) (L : List Loc) (E : String) (ce : Cell), st₀.heap = H ∧ Stand p l e R s m args below meth c T' (locs ++ L) (cells + mc) (slots + ms) ∧ (∀ z ∈ L, free z.base) ∧ T'.heap = t.heap ∧ T'.vm = t.vm ∧ XC E st₀ t ∧ t.heap[q]? = some ce ∧ ce.vm = .none ∧ s.vm.findClass E = some ce.cls ∧
      Steps p.tables e below (T.setTop g) ((T'.setTop { g with stack := rest }).pushFrame (.throwing q)))
def vx_X {S : Type} (px : S → Prop) (B : String → S → State → Prop) (A : Nat → Prop) : String → State → State → Prop := fun E st t => ∃ u : S, px u ∧ B E u t ∧ va_F A st t
section Runs
variable {p : Program} {l : Launch} {e : Env} {R : Room} {s : State} {m : MethodId} {args : Array Value} {below : List Frame} {meth : Method} {c : Code} {H : Heap} {locs : List Loc} {cells slots : Nat}
variable {y : MethodName} {bytes cc : ByteArray} {maxL nL mc ms n index : Nat} {ret : Option FieldType} {ws : List Cond} {rm : Room} {Pc : Array Value → State → Prop} {Qc : Array Value → State → Outcome → State → Prop} {XC : String → State → State → Prop} {free : Addr → Prop} {Ts : List Cond} {own C : String} {b : Addr} {As rest : List Value} {g : JFrame}
theorem vx_callBack (cb : CallB R s args own index y bytes maxL ret ws rm mc ms n) (hM : vx_Met l y ws rm Pc Qc XC mc ms free) (hbl : FrameBlind Pc) : vx_Back l R p e below s args y 3 8 (PreOf R mc ms Pc) (PostOf Qc mc ms free) (vx_Post XC mc ms free) := by
  obtain ⟨hrc, hrs, hfr, hlo, hws, hcw, -, hini, -⟩ := cb
  exact vx_back (bytes := bytes) (maxL := maxL) (ret := ret) hM hbl hrc hrs hfr hlo hws hcw (fun a' U hW => word_at hW (Or.inl (by first | rfl | simp [Cond.onTables, Cond.keeps, Cond.steady])) hini)
theorem vx_runV (S : CallFix p m c cc nL s args Ts own) (hM : vx_Met l y ws rm Pc Qc XC mc ms free) (cw : CallW R s args own C index y bytes maxL ret ws rm mc ms n) (hp : PreV s H C b Pc As)
    (hg : g.method = m) (hn : As.length = n) (hsize : g.locals.size = nL) (hstack : g.stack = As.reverse ++ .ref b :: rest) (hW : 2 * g.monitorRoom + (rest.map fun v => v.category).sum ≤ 8) (hdg : decode cc g.pc = .ok (.invokevirtual index, 3)) (hf : cells + mc ≤ R.cells ∧ slots + ms ≤ R.slots) :
    vx_Run p l e R s m args below meth c H locs cells slots mc ms g rest (Qc (Value.ref b :: As).toArray) XC free := by
  have hK : vx_Back l R p e below s args y 3 8 (PreOf R mc ms Pc) (PostOf Qc mc ms free) (vx_Post XC mc ms free) := vx_callBack cw.1 hM hp.1
  obtain ⟨⟨-, -, -, -, -, -, hcode, -, hy, hlen, hl⟩, hin, hse⟩ := cw
  obtain ⟨hx, hb, hml, ho, -⟩ := S
  obtain ⟨-, ⟨cellB, hcB, hoB, hclB⟩, hPc⟩ := hp
  intro T hT X
  rcases vx_callV X hx (C := C) (bytes := bytes) (maxL := maxL) (ret := ret) ho hl hin hse hcode hy hK (by rw [hT]; exact hcB) hoB hclB hg (hsize.trans hml.symm) (argsL := As) (rest := rest) (fun sig h => hn.trans (hlen sig h)) hstack hW (by rw [hb]; exact hdg)
    (fun vm₁ hW₁ => ⟨hf.1, hf.2, hPc (T.setVm vm₁) hT hW₁⟩) with ⟨v, vm₁, ⟨U', l2, c2, s2⟩, hW₁, X', ⟨g', mk, t, L, e1, e2, hq, h1, hL, h2, h3⟩, st⟩ | ⟨q, vm₁, ⟨U', l2, c2, s2⟩, hW₁, X', ⟨g', mk, t, L, E, ce, e1, e2, hq, hce, hcv, hcl, h1, hL, h2, h3⟩, st⟩
  · dsimp only [Pt.U, Pt.locs, Pt.cells, Pt.slots] at X' e1 e2 h1 h2 h3 st
    subst h1; subst h2; subst h3
    exact Or.inl ⟨v, (T.setVm vm₁).calling g' mk (Value.ref b :: As).toArray, t, U', L, hT, X', hL, e1, e2, hq, st⟩
  · dsimp only [Pt.U, Pt.locs, Pt.cells, Pt.slots] at X' e1 e2 h1 h2 h3 st hcl
    subst h1; subst h2; subst h3
    exact Or.inr ⟨q, (T.setVm vm₁).calling g' mk (Value.ref b :: As).toArray, t, U', L, E, ce, hT, X', hL, e1, e2, hq, hce, hcv, vx_cls hW₁ hcl, st⟩
theorem vx_runS (S : CallFix p m c cc nL s args Ts own) (hM : vx_Met l y ws rm Pc Qc XC mc ms free) (cw : CallB R s args own index y bytes maxL ret ws rm mc ms n ∧ (Cond.static y).before args s = true) (hp : PreS s H Pc As)
    (hg : g.method = m) (hn : As.length = n) (hsize : g.locals.size = nL) (hstack : g.stack = As.reverse ++ rest) (hW : 2 * g.monitorRoom + (rest.map fun v => v.category).sum ≤ 8) (hdg : decode cc g.pc = .ok (.invokestatic index, 3)) (hf : cells + mc ≤ R.cells ∧ slots + ms ≤ R.slots) :
    vx_Run p l e R s m args below meth c H locs cells slots mc ms g rest (Qc As.toArray) XC free := by
  have hK : vx_Back l R p e below s args y 3 8 (PreOf R mc ms Pc) (PostOf Qc mc ms free) (vx_Post XC mc ms free) := vx_callBack cw.1 hM hp.1
  obtain ⟨⟨-, -, -, -, -, -, hcode, hini, hy, hlen, hl⟩, hstt⟩ := cw
  obtain ⟨hx, hb, hml, ho, -⟩ := S
  intro T hT X
  rcases vx_callS X hx (bytes := bytes) (maxL := maxL) (ret := ret) ho hl hstt hini hcode hy hK hg (hsize.trans hml.symm) (argsL := As) (rest := rest) (fun sig h => hn.trans (hlen sig h)) hstack hW (by rw [hb]; exact hdg)
    (fun vm₁ hW₁ => ⟨hf.1, hf.2, hp.2 (T.setVm vm₁) hT hW₁⟩) with ⟨v, vm₁, ⟨U', l2, c2, s2⟩, hW₁, X', ⟨g', mk, t, L, e1, e2, hq, h1, hL, h2, h3⟩, st⟩ | ⟨q, vm₁, ⟨U', l2, c2, s2⟩, hW₁, X', ⟨g', mk, t, L, E, ce, e1, e2, hq, hce, hcv, hcl, h1, hL, h2, h3⟩, st⟩
  · dsimp only [Pt.U, Pt.locs, Pt.cells, Pt.slots] at X' e1 e2 h1 h2 h3 st
    subst h1; subst h2; subst h3
    exact Or.inl ⟨v, (T.setVm vm₁).calling g' mk As.toArray, t, U', L, hT, X', hL, e1, e2, hq, st⟩
  · dsimp only [Pt.U, Pt.locs, Pt.cells, Pt.slots] at X' e1 e2 h1 h2 h3 st hcl
    subst h1; subst h2; subst h3
    exact Or.inr ⟨q, (T.setVm vm₁).calling g' mk As.toArray, t, U', L, E, ce, hT, X', hL, e1, e2, hq, hce, hcv, vx_cls hW₁ hcl, st⟩
end Runs
section Rows
variable {p : Program} {l : Launch} {e : Env} {R : Room} {s : State} {m : MethodId} {args : Array Value} {below : List Frame} {meth : Method} {c : Code} {H : Heap} {locs : List Loc} {cells slots : Nat} {Q : State → Prop}
variable {mc ms : Nat} {free : Addr → Prop} {A0 A1 : Nat → Prop} {H0 : Heap} {a : Array Value} {pc : Nat} {ls : Array Slot} {st0 rest : List Value}
theorem vx_keep {st₀ t T' : State} {L : List Loc} (h0 : st₀.heap = H) (e1 : T'.heap = t.heap) (hS : va_S A0 H0 H locs) (hA : ∀ q, q < H.size → A1 q → A0 q) (hf : ∀ q, free q → A0 q) (hL : ∀ q ∈ L, free q.base) (hF : va_F A1 st₀ t) :
    H.size ≤ T'.heap.size ∧ (∀ q : Nat, q < H.size → ¬ A1 q → T'.heap[q]? = H[q]?) ∧ va_S A0 H0 T'.heap (locs ++ L) := by
  obtain ⟨hz, hk⟩ := hF
  rw [h0] at hz hk
  exact ⟨by rw [e1]; exact hz, fun q h1 h2 => by rw [e1]; exact hk q h1 h2,
    ⟨Nat.le_trans hS.1 (by rw [e1]; exact hz), fun q h1 h2 => by rw [e1, hk q (Nat.lt_of_lt_of_le h1 hS.1) (fun z => h2 (hA q (Nat.lt_of_lt_of_le h1 hS.1) z))]; exact hS.2.1 q h1 h2, fun q hq => by
      rcases List.mem_append.mp hq with h | h
      · exact hS.2.2 q h
      · exact hf _ (hL q h)⟩⟩
theorem vx_calli {S SX : Type} {post : Int32 → S → Prop} {px : SX → Prop} {B : S → State → Prop} {BX : String → SX → State → Prop} {AX : Nat → Prop} (hr : vx_Run p l e R s m args below meth c H locs cells slots mc ms (F0 m pc ls st0) rest (va_Qi post B A1 a) (vx_X px BX AX) free) (hS : va_S A0 H0 H locs) (hA : ∀ q, q < H.size → A1 q → A0 q) (hf : ∀ q, free q → A0 q) (hAX : ∀ q, q < H.size → AX q → A0 q)
    (kx : ∀ (E : String) (ce : Cell) (q9 : Addr) (u : SX) (t : State) (H1 : Heap) (locs1 : List Loc), t.heap = H1 → s.vm.Alike t.vm → px u → BX E u t → H.size ≤ H1.size → (∀ q : Nat, q < H.size → ¬ AX q → H1[q]? = H[q]?) → va_S A0 H0 H1 locs1 → H1[q9]? = some ce → ce.vm = .none → s.vm.findClass E = some ce.cls → vx_W p l e R s m args below meth c H1 locs1 (cells + mc) (slots + ms) Q (F0 m pc ls rest) q9)
    (kk : ∀ (r : Int32) (u : S) (t : State) (H1 : Heap) (locs1 : List Loc), t.heap = H1 → s.vm.Alike t.vm → post r u → B u t → H.size ≤ H1.size → (∀ q : Nat, q < H.size → ¬ A1 q → H1[q]? = H[q]?) → va_S A0 H0 H1 locs1 → W p l e R s m args below meth c H1 locs1 (cells + mc) (slots + ms) Q (F0 m (pc + 3) ls (.int r :: rest))) : W p l e R s m args below meth c H locs cells slots Q (F0 m pc ls st0) := by
  intro T hT X
  rcases hr T hT X with ⟨v, st₀, t, T', L, h0, X', hL, e1, e2, ⟨⟨r, u, hv, hp, hb⟩, hF⟩, st⟩ | ⟨q, st₀, t, T', L, E, ce, h0, X', hL, e1, e2, ⟨u, hp, hb, hF⟩, hce, hcv, hcl, st⟩
  · cases hv
    obtain ⟨k1, k2, k3⟩ := vx_keep h0 e1 hS hA hf hL hF
    obtain ⟨t2, a1, b1⟩ := kk r u t T'.heap (locs ++ L) e1.symm (by rw [← e2]; exact X'.warmed.alike) hp hb k1 k2 k3 T' rfl X'
    exact ⟨t2, st t2 a1, b1⟩
  · obtain ⟨k1, k2, k3⟩ := vx_keep h0 e1 hS hAX hf hL hF
    obtain ⟨t2, a1, b1⟩ := kx E ce q u t T'.heap (locs ++ L) e1.symm (by rw [← e2]; exact X'.warmed.alike) hp hb k1 k2 k3 (by rw [e1]; exact hce) hcv hcl T' rfl X'
    exact ⟨t2, st.trans a1, b1⟩
theorem vx_calll {S SX : Type} {post : Int64 → S → Prop} {px : SX → Prop} {B : S → State → Prop} {BX : String → SX → State → Prop} {AX : Nat → Prop} (hr : vx_Run p l e R s m args below meth c H locs cells slots mc ms (F0 m pc ls st0) rest (va_Ql post B A1 a) (vx_X px BX AX) free) (hS : va_S A0 H0 H locs) (hA : ∀ q, q < H.size → A1 q → A0 q) (hf : ∀ q, free q → A0 q) (hAX : ∀ q, q < H.size → AX q → A0 q)
    (kx : ∀ (E : String) (ce : Cell) (q9 : Addr) (u : SX) (t : State) (H1 : Heap) (locs1 : List Loc), t.heap = H1 → s.vm.Alike t.vm → px u → BX E u t → H.size ≤ H1.size → (∀ q : Nat, q < H.size → ¬ AX q → H1[q]? = H[q]?) → va_S A0 H0 H1 locs1 → H1[q9]? = some ce → ce.vm = .none → s.vm.findClass E = some ce.cls → vx_W p l e R s m args below meth c H1 locs1 (cells + mc) (slots + ms) Q (F0 m pc ls rest) q9)
    (kk : ∀ (r : Int64) (u : S) (t : State) (H1 : Heap) (locs1 : List Loc), t.heap = H1 → s.vm.Alike t.vm → post r u → B u t → H.size ≤ H1.size → (∀ q : Nat, q < H.size → ¬ A1 q → H1[q]? = H[q]?) → va_S A0 H0 H1 locs1 → W p l e R s m args below meth c H1 locs1 (cells + mc) (slots + ms) Q (F0 m (pc + 3) ls (.long r :: rest))) : W p l e R s m args below meth c H locs cells slots Q (F0 m pc ls st0) := by
  intro T hT X
  rcases hr T hT X with ⟨v, st₀, t, T', L, h0, X', hL, e1, e2, ⟨⟨r, u, hv, hp, hb⟩, hF⟩, st⟩ | ⟨q, st₀, t, T', L, E, ce, h0, X', hL, e1, e2, ⟨u, hp, hb, hF⟩, hce, hcv, hcl, st⟩
  · cases hv
    obtain ⟨k1, k2, k3⟩ := vx_keep h0 e1 hS hA hf hL hF
    obtain ⟨t2, a1, b1⟩ := kk r u t T'.heap (locs ++ L) e1.symm (by rw [← e2]; exact X'.warmed.alike) hp hb k1 k2 k3 T' rfl X'
    exact ⟨t2, st t2 a1, b1⟩
  · obtain ⟨k1, k2, k3⟩ := vx_keep h0 e1 hS hAX hf hL hF
    obtain ⟨t2, a1, b1⟩ := kx E ce q u t T'.heap (locs ++ L) e1.symm (by rw [← e2]; exact X'.warmed.alike) hp hb k1 k2 k3 (by rw [e1]; exact hce) hcv hcl T' rfl X'
    exact ⟨t2, st.trans a1, b1⟩
theorem vx_callf {S SX : Type} {post : UInt32 → S → Prop} {px : SX → Prop} {B : S → State → Prop} {BX : String → SX → State → Prop} {AX : Nat → Prop} (hr : vx_Run p l e R s m args below meth c H locs cells slots mc ms (F0 m pc ls st0) rest (va_Qf post B A1 a) (vx_X px BX AX) free) (hS : va_S A0 H0 H locs) (hA : ∀ q, q < H.size → A1 q → A0 q) (hf : ∀ q, free q → A0 q) (hAX : ∀ q, q < H.size → AX q → A0 q)
    (kx : ∀ (E : String) (ce : Cell) (q9 : Addr) (u : SX) (t : State) (H1 : Heap) (locs1 : List Loc), t.heap = H1 → s.vm.Alike t.vm → px u → BX E u t → H.size ≤ H1.size → (∀ q : Nat, q < H.size → ¬ AX q → H1[q]? = H[q]?) → va_S A0 H0 H1 locs1 → H1[q9]? = some ce → ce.vm = .none → s.vm.findClass E = some ce.cls → vx_W p l e R s m args below meth c H1 locs1 (cells + mc) (slots + ms) Q (F0 m pc ls rest) q9)
    (kk : ∀ (r : UInt32) (u : S) (t : State) (H1 : Heap) (locs1 : List Loc), t.heap = H1 → s.vm.Alike t.vm → post r u → B u t → H.size ≤ H1.size → (∀ q : Nat, q < H.size → ¬ A1 q → H1[q]? = H[q]?) → va_S A0 H0 H1 locs1 → W p l e R s m args below meth c H1 locs1 (cells + mc) (slots + ms) Q (F0 m (pc + 3) ls (.float r :: rest))) : W p l e R s m args below meth c H locs cells slots Q (F0 m pc ls st0) := by
  intro T hT X
  rcases hr T hT X with ⟨v, st₀, t, T', L, h0, X', hL, e1, e2, ⟨⟨r, u, hv, hp, hb⟩, hF⟩, st⟩ | ⟨q, st₀, t, T', L, E, ce, h0, X', hL, e1, e2, ⟨u, hp, hb, hF⟩, hce, hcv, hcl, st⟩
  · cases hv
    obtain ⟨k1, k2, k3⟩ := vx_keep h0 e1 hS hA hf hL hF
    obtain ⟨t2, a1, b1⟩ := kk r u t T'.heap (locs ++ L) e1.symm (by rw [← e2]; exact X'.warmed.alike) hp hb k1 k2 k3 T' rfl X'
    exact ⟨t2, st t2 a1, b1⟩
  · obtain ⟨k1, k2, k3⟩ := vx_keep h0 e1 hS hAX hf hL hF
    obtain ⟨t2, a1, b1⟩ := kx E ce q u t T'.heap (locs ++ L) e1.symm (by rw [← e2]; exact X'.warmed.alike) hp hb k1 k2 k3 (by rw [e1]; exact hce) hcv hcl T' rfl X'
    exact ⟨t2, st.trans a1, b1⟩
theorem vx_calld {S SX : Type} {post : UInt64 → S → Prop} {px : SX → Prop} {B : S → State → Prop} {BX : String → SX → State → Prop} {AX : Nat → Prop} (hr : vx_Run p l e R s m args below meth c H locs cells slots mc ms (F0 m pc ls st0) rest (va_Qd post B A1 a) (vx_X px BX AX) free) (hS : va_S A0 H0 H locs) (hA : ∀ q, q < H.size → A1 q → A0 q) (hf : ∀ q, free q → A0 q) (hAX : ∀ q, q < H.size → AX q → A0 q)
    (kx : ∀ (E : String) (ce : Cell) (q9 : Addr) (u : SX) (t : State) (H1 : Heap) (locs1 : List Loc), t.heap = H1 → s.vm.Alike t.vm → px u → BX E u t → H.size ≤ H1.size → (∀ q : Nat, q < H.size → ¬ AX q → H1[q]? = H[q]?) → va_S A0 H0 H1 locs1 → H1[q9]? = some ce → ce.vm = .none → s.vm.findClass E = some ce.cls → vx_W p l e R s m args below meth c H1 locs1 (cells + mc) (slots + ms) Q (F0 m pc ls rest) q9)
    (kk : ∀ (r : UInt64) (u : S) (t : State) (H1 : Heap) (locs1 : List Loc), t.heap = H1 → s.vm.Alike t.vm → post r u → B u t → H.size ≤ H1.size → (∀ q : Nat, q < H.size → ¬ A1 q → H1[q]? = H[q]?) → va_S A0 H0 H1 locs1 → W p l e R s m args below meth c H1 locs1 (cells + mc) (slots + ms) Q (F0 m (pc + 3) ls (.double r :: rest))) : W p l e R s m args below meth c H locs cells slots Q (F0 m pc ls st0) := by
  intro T hT X
  rcases hr T hT X with ⟨v, st₀, t, T', L, h0, X', hL, e1, e2, ⟨⟨r, u, hv, hp, hb⟩, hF⟩, st⟩ | ⟨q, st₀, t, T', L, E, ce, h0, X', hL, e1, e2, ⟨u, hp, hb, hF⟩, hce, hcv, hcl, st⟩
  · cases hv
    obtain ⟨k1, k2, k3⟩ := vx_keep h0 e1 hS hA hf hL hF
    obtain ⟨t2, a1, b1⟩ := kk r u t T'.heap (locs ++ L) e1.symm (by rw [← e2]; exact X'.warmed.alike) hp hb k1 k2 k3 T' rfl X'
    exact ⟨t2, st t2 a1, b1⟩
  · obtain ⟨k1, k2, k3⟩ := vx_keep h0 e1 hS hAX hf hL hF
    obtain ⟨t2, a1, b1⟩ := kx E ce q u t T'.heap (locs ++ L) e1.symm (by rw [← e2]; exact X'.warmed.alike) hp hb k1 k2 k3 (by rw [e1]; exact hce) hcv hcl T' rfl X'
    exact ⟨t2, st.trans a1, b1⟩
theorem vx_callv {S SX : Type} {post : S → Prop} {px : SX → Prop} {B : S → State → Prop} {BX : String → SX → State → Prop} {AX : Nat → Prop} (hr : vx_Run p l e R s m args below meth c H locs cells slots mc ms (F0 m pc ls st0) rest (va_Qv post B A1 a) (vx_X px BX AX) free) (hS : va_S A0 H0 H locs) (hA : ∀ q, q < H.size → A1 q → A0 q) (hf : ∀ q, free q → A0 q) (hAX : ∀ q, q < H.size → AX q → A0 q)
    (kx : ∀ (E : String) (ce : Cell) (q9 : Addr) (u : SX) (t : State) (H1 : Heap) (locs1 : List Loc), t.heap = H1 → s.vm.Alike t.vm → px u → BX E u t → H.size ≤ H1.size → (∀ q : Nat, q < H.size → ¬ AX q → H1[q]? = H[q]?) → va_S A0 H0 H1 locs1 → H1[q9]? = some ce → ce.vm = .none → s.vm.findClass E = some ce.cls → vx_W p l e R s m args below meth c H1 locs1 (cells + mc) (slots + ms) Q (F0 m pc ls rest) q9)
    (kk : ∀ (u : S) (t : State) (H1 : Heap) (locs1 : List Loc), t.heap = H1 → s.vm.Alike t.vm → post u → B u t → H.size ≤ H1.size → (∀ q : Nat, q < H.size → ¬ A1 q → H1[q]? = H[q]?) → va_S A0 H0 H1 locs1 → W p l e R s m args below meth c H1 locs1 (cells + mc) (slots + ms) Q (F0 m (pc + 3) ls (rest))) : W p l e R s m args below meth c H locs cells slots Q (F0 m pc ls st0) := by
  intro T hT X
  rcases hr T hT X with ⟨v, st₀, t, T', L, h0, X', hL, e1, e2, ⟨⟨u, hv, hp, hb⟩, hF⟩, st⟩ | ⟨q, st₀, t, T', L, E, ce, h0, X', hL, e1, e2, ⟨u, hp, hb, hF⟩, hce, hcv, hcl, st⟩
  · cases hv
    obtain ⟨k1, k2, k3⟩ := vx_keep h0 e1 hS hA hf hL hF
    obtain ⟨t2, a1, b1⟩ := kk u t T'.heap (locs ++ L) e1.symm (by rw [← e2]; exact X'.warmed.alike) hp hb k1 k2 k3 T' rfl X'
    exact ⟨t2, st t2 a1, b1⟩
  · obtain ⟨k1, k2, k3⟩ := vx_keep h0 e1 hS hAX hf hL hF
    obtain ⟨t2, a1, b1⟩ := kx E ce q u t T'.heap (locs ++ L) e1.symm (by rw [← e2]; exact X'.warmed.alike) hp hb k1 k2 k3 (by rw [e1]; exact hce) hcv hcl T' rfl X'
    exact ⟨t2, st.trans a1, b1⟩
/-- caught by the row x of this method's table; the rows ahead don't take it -/
theorem vx_catch {own name : String} {E : String} {ce : Cell} {q : Addr} (hown : s.vm.findClass own = some m.cls) (pre : List ExceptionTableEntry) (x : ExceptionTableEntry) (suf : List ExceptionTableEntry) (hsplit : c.exceptionTable.toList = pre ++ x :: suf)
    (hpass : ∀ z ∈ pre, covers z pc = false ∨ (z.catchType ≠ 0 ∧ ∃ nm : String, (Cond.classLink own z.catchType nm).before args s = true ∧ va_Nc E nm s)) (hx : covers x pc = true) (h0 : x.catchType ≠ 0)
    (hlink : (Cond.classLink own x.catchType name).before args s = true) (hcast : (Cond.castable E name).before args s = true) (hcell : H[q]? = some ce) (hv : ce.vm = .none) (hcl : s.vm.findClass E = some ce.cls)
    (kk : W p l e R s m args below meth c H locs cells slots Q (F0 m x.handlerPc ls [.ref q])) : vx_W p l e R s m args below meth c H locs cells slots Q (F0 m pc ls rest) q := by
  intro T hT X
  have hpl : e.platform.magicAccessors = ({} : Platform).magicAccessors := by rw [X.admits.platform]
  obtain ⟨c3, c4, hc3, hc4, hasg⟩ := Cond.castable_spec hcast
  cases Option.some.inj (hc3.symm.trans hcl)
  obtain ⟨c5, hc5, hcl5⟩ := Cond.classLink_spec hown hlink e.platform hpl
  cases Option.some.inj (hc4.symm.trans hc5)
  obtain ⟨vm', X', st⟩ := X.thenCaughtThrough q (g := F0 m pc ls rest) rfl (Steps.refl _) (by rw [hT]; exact hcell) (by rw [hv]; rfl) (by obtain ⟨k9, h9, -⟩ := Vm.findClass_spec hcl; exact ⟨k9, h9⟩) pre x suf hsplit
    (fun z hz => by
      rcases hpass z hz with h | ⟨hz0, nm, hl1, hn1⟩
      · exact Or.inl h
      · obtain ⟨c6, hc6, hcl6⟩ := Cond.classLink_spec hown hl1 e.platform hpl
        obtain ⟨a8, b8, h1, h2, h3⟩ := hn1
        cases Option.some.inj (h1.symm.trans hcl)
        cases Option.some.inj (h2.symm.trans hc6)
        exact Or.inr ⟨hz0, _, hcl6, h3⟩) hx (Or.inr ⟨h0, c4, hcl5, hasg⟩)
  obtain ⟨t, a1, b1⟩ := kk (T.setVm vm') hT X'
  exact ⟨t, st.trans a1, b1⟩
end Rows
section Ends
variable {p : Program} {l : Launch} {e : Env} {R : Room} {s : State} {m : MethodId} {args : Array Value} {below : List Frame} {meth : Method} {c : Code} {H : Heap} {locs : List Loc} {cells slots : Nat} {Q : State → Prop}
variable {mc ms : Nat} {free : Addr → Prop} {A0 A1 : Nat → Prop} {H0 : Heap} {a : Array Value} {ls : Array Slot} {st0 rest : List Value}
variable {Qc : Array Value → State → Outcome → State → Prop} {XC : String → State → State → Prop}
/-- what a body that may throw owes at its end -/
def vx_MQ (below : List Frame) (Qc : Array Value → State → Outcome → State → Prop) (XC : String → State → State → Prop) (a : Array Value) (s : State) (mc ms : Nat) (free : Addr → Prop) : State → Prop := fun t =>
  ∃ o, t.status = .running ∧ Ended t below o ∧ vx_Q Qc XC mc ms free a s o t
theorem vx_ret {g : JFrame} {mc ms : Nat} (k : W p l e R s m args below meth c H locs cells slots (MQ below Qc args s mc ms free) g) : W p l e R s m args below meth c H locs cells slots (vx_MQ below Qc XC args s mc ms free) g := by
  intro T hT X
  obtain ⟨t, a1, o, b1, b2, b3, b4⟩ := k T hT X
  exact ⟨t, a1, o, b1, b2, Or.inl ⟨b3, b4⟩⟩
/-- not caught here: it goes on to the caller -/
theorem vx_widen {g : JFrame} {q : Addr} {k n : Nat} (h1 : cells ≤ k) (h2 : slots ≤ n) (kk : vx_W p l e R s m args below meth c H locs k n Q g q) : vx_W p l e R s m args below meth c H locs cells slots Q g q := fun T hT X => kk T hT (stand_widen X h1 h2)
theorem vx_out {pc : Nat} {E : String} {ce : Cell} {q : Addr} {mc ms : Nat} (hout : ∀ x ∈ c.exceptionTable.toList, covers x pc = false) (hlocks : meth.locks = false) (hcell : H[q]? = some ce) (hv : ce.vm = .none) (hcl : s.vm.findClass E = some ce.cls)
    (hx : ∀ t : State, t.heap = H → s.vm.Alike t.vm → XC E s t) (hf : ∀ z ∈ locs, free z.base) (hc : cells ≤ mc) (hs : slots ≤ ms) :
    vx_W p l e R s m args below meth c H locs cells slots (vx_MQ below Qc XC args s mc ms free) (F0 m pc ls rest) q := by
  intro T hT X
  obtain ⟨st1, hrun, hend, hW, hsm⟩ := X.leaveThrown q (g := F0 m pc ls rest) rfl rfl rfl hout hlocks
  have hcell9 : (T.setFrames (.throwing q :: below)).heap[q]? = some ce := by
    show T.heap[q]? = some ce
    rw [hT]; exact hcell
  exact ⟨_, st1, .threw q, hrun, hend, Or.inr ⟨q, rfl, E, ce, locs, hx _ hT hW.alike, hcell9, hv, hcl, hW, hsm.mono hc hs, hf⟩⟩
theorem vx_frame {U : State} {k n : Nat} (h : s.sameButNew ({ U with vm := s.vm } : State) locs k n) : s.heap.size ≤ U.heap.size ∧ ∀ q : Nat, q < s.heap.size → (∀ z ∈ locs, z.base ≠ q) → U.heap[q]? = s.heap[q]? := by
  obtain ⟨-, h2, -, -, -, h6⟩ := h
  refine ⟨h2, fun q hq hz => ?_⟩
  obtain ⟨c9, e1, e2, e3, e4⟩ := h6 q _ (Array.getElem?_eq_getElem hq)
  have hs : c9.slots = (s.heap[q]).slots := Array.ext_getElem? fun i => e4 i fun hm => hz _ hm rfl
  have h9 : c9 = s.heap[q] := by
    rw [hs] at e2
    exact e2
  have e5 : U.heap[q]? = some c9 := e1
  rw [e5, h9, Array.getElem?_eq_getElem hq]
/-- the words of a throw but the four that speak of the heap -/
def vx_no (w : Cond) : Bool := decide (w ≠ .isRef (.static Bundle.tN "UNASSIGNED_STACK" Bundle.steD)) && decide (w ≠ .isRef (.static Bundle.tN "SUPPRESSED_SENTINEL" Bundle.listD)) && decide (w ≠ .laysStatic Bundle.tN "UNASSIGNED_STACK" Bundle.steD) && decide (w ≠ .laysStatic Bundle.tN "SUPPRESSED_SENTINEL" Bundle.listD)
def vx_at0 (own : String) (ic : Nat) (X : String) (names : List String) : List Cond := (Bundle.ownAtoms0 own ic X names).filter vx_no
def vx_atS (own : String) (ic : Nat) (X : String) (names : List String) : List Cond := (Bundle.ownAtoms own ic X names).filter vx_no
/-- a word that the tables alone decide, or a good one -/
def vx_ot (w : Cond) : Bool := w.onTables || goodWord w
theorem vx_ot_at {args a' : Array Value} {s U : State} {w : Cond} (hW : s.WarmedH U.vm) (hvm : s.vm = U.vm) (hg : vx_ot w = true) (h : w.before args s = true) : w.before a' U = true := by
  simp only [vx_ot, Bool.or_eq_true] at hg
  rcases hg with hg | hg
  · exact va_tabs hg hvm h
  · exact word_at hW (good_of_word hg) h
/-- a list's words: the good ones out of the method's own list, the others by premises of their own -/
theorem vx_hat {args : Array Value} {s : State} {L B : List Cond} (h1 : ∀ w ∈ L.filter goodWord, w.before args s = true) (h2 : ∀ w ∈ L.filter (fun w => !goodWord w), w ∈ B) (h3 : ∀ w ∈ B, w.before args s = true) : ∀ w ∈ L, w.before args s = true := by
  intro w hw
  by_cases g : goodWord w = true
  · exact h1 w (List.mem_filter.mpr ⟨hw, g⟩)
  · refine h3 w (h2 w (List.mem_filter.mpr ⟨hw, ?_⟩))
    show (!goodWord w) = true
    cases hgw : goodWord w
    · rfl
    · exact absurd hgw g
theorem vx_c {args : Array Value} {s : State} {w : Cond} {B : List Cond} (h : w.before args s = true) (t : ∀ w ∈ B, w.before args s = true) : ∀ w' ∈ w :: B, w'.before args s = true := fun w' h' => (List.mem_cons.mp h').elim (fun e => by rw [e]; exact h) (t w')
theorem vx_n {args : Array Value} {s : State} : ∀ w ∈ ([] : List Cond), w.before args s = true := fun _ h => nomatch h
theorem vx_own {args : Array Value} {s : State} {L : List Cond} (h1 : ∀ w ∈ L.filter vx_no, w.before args s = true)
    (hU : (Cond.isRef (.static Bundle.tN "UNASSIGNED_STACK" Bundle.steD)).before args s = true) (hN : (Cond.isRef (.static Bundle.tN "SUPPRESSED_SENTINEL" Bundle.listD)).before args s = true)
    (lU : (Cond.laysStatic Bundle.tN "UNASSIGNED_STACK" Bundle.steD).before args s = true) (lN : (Cond.laysStatic Bundle.tN "SUPPRESSED_SENTINEL" Bundle.listD).before args s = true) : ∀ w ∈ L, w.before args s = true := by
  intro w hw
  by_cases e1 : w = .isRef (.static Bundle.tN "UNASSIGNED_STACK" Bundle.steD)
  · rw [e1]; exact hU
  · by_cases e2 : w = .isRef (.static Bundle.tN "SUPPRESSED_SENTINEL" Bundle.listD)
    · rw [e2]; exact hN
    · by_cases e3 : w = .laysStatic Bundle.tN "UNASSIGNED_STACK" Bundle.steD
      · rw [e3]; exact lU
      · by_cases e4 : w = .laysStatic Bundle.tN "SUPPRESSED_SENTINEL" Bundle.listD
        · rw [e4]; exact lN
        · exact h1 w (List.mem_filter.mpr ⟨hw, by unfold vx_no; rw [decide_eq_true e1, decide_eq_true e2, decide_eq_true e3, decide_eq_true e4]; rfl⟩)
/-- where a static field lies, its class's statics cell in H -/
def vx_L (C n d : String) (A : Nat → Prop) (U : State) (H : Heap) : Prop := ∃ (c : ClassId) (k : Class) (i : Nat) (f : Field) (a : Nat) (cell : Cell), U.vm.findClass C = some c ∧ U.fieldFound? C n d = some (c, k, i, f) ∧ f.isStatic = true ∧ k.statics = some a ∧ H[a]? = some cell ∧ cell.vm.isStatics = true ∧ cell.cls = c ∧ f.slot < cell.slots.size ∧ k.staticTypes[f.slot]? = some f.type ∧ ¬ A a
theorem vx_L.moved {C n d : String} {A : Nat → Prop} {u U : State} {H : Heap} (hvm : u.vm.Alike U.vm) (h : vx_L C n d A u H) : vx_L C n d A U H := by
  obtain ⟨c, k, i, f, a, cell, h1, h2, h3, h4, h5, h6, h7, h8, h9, h10⟩ := h
  obtain ⟨k', hi', he⟩ := State.fieldFound?_setVm hvm h2
  exact ⟨c, k', i, f, a, cell, by rw [hvm.findClass]; exact h1, hi', h3, by rw [he]; exact h4, h5, h6, h7, h8, by rw [he]; exact h9, h10⟩
theorem vx_L.kept {C n d : String} {A : Nat → Prop} {U : State} {H H1 : Heap} (h : vx_L C n d A U H) (hq : ∀ a : Nat, a < H.size → ¬ A a → H1[a]? = H[a]?) : vx_L C n d A U H1 := by
  obtain ⟨c, k, i, f, a, cell, h1, h2, h3, h4, h5, h6, h7, h8, h9, h10⟩ := h
  exact ⟨c, k, i, f, a, cell, h1, h2, h3, h4, by rw [hq a (Array.getElem?_eq_some_iff.mp h5).1 h10]; exact h5, h6, h7, h8, h9, h10⟩
theorem vx_L.narrow {C n d : String} {A B : Nat → Prop} {U : State} {H : Heap} (h : vx_L C n d A U H) (hAB : ∀ q, B q → A q) : vx_L C n d B U H := by
  obtain ⟨c, k, i, f, a, cell, h1, h2, h3, h4, h5, h6, h7, h8, h9, h10⟩ := h
  exact ⟨c, k, i, f, a, cell, h1, h2, h3, h4, h5, h6, h7, h8, h9, fun z => h10 (hAB _ z)⟩
theorem vx_L.word {C n d : String} {A : Nat → Prop} {s : State} {args : Array Value} (h : vx_L C n d A s s.heap) : (Cond.laysStatic C n d).before args s = true := by
  obtain ⟨c, k, i, f, a, cell, h1, h2, h3, h4, h5, h6, h7, h8, h9, -⟩ := h
  show (Cond.laysStatic C n d).holds args s none s [] = true
  exact Cond.laysStatic_of h1 h2 h3 h4 h5 h6 h7 h8 h9
/-- .. and what it holds: null or some reference -/
def vx_Zq (C n d : String) (A : Nat → Prop) (U : State) (H : Heap) : Prop := va_Zq C n d A U H ∧ vx_L C n d A U H
theorem vx_Zq.moved {C n d : String} {A : Nat → Prop} {u U : State} {H : Heap} (hvm : u.vm.Alike U.vm) (h : vx_Zq C n d A u H) : vx_Zq C n d A U H := ⟨va_Zq.moved hvm h.1, vx_L.moved hvm h.2⟩
theorem vx_Zq.kept {C n d : String} {A : Nat → Prop} {U : State} {H H1 : Heap} (h : vx_Zq C n d A U H) (hq : ∀ a : Nat, a < H.size → ¬ A a → H1[a]? = H[a]?) : vx_Zq C n d A U H1 := ⟨va_Zq.kept h.1 hq, vx_L.kept h.2 hq⟩
theorem vx_Zq.narrow {C n d : String} {A B : Nat → Prop} {U : State} {H : Heap} (h : vx_Zq C n d A U H) (hAB : ∀ q, B q → A q) : vx_Zq C n d B U H := ⟨va_Zq.narrow h.1 hAB, vx_L.narrow h.2 hAB⟩
theorem vx_Zqof {args : Array Value} {s : State} {C n d : String} {A : Nat → Prop} (hl : (Cond.laysStatic C n d).before args s = true) (hini : (Cond.initialized C).before args s = true) (h : (Cond.isRef (.static C n d)).before args s = true) (hA : ∀ a : Nat, a < s.heap.size → ¬ A a) : vx_Zq C n d A s s.heap := by
  refine ⟨va_Zqof hl hini h hA, ?_⟩
  obtain ⟨c, k, i, f, a, cell, h1, h2, h3, h4, h5, h6, h7, h8, h9⟩ := Cond.laysStatic_spec hl
  exact ⟨c, k, i, f, a, cell, h1, h2, h3, h4, h5, h6, h7, h8, h9, hA a (Array.getElem?_eq_some_iff.mp h5).1⟩
theorem vx_isRef {C n d : String} {v : Value} {A : Nat → Prop} {s : State} {args : Array Value} (h : va_Z C n d v A s s.heap) (hv : v.isRef = true) : (Cond.isRef (.static C n d)).before args s = true := by
  obtain ⟨cf, kf, fi, f, a, cell, h1, h2, h3, h4, h5, h6, h7, -⟩ := h
  have he : (Term.static C n d).eval args s none [] s = some v := by
    simp [Term.eval, State.fieldNamed?, h1, h2, h4, h5, h6, h7]
  simp only [Cond.before, Cond.holds, Cond.value, he]
  cases v <;> simp_all [Value.isRef]
theorem vx_isRefq {C n d : String} {A : Nat → Prop} {s : State} {args : Array Value} (h : va_Zq C n d A s s.heap) : (Cond.isRef (.static C n d)).before args s = true := by
  rcases h with h | ⟨t, h⟩
  · exact vx_isRef h rfl
  · exact vx_isRef h rfl
/-- the same frame, seen from here: as if the method were called anew in this heap -/
theorem vx_rebase {T : State} (X : Stand p l e R s m args below meth c T locs cells slots) {R' : Room} (hf : R'.frames ≤ R.frames) (hl : R'.locals ≤ R.locals) (hc : cells + R'.cells ≤ R.cells) (hs : slots + R'.slots ≤ R.slots) :
    Stand p l e R' ((T.setVm s.vm).setFrames (.invoking m args :: below)) m args below meth c T [] 0 0 := by
  have htop : (T.setVm s.vm).topJava?.isSome := X.here.top
  have hF : ((T.setVm s.vm).setFrames (.invoking m args :: below)).frames = .invoking m args :: below := State.frames_setFrames _ (State.cur_lt_of_top htop)
  obtain ⟨g₀, hg0⟩ := Option.isSome_iff_exists.mp htop
  obtain ⟨r, hr⟩ := State.topJava?_eq_some.mp hg0
  have hl9 : e.platform.stackLimits (T.setVm s.vm).me = e.platform.stackLimits s.me := X.limits
  have hb9 : (T.setVm s.vm).me.stackBytes = s.me.stackBytes := X.bytes
  refine ⟨X.admits, X.cas, X.clock, hF, ?_, X.hears, X.method, X.code, X.here, X.tail, X.warmed, ?_, ?_, ?_⟩
  · have h := X.room
    have hU : ((T.setVm s.vm).setFrames (.invoking m args :: below)).localsInUse = s.localsInUse := by
      rw [State.localsInUse_invoking hF (meth := meth) (c := c) X.method X.code, State.localsInUse_invoking X.frames X.method X.code]
    simp only [State.hasRoom, Bool.and_eq_true, decide_eq_true_eq] at h ⊢
    obtain ⟨⟨⟨⟨h1, h2, h3, h4, h5, h6⟩, h7⟩, h8⟩, h9⟩ := h
    rw [X.frames, List.length_cons] at h2 h3
    have q1 := X.heapSize
    have q2 := X.used
    simp only [hF, hU, List.length_cons, State.stackLimits_setFrames, State.stackBytes_setFrames, hl9, hb9]
    refine ⟨⟨⟨⟨by omega, by omega, by omega, by omega, by omega, h6⟩, ?_⟩, ?_⟩, X.book⟩
    · show T.heap.size + R'.cells ≤ e.platform.maxCells
      omega
    · show T.slotsUsed + R'.slots ≤ e.platform.maxSlots
      omega
  · rw [State.stackLimits_setFrames]; rfl
  · rw [State.stackBytes_setFrames]; rfl
  · refine ⟨?_, Nat.le_refl _, Nat.le_refl _, ?_, ?_, fun a c9 h9 => ⟨c9, h9, rfl, rfl, fun _ _ => rfl⟩⟩
    · obtain ⟨t, ht, -⟩ := State.frames_cons hr
      show T.setVm s.vm = { ((T.setVm s.vm).setFrames (.invoking m args :: below)).setFrames (T.setVm s.vm).frames with heap := T.heap, slotsUsed := T.slotsUsed }
      rw [State.setFrames_setFrames, State.setFrames_self ht]
      rfl
    · show T.slotsUsed = T.slotsUsed + ((T.heap.toList.drop T.heap.size).map (·.slots.size)).sum
      rw [List.drop_eq_nil_of_le (Nat.le_of_eq Array.length_toList)]
      rfl
    · show ((T.heap.toList.drop T.heap.size).map (·.slots.size)).sum ≤ 0
      rw [List.drop_eq_nil_of_le (Nat.le_of_eq Array.length_toList)]
      exact Nat.le_refl _
/-- 'throw new E()': new; dup; invokespecial; athrow -/
theorem vx_throw0 {cc : ByteArray} {pc : Nat} (hexec : p.tables.exec = Jvm.exec) (hb : c.code = cc) (hl : l.stackTraces = false) {own cls : String} {names : List String} {ik ic mc ms : Nat} {A : Nat → Prop}
    (hown : s.vm.findClass own = some m.cls) (hcls : Bundle.fit cls = true) (hnames : ∀ n ∈ names, Bundle.fit n = true)
    (hk : (Cond.classLink own ik cls).before args s = true) (hini : (Cond.initialized cls).before args s = true) (hat : ∀ w ∈ vx_at0 own ic cls names, w.before args s = true)
    (hgood : ∀ w ∈ Cond.classLink own ik cls :: Cond.initialized cls :: vx_at0 own ic cls names, vx_ot w = true)
    (hU : vx_Zq Bundle.tN "UNASSIGNED_STACK" Bundle.steD A s s.heap) (hN : vx_Zq Bundle.tN "SUPPRESSED_SENTINEL" Bundle.listD A s s.heap) (hS : va_S A s.heap H locs) (hsize : ls.size = c.maxLocals)
    (d0 : decode cc pc = .ok (.new ik, 3)) (d3 : decode cc (pc + 3) = .ok (.dup, 1)) (d4 : decode cc (pc + 4) = .ok (.invokespecial ic, 3)) (d7 : decode cc (pc + 7) = .ok (.athrow, 1))
    (hout : ∀ x ∈ c.exceptionTable.toList, covers x (pc + 7) = false)
    (hRframes : names.length + 3 < R.frames) (hRlocals : (rest.map fun v => v.category).sum + (13 * (names.length + 1) + 42) ≤ R.locals) (hRcells : cells + 1 ≤ R.cells) (hRslots : slots + 6 ≤ R.slots) (hlocks : meth.locks = false)
    (hx : ∀ t : State, s.vm.Alike t.vm → H.size ≤ t.heap.size → (∀ q : Nat, q < H.size → t.heap[q]? = H[q]?) → XC cls s t)
    (hf : ∀ z ∈ locs, free z.base) (hc : cells + 1 ≤ mc) (hs : slots + 6 ≤ ms) :
    W p l e R s m args below meth c H locs cells slots (vx_MQ below Qc XC args s mc ms free) (F0 m pc ls rest) := by
  intro T hT X
  have htr : e.platform.stackTraces = false := (show e.platform.stackTraces = l.stackTraces by rw [X.admits.platform]).trans hl
  have Y := vx_rebase X (R' := { frames := R.frames, locals := R.locals, cells := 1, slots := 6 }) (Nat.le_refl _) (Nat.le_refl _) hRcells hRslots
  obtain ⟨s', hA⟩ : ∃ z, z = (T.setVm s.vm).setFrames (.invoking m args :: below) := ⟨_, rfl⟩
  rw [← hA] at Y
  have hvm : s'.vm = s.vm := by rw [hA]; rfl
  have hhp : s'.heap = H := by rw [hA]; exact hT
  have hW0 : s.WarmedH s'.vm := by rw [hvm]; exact State.WarmedH.refl s
  have hat' : ∀ w ∈ vx_at0 own ic cls names, w.before args s' = true := fun w hw => vx_ot_at hW0 hvm.symm (hgood w (List.mem_cons_of_mem _ (List.mem_cons_of_mem _ hw))) (hat w hw)
  have hk' : (Cond.classLink own ik cls).before args s' = true := vx_ot_at hW0 hvm.symm (hgood _ List.mem_cons_self) hk
  have hini' : (Cond.initialized cls).before args s' = true := vx_ot_at hW0 hvm.symm (hgood _ (List.mem_cons_of_mem _ List.mem_cons_self)) hini
  have hU' : vx_Zq Bundle.tN "UNASSIGNED_STACK" Bundle.steD A s' s'.heap := by rw [hhp]; exact vx_Zq.moved hW0.alike (hU.kept hS.2.1)
  have hN' : vx_Zq Bundle.tN "SUPPRESSED_SENTINEL" Bundle.listD A s' s'.heap := by rw [hhp]; exact vx_Zq.moved hW0.alike (hN.kept hS.2.1)
  have h : ∀ w ∈ Bundle.ownAtoms0 own ic cls names, w.before args s' = true := vx_own hat' (vx_isRefq hU'.1) (vx_isRefq hN'.1) hU'.2.word hN'.2.word
  have hown' : s'.vm.findClass own = some m.cls := by rw [hvm]; exact hown
  have hins : (Cond.instantiable cls 6).before args s' = true := h _ (by simp [Bundle.ownAtoms0])
  obtain ⟨vm₁, cX, kX, hfX, hkX, -, -, X₁, st1⟩ := Y.newCold hexec (own := own) (C := cls) (index := ik) (n := 6) hown' hk' hins hini'
    (g := F0 m pc ls rest) rfl (by rw [hb]; exact d0) (Nat.le_refl _) (Nat.le_refl _)
  generalize hT1 : (T.setVm vm₁).pushCell { cls := cX, slots := kX.instanceTypes.map defaultValue, vm := .none } = T1 at X₁ st1
  have hcat : (Value.ref T.heap.size).category = 1 := rfl
  have hcellA : T1.heap[T.heap.size]? = some (freshCell cX kX) := by rw [← hT1]; exact State.heap_pushCell_size _ _
  have d3' : decode c.code (pc + 3) = .ok (.dup, 1) := by rw [hb]; exact d3
  obtain ⟨U, hsteps, hrun, hend, hW, hsame, ce, hce, hO⟩ := X₁.ctorThrow0 hexec htr (own := own) (cls := cls) (names := names) (ic := ic) hown' hcls hnames h (fun x hx => nomatch hx) hfX hkX hcellA (by rw [hhp, hT]; exact Nat.le_refl _)
    (g := { method := m, pc := pc + 4, locals := ls, stack := .ref T.heap.size :: .ref T.heap.size :: rest, locked := none }) rfl hsize rfl rfl (rest := rest) rfl
    (by rw [hb]; exact d4) (by rw [hb]; exact d7) hout hRframes (by simp only [List.map_cons, List.sum_cons, hcat]; omega) hlocks
  obtain ⟨f1, f2⟩ := vx_frame hsame
  rw [hhp] at f1 f2
  have hWs : s.WarmedH U.vm := State.WarmedH.trans hW0 hW
  have hcl : s.vm.findClass cls = some ce.cls := by
    have h9 := hO.cls
    rw [hvm] at h9
    exact h9
  have hall : s.sameButNew ({ U with vm := s.vm } : State) locs mc ms := by
    subst hA
    obtain ⟨e1, e2⟩ := hsame
    rw [State.setFrames_setFrames] at e1
    have h2 : (T.setVm s.vm).sameButNew ({ U with vm := s.vm } : State) [] (0 + 1) (0 + 6) := ⟨e1, e2⟩
    have h3 := X.same.trans h2
    rw [List.append_nil] at h3
    exact h3.mono hc hs
  refine ⟨U, ?_, .threw T.heap.size, hrun, hend, Or.inr ⟨T.heap.size, rfl, cls, ce, locs, hx U hWs.alike f1 (fun q hq => f2 q hq (fun z hz => nomatch hz)), hce, hO.vm, hcl, hWs, hall, hf⟩⟩
  refine st1 _ ?_
  show Steps p.tables e below (T1.setTop { method := m, pc := pc + 3, locals := ls, stack := .ref T.heap.size :: rest, locked := none }) _
  jvm_step X₁.here [X₁.here.top, hexec, d3', Value.category]
  exact hsteps
/-- 'throw new E("text")': new; dup; ldc; invokespecial; athrow -/
theorem vx_throwS {cc : ByteArray} {pc : Nat} (hexec : p.tables.exec = Jvm.exec) (hb : c.code = cc) (hl : l.stackTraces = false) {own cls text : String} {names : List String} {ik is ic mc ms sa : Nat} {A : Nat → Prop}
    (hown : s.vm.findClass own = some m.cls) (hcls : Bundle.fit cls = true) (hnames : ∀ n ∈ names, Bundle.fit n = true)
    (hk : (Cond.classLink own ik cls).before args s = true) (hini : (Cond.initialized cls).before args s = true) (hstr : vk_R own is text sa s) (hat : ∀ w ∈ vx_atS own ic cls names, w.before args s = true)
    (hgood : ∀ w ∈ Cond.classLink own ik cls :: Cond.initialized cls :: vx_atS own ic cls names, vx_ot w = true)
    (hU : vx_Zq Bundle.tN "UNASSIGNED_STACK" Bundle.steD A s s.heap) (hN : vx_Zq Bundle.tN "SUPPRESSED_SENTINEL" Bundle.listD A s s.heap) (hS : va_S A s.heap H locs) (hsize : ls.size = c.maxLocals)
    (d0 : decode cc pc = .ok (.new ik, 3)) (d3 : decode cc (pc + 3) = .ok (.dup, 1)) (d4 : decode cc (pc + 4) = .ok (.ldc is, 2)) (d6 : decode cc (pc + 6) = .ok (.invokespecial ic, 3)) (d9 : decode cc (pc + 9) = .ok (.athrow, 1))
    (hout : ∀ x ∈ c.exceptionTable.toList, covers x (pc + 9) = false)
    (hRframes : names.length + 3 < R.frames) (hRlocals : (rest.map fun v => v.category).sum + (13 * (names.length + 1) + 43) ≤ R.locals) (hRcells : cells + 1 ≤ R.cells) (hRslots : slots + 6 ≤ R.slots) (hlocks : meth.locks = false)
    (hx : ∀ t : State, s.vm.Alike t.vm → H.size ≤ t.heap.size → (∀ q : Nat, q < H.size → t.heap[q]? = H[q]?) → XC cls s t)
    (hf : ∀ z ∈ locs, free z.base) (hc : cells + 1 ≤ mc) (hs : slots + 6 ≤ ms) :
    W p l e R s m args below meth c H locs cells slots (vx_MQ below Qc XC args s mc ms free) (F0 m pc ls rest) := by
  intro T hT X
  have htr : e.platform.stackTraces = false := (show e.platform.stackTraces = l.stackTraces by rw [X.admits.platform]).trans hl
  have Y := vx_rebase X (R' := { frames := R.frames, locals := R.locals, cells := 1, slots := 6 }) (Nat.le_refl _) (Nat.le_refl _) hRcells hRslots
  obtain ⟨s', hA⟩ : ∃ z, z = (T.setVm s.vm).setFrames (.invoking m args :: below) := ⟨_, rfl⟩
  rw [← hA] at Y
  have hvm : s'.vm = s.vm := by rw [hA]; rfl
  have hhp : s'.heap = H := by rw [hA]; exact hT
  have hW0 : s.WarmedH s'.vm := by rw [hvm]; exact State.WarmedH.refl s
  have hat' : ∀ w ∈ vx_atS own ic cls names, w.before args s' = true := fun w hw => vx_ot_at hW0 hvm.symm (hgood w (List.mem_cons_of_mem _ (List.mem_cons_of_mem _ hw))) (hat w hw)
  have hk' : (Cond.classLink own ik cls).before args s' = true := vx_ot_at hW0 hvm.symm (hgood _ List.mem_cons_self) hk
  have hini' : (Cond.initialized cls).before args s' = true := vx_ot_at hW0 hvm.symm (hgood _ (List.mem_cons_of_mem _ List.mem_cons_self)) hini
  have hU' : vx_Zq Bundle.tN "UNASSIGNED_STACK" Bundle.steD A s' s'.heap := by rw [hhp]; exact vx_Zq.moved hW0.alike (hU.kept hS.2.1)
  have hN' : vx_Zq Bundle.tN "SUPPRESSED_SENTINEL" Bundle.listD A s' s'.heap := by rw [hhp]; exact vx_Zq.moved hW0.alike (hN.kept hS.2.1)
  have h : ∀ w ∈ Bundle.ownAtoms own ic cls names, w.before args s' = true := vx_own hat' (vx_isRefq hU'.1) (vx_isRefq hN'.1) hU'.2.word hN'.2.word
  have hown' : s'.vm.findClass own = some m.cls := by rw [hvm]; exact hown
  have hins : (Cond.instantiable cls 6).before args s' = true := h _ (by simp [Bundle.ownAtoms])
  obtain ⟨vm₁, cX, kX, hfX, hkX, -, -, X₁, st1⟩ := Y.newCold hexec (own := own) (C := cls) (index := ik) (n := 6) hown' hk' hins hini'
    (g := F0 m pc ls rest) rfl (by rw [hb]; exact d0) (Nat.le_refl _) (Nat.le_refl _)
  generalize hT1 : (T.setVm vm₁).pushCell { cls := cX, slots := kX.instanceTypes.map defaultValue, vm := .none } = T1 at X₁ st1
  have hcat : (Value.ref T.heap.size).category = 1 := rfl
  have hcellA : T1.heap[T.heap.size]? = some (freshCell cX kX) := by rw [← hT1]; exact State.heap_pushCell_size _ _
  have d3' : decode c.code (pc + 3) = .ok (.dup, 1) := by rw [hb]; exact d3
  have d4' : decode c.code (pc + 4) = .ok (.ldc is, 2) := by rw [hb]; exact d4
  have hstr' : vk_R own is text sa s' := vk_R.warm hW0 hstr
  obtain ⟨U, hsteps, hrun, hend, hW, hsame, ce, hce, hO⟩ := X₁.ctorThrowS hexec htr (own := own) (cls := cls) (names := names) (ic := ic) hown' hcls hnames h (fun x hx => nomatch hx) hfX hkX hcellA (by rw [hhp, hT]; exact Nat.le_refl _) (msg := .ref sa) rfl
    (g := { method := m, pc := pc + 6, locals := ls, stack := .ref sa :: .ref T.heap.size :: .ref T.heap.size :: rest, locked := none }) rfl hsize rfl rfl (rest := rest) rfl
    (by rw [hb]; exact d6) (by rw [hb]; exact d9) hout hRframes (by simp only [List.map_cons, List.sum_cons, hcat]; omega) hlocks
  obtain ⟨f1, f2⟩ := vx_frame hsame
  rw [hhp] at f1 f2
  have hWs : s.WarmedH U.vm := State.WarmedH.trans hW0 hW
  have hcl : s.vm.findClass cls = some ce.cls := by
    have h9 := hO.cls
    rw [hvm] at h9
    exact h9
  have hall : s.sameButNew ({ U with vm := s.vm } : State) locs mc ms := by
    subst hA
    obtain ⟨e1, e2⟩ := hsame
    rw [State.setFrames_setFrames] at e1
    have h2 : (T.setVm s.vm).sameButNew ({ U with vm := s.vm } : State) [] (0 + 1) (0 + 6) := ⟨e1, e2⟩
    have h3 := X.same.trans h2
    rw [List.append_nil] at h3
    exact h3.mono hc hs
  refine ⟨U, ?_, .threw T.heap.size, hrun, hend, Or.inr ⟨T.heap.size, rfl, cls, ce, locs, hx U hWs.alike f1 (fun q hq => f2 q hq (fun z hz => nomatch hz)), hce, hO.vm, hcl, hWs, hall, hf⟩⟩
  refine st1 _ ?_
  show Steps p.tables e below (T1.setTop { method := m, pc := pc + 3, locals := ls, stack := .ref T.heap.size :: rest, locked := none }) _
  jvm_step X₁.here [X₁.here.top, hexec, d3', Value.category]
  exact X₁.ldcString hexec (own := own) (text := text) (index := is) (a := sa) hown' hstr'.1 hstr'.2
    (g := { method := m, pc := pc + 4, locals := ls, stack := .ref T.heap.size :: .ref T.heap.size :: rest, locked := none }) rfl d4' _ hsteps
/-- 'throw new E("text")', the text by a wide index -/
theorem vx_throwSW {cc : ByteArray} {pc : Nat} (hexec : p.tables.exec = Jvm.exec) (hb : c.code = cc) (hl : l.stackTraces = false) {own cls text : String} {names : List String} {ik is ic mc ms sa : Nat} {A : Nat → Prop}
    (hown : s.vm.findClass own = some m.cls) (hcls : Bundle.fit cls = true) (hnames : ∀ n ∈ names, Bundle.fit n = true)
    (hk : (Cond.classLink own ik cls).before args s = true) (hini : (Cond.initialized cls).before args s = true) (hstr : vk_R own is text sa s) (hat : ∀ w ∈ vx_atS own ic cls names, w.before args s = true)
    (hgood : ∀ w ∈ Cond.classLink own ik cls :: Cond.initialized cls :: vx_atS own ic cls names, vx_ot w = true)
    (hU : vx_Zq Bundle.tN "UNASSIGNED_STACK" Bundle.steD A s s.heap) (hN : vx_Zq Bundle.tN "SUPPRESSED_SENTINEL" Bundle.listD A s s.heap) (hS : va_S A s.heap H locs) (hsize : ls.size = c.maxLocals)
    (d0 : decode cc pc = .ok (.new ik, 3)) (d3 : decode cc (pc + 3) = .ok (.dup, 1)) (d4 : decode cc (pc + 4) = .ok (.ldc_w is, 3)) (d7 : decode cc (pc + 7) = .ok (.invokespecial ic, 3)) (d10 : decode cc (pc + 10) = .ok (.athrow, 1))
    (hout : ∀ x ∈ c.exceptionTable.toList, covers x (pc + 10) = false)
    (hRframes : names.length + 3 < R.frames) (hRlocals : (rest.map fun v => v.category).sum + (13 * (names.length + 1) + 43) ≤ R.locals) (hRcells : cells + 1 ≤ R.cells) (hRslots : slots + 6 ≤ R.slots) (hlocks : meth.locks = false)
    (hx : ∀ t : State, s.vm.Alike t.vm → H.size ≤ t.heap.size → (∀ q : Nat, q < H.size → t.heap[q]? = H[q]?) → XC cls s t)
    (hf : ∀ z ∈ locs, free z.base) (hc : cells + 1 ≤ mc) (hs : slots + 6 ≤ ms) :
    W p l e R s m args below meth c H locs cells slots (vx_MQ below Qc XC args s mc ms free) (F0 m pc ls rest) := by
  intro T hT X
  have htr : e.platform.stackTraces = false := (show e.platform.stackTraces = l.stackTraces by rw [X.admits.platform]).trans hl
  have Y := vx_rebase X (R' := { frames := R.frames, locals := R.locals, cells := 1, slots := 6 }) (Nat.le_refl _) (Nat.le_refl _) hRcells hRslots
  obtain ⟨s', hA⟩ : ∃ z, z = (T.setVm s.vm).setFrames (.invoking m args :: below) := ⟨_, rfl⟩
  rw [← hA] at Y
  have hvm : s'.vm = s.vm := by rw [hA]; rfl
  have hhp : s'.heap = H := by rw [hA]; exact hT
  have hW0 : s.WarmedH s'.vm := by rw [hvm]; exact State.WarmedH.refl s
  have hat' : ∀ w ∈ vx_atS own ic cls names, w.before args s' = true := fun w hw => vx_ot_at hW0 hvm.symm (hgood w (List.mem_cons_of_mem _ (List.mem_cons_of_mem _ hw))) (hat w hw)
  have hk' : (Cond.classLink own ik cls).before args s' = true := vx_ot_at hW0 hvm.symm (hgood _ List.mem_cons_self) hk
  have hini' : (Cond.initialized cls).before args s' = true := vx_ot_at hW0 hvm.symm (hgood _ (List.mem_cons_of_mem _ List.mem_cons_self)) hini
  have hU' : vx_Zq Bundle.tN "UNASSIGNED_STACK" Bundle.steD A s' s'.heap := by rw [hhp]; exact vx_Zq.moved hW0.alike (hU.kept hS.2.1)
  have hN' : vx_Zq Bundle.tN "SUPPRESSED_SENTINEL" Bundle.listD A s' s'.heap := by rw [hhp]; exact vx_Zq.moved hW0.alike (hN.kept hS.2.1)
  have h : ∀ w ∈ Bundle.ownAtoms own ic cls names, w.before args s' = true := vx_own hat' (vx_isRefq hU'.1) (vx_isRefq hN'.1) hU'.2.word hN'.2.word
  have hown' : s'.vm.findClass own = some m.cls := by rw [hvm]; exact hown
  have hins : (Cond.instantiable cls 6).before args s' = true := h _ (by simp [Bundle.ownAtoms])
  obtain ⟨vm₁, cX, kX, hfX, hkX, -, -, X₁, st1⟩ := Y.newCold hexec (own := own) (C := cls) (index := ik) (n := 6) hown' hk' hins hini'
    (g := F0 m pc ls rest) rfl (by rw [hb]; exact d0) (Nat.le_refl _) (Nat.le_refl _)
  generalize hT1 : (T.setVm vm₁).pushCell { cls := cX, slots := kX.instanceTypes.map defaultValue, vm := .none } = T1 at X₁ st1
  have hcat : (Value.ref T.heap.size).category = 1 := rfl
  have hcellA : T1.heap[T.heap.size]? = some (freshCell cX kX) := by rw [← hT1]; exact State.heap_pushCell_size _ _
  have d3' : decode c.code (pc + 3) = .ok (.dup, 1) := by rw [hb]; exact d3
  have d4' : decode c.code (pc + 4) = .ok (.ldc_w is, 3) := by rw [hb]; exact d4
  have hstr' : vk_R own is text sa s' := vk_R.warm hW0 hstr
  obtain ⟨U, hsteps, hrun, hend, hW, hsame, ce, hce, hO⟩ := X₁.ctorThrowS hexec htr (own := own) (cls := cls) (names := names) (ic := ic) hown' hcls hnames h (fun x hx => nomatch hx) hfX hkX hcellA (by rw [hhp, hT]; exact Nat.le_refl _) (msg := .ref sa) rfl
    (g := { method := m, pc := pc + 7, locals := ls, stack := .ref sa :: .ref T.heap.size :: .ref T.heap.size :: rest, locked := none }) rfl hsize rfl rfl (rest := rest) rfl
    (by rw [hb]; exact d7) (by rw [hb]; exact d10) hout hRframes (by simp only [List.map_cons, List.sum_cons, hcat]; omega) hlocks
  obtain ⟨f1, f2⟩ := vx_frame hsame
  rw [hhp] at f1 f2
  have hWs : s.WarmedH U.vm := State.WarmedH.trans hW0 hW
  have hcl : s.vm.findClass cls = some ce.cls := by
    have h9 := hO.cls
    rw [hvm] at h9
    exact h9
  have hall : s.sameButNew ({ U with vm := s.vm } : State) locs mc ms := by
    subst hA
    obtain ⟨e1, e2⟩ := hsame
    rw [State.setFrames_setFrames] at e1
    have h2 : (T.setVm s.vm).sameButNew ({ U with vm := s.vm } : State) [] (0 + 1) (0 + 6) := ⟨e1, e2⟩
    have h3 := X.same.trans h2
    rw [List.append_nil] at h3
    exact h3.mono hc hs
  refine ⟨U, ?_, .threw T.heap.size, hrun, hend, Or.inr ⟨T.heap.size, rfl, cls, ce, locs, hx U hWs.alike f1 (fun q hq => f2 q hq (fun z hz => nomatch hz)), hce, hO.vm, hcl, hWs, hall, hf⟩⟩
  refine st1 _ ?_
  show Steps p.tables e below (T1.setTop { method := m, pc := pc + 3, locals := ls, stack := .ref T.heap.size :: rest, locked := none }) _
  jvm_step X₁.here [X₁.here.top, hexec, d3', Value.category]
  exact X₁.ldcStringW hexec (own := own) (text := text) (index := is) (a := sa) hown' hstr'.1 hstr'.2
    (g := { method := m, pc := pc + 4, locals := ls, stack := .ref T.heap.size :: .ref T.heap.size :: rest, locked := none }) rfl d4' _ hsteps
end Ends
section Bodies
variable {l : Launch}
theorem vx_ofW {y : MethodName} {ws ws' : List Cond} {rm : Room} {Pc : Array Value → State → Prop} {Qc : Array Value → State → Outcome → State → Prop} {XC : String → State → State → Prop} {mc ms : Nat} {free : Addr → Prop} {cc : ByteArray} {maxL : Nat} {ret : Option FieldType}
    (hy : plainName y.cls = true) (hw : ws = Cond.code y cc maxL ret :: ws')
    (body : ∀ p e s m args below meth c s₁, BodyLoose p l y (headSpec ws rm) cc maxL ret e s m args below meth c s₁ → c.maxLocals = maxL → (∀ x ∈ c.exceptionTable.toList, False) → Pc args s →
      W p l e (headSpec ws rm).room s m args below meth c s.heap [] 0 0 (vx_MQ below Qc XC args s mc ms free) (entryFrame m args maxL)) : vx_Met l y ws rm Pc Qc XC mc ms free := by
  refine MetFree.of_bodyS (code := cc) (maxLocals := maxL) (ret := ret) hy ?_ ?_
  · intro args s m h hn
    obtain ⟨meth, c, h1, h2, h3, h4, h5, h6, -, -⟩ := Cond.code_spec hn (atoms_spec (ws := ws) h _ (by rw [hw]; exact List.mem_cons_self))
    exact ⟨meth, c, h1, h2, h3, h4, h5, h6⟩
  · intro p e s m args below meth c s₁ B hml hP _
    have hh0 : s₁.heap = s.heap := by rw [B.state]; rfl
    have ht : ∀ x ∈ c.exceptionTable.toList, False := by
      obtain ⟨meth9, c9, h1, h2, -, -, -, -, h7, -⟩ := Cond.code_spec B.named (atoms_spec (ws := ws) B.pre _ (by rw [hw]; exact List.mem_cons_self))
      cases Option.some.inj (h1.symm.trans B.method)
      cases Option.some.inj (h2.symm.trans (Stand.of_body B).code)
      intro x hx
      rw [Array.isEmpty_iff.mp h7] at hx
      cases hx
    obtain ⟨t, a1, o, b1, b2, b3⟩ := body p e s m args below meth c s₁ B hml ht hP s₁ hh0 (Stand.of_body B)
    exact ⟨t, o, a1, b1, b2, b3⟩
/-- the table of a body with handlers -/
theorem vx_table {p : Program} {x y : MethodName} {S : Spec} {cc bytes : ByteArray} {maxL maxL' : Nat} {ret ret' : Option FieldType} {e : Env} {s s₁ : State} {m : MethodId} {args : Array Value} {below : List Frame} {meth : Method} {c : Code} {hh : List (Nat × Nat × Nat × Nat)}
    (B : BodyLoose p l y S cc maxL ret e s m args below meth c s₁) (h : (Cond.codeWith y bytes maxL' ret' hh).before args s = true) : c.exceptionTable.toList = tableOf hh := by
  obtain ⟨m9, meth9, c9, hn9, h1, h2, -, -, h6, -⟩ := Cond.codeWith_spec h
  cases Option.some.inj (hn9.symm.trans B.named)
  cases Option.some.inj (h1.symm.trans B.method)
  cases Option.some.inj (h2.symm.trans (Stand.of_body B).code)
  rw [← h6, table_eq]
end Bodies
end VXA
/-! ===== END ===== -/
/-! ===== BEGIN a static call of a method with an exception table ===== -/
section VXS
variable {p : Program} {l : Launch} {e : Env} {R : Room} {s : State} {m : MethodId} {args : Array Value} {below : List Frame} {meth : Method} {c : Code} {T : State} {H : Heap} {locs : List Loc} {cells slots : Nat}
abbrev vx_CSW (R : Room) (s : State) (args : Array Value) (own : String) (index : Nat) (y : MethodName) (bytes : ByteArray) (maxL : Nat) (ret : Option FieldType) (hh : List (Nat × Nat × Nat × Nat)) (ws : List Cond) (rm : Room) (mc ms n : Nat) : Prop :=
  (rm.cells = mc ∧ rm.slots = ms ∧ rm.frames + 1 ≤ R.frames ∧ 8 + (maxL + 11) + rm.locals ≤ R.locals ∧ (∀ w ∈ ws, ∀ (a' : Array Value) (U : State), s.WarmedH U.vm → w.before a' U = true) ∧ Cond.codeWith y bytes maxL ret hh ∈ ws) ∧
  (Cond.codeWith y bytes maxL ret hh).before args s = true ∧ (Cond.initialized y.cls).before args s = true ∧ (y.cls ≠ "java/lang/invoke/MethodHandle" ∧ y.cls ≠ "java/lang/invoke/VarHandle") ∧
  (∀ sig, parseMethodDescriptor y.desc = some sig → n = sig.parameters.length) ∧ (Cond.methodLink own index y).before args s = true ∧ (Cond.static y).before args s = true
theorem vx_cwSW {own : String} {index maxL mc ms : Nat} {y : MethodName} {bytes : ByteArray} {ret : Option FieldType} {hh : List (Nat × Nat × Nat × Nat)} {Ts ws ws' : List Cond} {rm : Room} (n : Nat) (ht : ∀ w ∈ Ts, w.before args s = true) (hT : GoodIn Ts (va_wsS own index y ws)) (hw : ws = Cond.codeWith y bytes maxL ret hh :: ws') (hrc : rm.cells = mc) (hrs : rm.slots = ms)
    (hd : y.cls ≠ "java/lang/invoke/MethodHandle" ∧ y.cls ≠ "java/lang/invoke/VarHandle" ∧ (parseMethodDescriptor y.desc).map (fun d => d.parameters.length) = some n) (hR : rm.frames + 1 ≤ R.frames ∧ 8 + (maxL + 11) + rm.locals ≤ R.locals) :
    vx_CSW R s args own index y bytes maxL ret hh ws rm mc ms n := by
  have ok : ∀ w ∈ va_wsS own index y ws, w.before args s = true := fun w h => ht w (hT w h).1
  have hG : GoodIn Ts ws := fun w h => hT w (by unfold va_wsS; exact List.mem_append_right _ h)
  have hc : Cond.codeWith y bytes maxL ret hh ∈ ws := by rw [hw]; exact List.mem_cons_self
  refine ⟨⟨hrc, hrs, hR.1, hR.2, pay_in ht hG, hc⟩, ht _ (hG _ hc).1, ok _ (by simp [va_wsS]), ⟨hd.1, hd.2.1⟩, fun sig h => ?_, ok _ (by simp [va_wsS]), ok _ (by simp [va_wsS])⟩
  have h2 := hd.2.2
  rw [h] at h2
  exact (Option.some.inj h2).symm
theorem vx_callSW (X : Stand p l e R s m args below meth c T locs cells slots) (hexec : p.tables.exec = Jvm.exec) {own : String} {index : Nat} {y : MethodName} {bytes : ByteArray} {maxL : Nat} {ret : Option FieldType} {hh : List (Nat × Nat × Nat × Nat)}
    (hown : s.vm.findClass own = some m.cls) (hlink : (Cond.methodLink own index y).before args s = true) (hstat : (Cond.static y).before args s = true) (hinit : (Cond.initialized y.cls).before args s = true)
    (hcode : (Cond.codeWith y bytes maxL ret hh).before args s = true) (hy : y.cls ≠ "java/lang/invoke/MethodHandle" ∧ y.cls ≠ "java/lang/invoke/VarHandle")
    {W9 : Nat} {Pre : Pt → Array Value → Prop} {Post : Pt → Array Value → Option Value → Pt → Prop} (hK : Back l R p e below s args y 3 W9 Pre Post)
    {g : JFrame} (hg : g.method = m) (hsize : g.locals.size = c.maxLocals) {argsL rest : List Value} (hlen : ∀ sig, parseMethodDescriptor y.desc = some sig → argsL.length = sig.parameters.length)
    (hstack : g.stack = argsL.reverse ++ rest) (hW : 2 * g.monitorRoom + (rest.map fun v => v.category).sum ≤ W9) (hdg : decode c.code g.pc = .ok (.invokestatic index, 3))
    (hpre : ∀ vm₁, s.WarmedH vm₁ → Pre ⟨T.setVm vm₁, locs, cells, slots⟩ argsL.toArray) :
    ∃ (v : Option Value) (vm₁ : Vm) (B : Pt), s.WarmedH vm₁ ∧ Stand p l e R s m args below meth c B.U B.locs B.cells B.slots ∧ Post ⟨T.setVm vm₁, locs, cells, slots⟩ argsL.toArray v B ∧
      ∀ target, Steps p.tables e below (B.U.setTop { g with pc := g.pc + 3, stack := v.toList ++ rest }) target → Steps p.tables e below (T.setTop g) target := by
  obtain ⟨mk, methM, cM, hnamed, hmethM, -, -, -, -, -, -, hsigM⟩ := Cond.codeWith_spec hcode
  have hstatic : methM.isStatic = true := Cond.static_spec hnamed hmethM hstat
  obtain ⟨kP, hkP, -⟩ := className_of_methodNamed hnamed
  have hinitP : kP.init = .initialized := Cond.initialized_spec (findClass_of_methodNamed hnamed) hkP hinit
  obtain ⟨vm₁, X₁, hstep₁⟩ := X.invokestatic hexec hown hlink hnamed hmethM hstatic hkP hinitP hy (g := g) hg (argsL := argsL) (rest := rest) (hlen _ hsigM) hstack hdg
  obtain ⟨v, B, X', hpost, hsteps⟩ := hK m meth c ⟨T.setVm vm₁, locs, cells, slots⟩ { g with stack := rest } (.invokestatic index) mk argsL.toArray X₁ hg hsize hdg hW (X₁.named hnamed) (hpre vm₁ X₁.warmed)
  exact ⟨v, vm₁, B, X₁.warmed, X', hpost, fun target h => hstep₁ _ fun acts => by rw [doInvoke_state]; exact hsteps.trans h⟩
theorem vx_runSW {y : MethodName} {bytes cc : ByteArray} {maxL nL mc ms n index : Nat} {ret : Option FieldType} {hh : List (Nat × Nat × Nat × Nat)} {ws : List Cond} {rm : Room} {Pc : Array Value → State → Prop} {Qc : Array Value → State → Outcome → State → Prop} {free : Addr → Prop} {Ts : List Cond} {own : String} {As rest : List Value} {g : JFrame}
    (S : CallFix p m c cc nL s args Ts own) (hM : Met l y ws rm Pc Qc mc ms free) (cw : vx_CSW R s args own index y bytes maxL ret hh ws rm mc ms n) (hp : PreS s H Pc As)
    (hg : g.method = m) (hn : As.length = n) (hsize : g.locals.size = nL) (hstack : g.stack = As.reverse ++ rest) (hW : 2 * g.monitorRoom + (rest.map fun v => v.category).sum ≤ 8) (hdg : decode cc g.pc = .ok (.invokestatic index, 3)) (hf : cells + mc ≤ R.cells ∧ slots + ms ≤ R.slots) :
    va_Run p l e R s m args below meth c H locs cells slots mc ms g rest (Qc As.toArray) (free) := by
  obtain ⟨⟨hrc, hrs, hfr, hlo, hws, hcw⟩, hcode, hini, hy, hlen, hl, hstt⟩ := cw
  have hK : Back l R p e below s args y 3 8 (PreOf R mc ms Pc) (PostOf Qc mc ms free) := va_backW (hh := hh) (bytes := bytes) (maxL := maxL) (ret := ret) hM hp.1 hrc hrs hfr hlo hws hcw (fun a' U hW => word_at hW (Or.inl (by first | rfl | simp [Cond.onTables, Cond.keeps, Cond.steady])) hini)
  obtain ⟨hx, hb, hml, ho, -⟩ := S
  intro T hT X
  obtain ⟨v, vm₁, ⟨U', l2, c2, s2⟩, hW₁, X', ⟨g', mk, t, L, e1, e2, hq, h1, hL, h2, h3⟩, st⟩ := vx_callSW X hx (hh := hh) (bytes := bytes) (maxL := maxL) (ret := ret) ho hl hstt hini hcode hy hK hg (hsize.trans hml.symm) (argsL := As) (rest := rest) (fun sig h => hn.trans (hlen sig h)) hstack hW (by rw [hb]; exact hdg)
    (fun vm₁ hW₁ => ⟨hf.1, hf.2, hp.2 (T.setVm vm₁) hT hW₁⟩)
  dsimp only [Pt.U, Pt.locs, Pt.cells, Pt.slots] at X' e1 e2 h1 h2 h3 st
  subst h1; subst h2; subst h3
  exact ⟨v, (T.setVm vm₁).calling g' mk As.toArray, t, U', L, hT, X', hL, e1, e2, hq, st⟩
/-- not caught here, past rows that name other classes: it goes on to the caller -/
theorem vx_outP {p : Program} {l : Launch} {e : Env} {R : Room} {s : State} {m : MethodId} {args : Array Value} {below : List Frame} {meth : Method} {c : Code} {H : Heap} {locs : List Loc} {cells slots : Nat} {free : Addr → Prop} {ls : Array Slot} {rest : List Value} {Qc : Array Value → State → Outcome → State → Prop} {XC : String → State → State → Prop}
    {pc : Nat} {own E : String} {ce : Cell} {q : Addr} {mc ms : Nat} (hown : s.vm.findClass own = some m.cls) (hlocks : meth.locks = false)
    (hpass : ∀ z ∈ c.exceptionTable.toList, covers z pc = false ∨ (z.catchType ≠ 0 ∧ ∃ nm : String, (Cond.classLink own z.catchType nm).before args s = true ∧ va_Nc E nm s)) (hcell : H[q]? = some ce) (hv : ce.vm = .none) (hcl : s.vm.findClass E = some ce.cls)
    (hx : ∀ t : State, t.heap = H → s.vm.Alike t.vm → XC E s t) (hf : ∀ z ∈ locs, free z.base) (hc : cells ≤ mc) (hs : slots ≤ ms) :
    vx_W p l e R s m args below meth c H locs cells slots (vx_MQ below Qc XC args s mc ms free) (F0 m pc ls rest) q := by
  intro T hT X
  have hpl : e.platform.magicAccessors = ({} : Platform).magicAccessors := by rw [X.admits.platform]
  obtain ⟨vm', hW', X', st⟩ := X.outThrough hlocks q (g := F0 m pc ls rest) rfl rfl rfl (cell := ce) (by rw [hT]; exact hcell) (by rw [hv]; rfl)
    (by obtain ⟨k9, h9, -⟩ := Vm.findClass_spec hcl; exact ⟨k9, h9⟩) (fun z hz => by
      rcases hpass z hz with h | ⟨hz0, nm, hl1, hn1⟩
      · exact Or.inl h
      · obtain ⟨c6, hc6, hcl6⟩ := Cond.classLink_spec hown hl1 e.platform hpl
        obtain ⟨a8, b8, h1, h2, h3⟩ := hn1
        cases Option.some.inj (h1.symm.trans hcl)
        cases Option.some.inj (h2.symm.trans hc6)
        exact Or.inr ⟨hz0, _, hcl6, h3⟩)
  obtain ⟨g₀, hfr⟩ := X'.frames_eq
  have hcell9 : ((T.setVm vm').setFrames (.throwing q :: below)).heap[q]? = some ce := by
    show T.heap[q]? = some ce
    rw [hT]; exact hcell
  have hend : Ended ((T.setVm vm').setFrames (.throwing q :: below)) below (.threw q) := State.frames_setFrames _ (State.cur_lt_of_frames hfr)
  refine ⟨(T.setVm vm').setFrames (.throwing q :: below), ?_, .threw q, X'.here.running, hend, Or.inr ⟨q, rfl, E, ce, locs, hx _ hT (X'.ends _).1.alike, hcell9, hv, hcl, (X'.ends _).1, (X'.ends _).2.mono hc hs, hf⟩⟩
  rw [X.pushThrowing_eq]
  exact st
/-- a thing of a world lies in the heap -/
theorem vx_lt {D : va_G} {cl : List vw_C} {ws : va_W} {H1 : Heap} (h : va_P D cl ws H1) {k : Nat} {q : Nat × va_E} (hk : ws[k]? = some q) : q.1 < H1.size := (h k q hk).lt
end VXS
/-! ===== END ===== -/
/-! ===== BEGIN methods with a table of their own: called by a name, returning or throwing ===== -/
section VXH
/-! vx_backW, vx_callVX, vx_callSX, vx_callVW, vx_runVW, vx_runVX, vx_runSX, vx_ofWH follow the same proofs as their sisters above (Free/Laws.lean, Shelf42/LK1.lean); vx_outP calls Shelf42/NT130.lean (outThrough). -/
section
variable {l : Launch} {R : Room} {p : Program} {e : Env} {below : List Frame} {s : State} {sargs : Array Value} {y : MethodName} {len W9 : Nat}
theorem vx_backW {ws : List Cond} {rm : Room} {Pc : Array Value → State → Prop} {Qc : Array Value → State → Outcome → State → Prop} {XC : String → State → State → Prop} {mc ms : Nat} {free : Addr → Prop} {bytes : ByteArray} {maxL : Nat} {ret : Option FieldType} {hh : List (Nat × Nat × Nat × Nat)}
    (hM : vx_Met l y ws rm Pc Qc XC mc ms free) (hblind : FrameBlind Pc) (hrc : rm.cells = mc) (hrs : rm.slots = ms)
    (hframes : rm.frames + 1 ≤ R.frames) (hlocals : W9 + (maxL + 11) + rm.locals ≤ R.locals)
    (hws : ∀ w ∈ ws, ∀ a' U, s.WarmedH U.vm → w.before a' U = true) (hcode : Cond.codeWith y bytes maxL ret hh ∈ ws) (hinit : ∀ a' U, s.WarmedH U.vm → (Cond.initialized y.cls).before a' U = true) :
    vx_Back l R p e below s sargs y len W9 (PreOf R mc ms Pc) (PostOf Qc mc ms free) (vx_Post XC mc ms free) := by
  intro m meth c A g ig mk a X hg hsize hdg hW hn hp
  have h1 : (headSpec ws rm).pre.before a A.U = true := atoms_intro fun w hw => hws w hw _ _ X.warmed
  have h2 : (Cond.codeWith y bytes maxL ret hh).before a A.U = true := hws _ hcode _ _ X.warmed
  have h3 : (Cond.initialized y.cls).before a A.U = true := hinit _ _ X.warmed
  have h4 : A.cells + (headSpec ws rm).room.cells ≤ R.cells := by rw [show (headSpec ws rm).room.cells = mc from hrc]; exact hp.1
  have h5 : A.slots + (headSpec ws rm).room.slots ≤ R.slots := by rw [show (headSpec ws rm).room.slots = ms from hrs]; exact hp.2.1
  have hPc : Pc a (A.U.calling g mk a) := hblind _ _ _ _ hp.2.2
  obtain ⟨U, Ls, c0, s0⟩ := A
  dsimp only [Pt.U, Pt.locs, Pt.cells, Pt.slots] at h1 h2 h3 h4 h5 X hn hPc ⊢
  obtain ⟨m9, methY, cY, hn9, hmY, hcY, -, hlY, -⟩ := Cond.codeWith_spec h2
  cases Option.some.inj (hn9.symm.trans hn)
  obtain ⟨kY, hkY, -⟩ := className_of_methodNamed hn
  have hinitY : kY.init = .initialized := Cond.initialized_spec (findClass_of_methodNamed hn) hkY h3
  have h : At U g.method c below := by rw [hg]; exact X.here
  have hlocals9 : W9 + (maxL + 11) + (headSpec ws rm).room.locals ≤ R.locals := hlocals
  have happ : (headSpec ws rm).appliesLoose y e.platform (U.calling g mk a) = true :=
    Spec.appliesLoose_calling (g := g) h hdg hn hkY hinitY
      (X.room_calling (g := g) (R' := (headSpec ws rm).room) hsize hmY hcY hframes (by rw [hlY]; omega) h4 h5) h1
  obtain ⟨mid, hmid⟩ := h.above
  have hfr : (U.setTop g).frames = (.java g :: mid) ++ below := by rw [State.frames_setTop' g h.top, hmid]; rfl
  obtain ⟨o, s₂, hsteps, -, hend, hq⟩ := Steps.callFree hM p X.admits X.cas X.clock (acts := []) hfr happ hPc trivial
  have hq' : vx_Q Qc XC mc ms free a (U.calling g mk a) o s₂ := hq
  rw [State.frames_setTop' g h.top] at hend
  obtain ⟨g₀, hg0⟩ := Option.isSome_iff_exists.mp h.top
  obtain ⟨r, hr⟩ := State.topJava?_eq_some.mp hg0
  have hr' : (({ U with heap := s₂.heap, slotsUsed := s₂.slotsUsed } : State).setVm s₂.vm).frames = .java g₀ :: r := hr
  rcases hq' with ⟨hqc, L, hfe, hL⟩ | ⟨q, rfl, E, ce, L, hx, hce, hcv, hcl, hW₂, hsm, hL⟩
  · obtain ⟨⟨v, rfl⟩, hW₂, e2, q2, q3, q4, q5, q6⟩ := id hfe
    have e3 : s₂ = ({ (U.calling g mk a).setFrames s₂.frames with heap := s₂.heap, slotsUsed := s₂.slotsUsed } : State).setVm s₂.vm := by
      have : s₂ = ({ s₂ with vm := (U.calling g mk a).vm } : State).setVm s₂.vm := rfl
      rw [e2] at this
      exact this
    obtain ⟨c₂, i₂, len₂, hc₂, hd₂, hf₂⟩ := hend
    have hW' : U.WarmedH s₂.vm := hW₂
    have hcc : c₂ = c := by
      have h1 : s₂.code? g.method = U.code? g.method := by
        rw [State.code?_eq, State.code?_eq, hW'.alike.method?]
      exact Option.some.inj (hc₂.symm.trans (h1.trans h.code))
    subst hcc
    have hlen : len₂ = len := by rw [hdg] at hd₂; cases hd₂; rfl
    subst hlen
    have hs₂ : s₂ = (({ U with heap := s₂.heap, slotsUsed := s₂.slotsUsed } : State).setVm s₂.vm).setTop { g with pc := g.pc + len₂, stack := v.toList ++ g.stack } := by
      refine e3.trans ?_
      rw [hf₂, State.calling_eq h.top, State.setFrames_setFrames, State.setTop_of_frames _ hr', hr]
      rfl
    have hsame : U.sameButNew ({ U with heap := s₂.heap, slotsUsed := s₂.slotsUsed } : State) L mc ms := by
      refine ⟨?_, q2, q3, q4, q5, q6⟩
      obtain ⟨t, ht, -⟩ := State.frames_cons hr
      show ({ U with heap := s₂.heap, slotsUsed := s₂.slotsUsed } : State) = { U.setFrames U.frames with heap := s₂.heap, slotsUsed := s₂.slotsUsed }
      rw [State.setFrames_self ht]
    subst hg
    refine Or.inl ⟨v, ⟨(({ U with heap := s₂.heap, slotsUsed := s₂.slotsUsed } : State).setVm s₂.vm), Ls ++ L, c0 + mc, s0 + ms⟩,
      ⟨X.admits, X.cas, X.clock, X.frames, X.room, X.hears, X.method, X.code, (X.here.setHeapUsed s₂.heap s₂.slotsUsed).setVm hW'.alike, X.tail, State.WarmedH.trans X.warmed hW', X.limits, X.bytes, X.same.trans (hsame.setVm s.vm)⟩,
      ⟨g, mk, s₂, L, rfl, rfl, hqc, rfl, hL, rfl, rfl⟩, ?_⟩
    show Steps p.tables e below _ ((({ U with heap := s₂.heap, slotsUsed := s₂.slotsUsed } : State).setVm s₂.vm).setTop { g with pc := g.pc + len₂, stack := v.toList ++ g.stack })
    rw [← hs₂]
    exact hsteps
  · obtain ⟨e2, q2, q3, q4, q5, q6⟩ := id hsm
    have e3 : s₂ = ({ (U.calling g mk a).setFrames s₂.frames with heap := s₂.heap, slotsUsed := s₂.slotsUsed } : State).setVm s₂.vm := by
      have : s₂ = ({ s₂ with vm := (U.calling g mk a).vm } : State).setVm s₂.vm := rfl
      rw [e2] at this
      exact this
    have hf₂ : s₂.frames = .throwing q :: .java g :: U.frames.tail := hend
    have hW' : U.WarmedH s₂.vm := hW₂
    have hs₂ : s₂ = ((({ U with heap := s₂.heap, slotsUsed := s₂.slotsUsed } : State).setVm s₂.vm).setTop g).pushFrame (.throwing q) := by
      refine e3.trans ?_
      rw [hf₂, State.calling_eq h.top, State.setFrames_setFrames, State.pushFrame, State.frames_setTop _ hr', State.setTop_of_frames _ hr', State.setFrames_setFrames, hr]
      rfl
    have hsame : U.sameButNew ({ U with heap := s₂.heap, slotsUsed := s₂.slotsUsed } : State) L mc ms := by
      refine ⟨?_, q2, q3, q4, q5, q6⟩
      obtain ⟨t, ht, -⟩ := State.frames_cons hr
      show ({ U with heap := s₂.heap, slotsUsed := s₂.slotsUsed } : State) = { U.setFrames U.frames with heap := s₂.heap, slotsUsed := s₂.slotsUsed }
      rw [State.setFrames_self ht]
    subst hg
    refine Or.inr ⟨q, ⟨(({ U with heap := s₂.heap, slotsUsed := s₂.slotsUsed } : State).setVm s₂.vm), Ls ++ L, c0 + mc, s0 + ms⟩,
      ⟨X.admits, X.cas, X.clock, X.frames, X.room, X.hears, X.method, X.code, (X.here.setHeapUsed s₂.heap s₂.slotsUsed).setVm hW'.alike, X.tail, State.WarmedH.trans X.warmed hW', X.limits, X.bytes, X.same.trans (hsame.setVm s.vm)⟩,
      ⟨g, mk, s₂, L, E, ce, rfl, rfl, hx, hce, hcv, hcl, rfl, hL, rfl, rfl⟩, ?_⟩
    show Steps p.tables e below _ (((({ U with heap := s₂.heap, slotsUsed := s₂.slotsUsed } : State).setVm s₂.vm).setTop g).pushFrame (.throwing q))
    rw [← hs₂]
    exact hsteps
end
variable {p : Program} {l : Launch} {e : Env} {R : Room} {s : State} {m : MethodId} {args : Array Value} {below : List Frame} {meth : Method} {c : Code} {T : State} {H : Heap} {locs : List Loc} {cells slots : Nat}
theorem vx_callVX (X : Stand p l e R s m args below meth c T locs cells slots) (hexec : p.tables.exec = Jvm.exec) {own C : String} {index : Nat} {y : MethodName} {bytes : ByteArray} {maxL : Nat} {ret : Option FieldType} {hh : List (Nat × Nat × Nat × Nat)}
    (hown : s.vm.findClass own = some m.cls) (hlink : (Cond.methodLink own index y).before args s = true) (hinst : (Cond.instanceMethod y).before args s = true) (hsel : (Cond.selects C y y).before args s = true)
    (hcode : (Cond.codeWith y bytes maxL ret hh).before args s = true) (hy : y.cls ≠ "java/lang/invoke/MethodHandle" ∧ y.cls ≠ "java/lang/invoke/VarHandle")
    {W9 : Nat} {Pre : Pt → Array Value → Prop} {Post : Pt → Array Value → Option Value → Pt → Prop} {PostX : Pt → Array Value → Addr → Pt → Prop} (hK : vx_Back l R p e below s args y 3 W9 Pre Post PostX)
    {b : Addr} {cellB : Cell} (hcell : T.heap[b]? = some cellB) (hobj : cellB.vm.isStatics = false) (hcls : s.vm.findClass C = some cellB.cls)
    {g : JFrame} (hg : g.method = m) (hsize : g.locals.size = c.maxLocals) {argsL rest : List Value} (hlen : ∀ sig, parseMethodDescriptor y.desc = some sig → argsL.length = sig.parameters.length)
    (hstack : g.stack = argsL.reverse ++ .ref b :: rest) (hW : 2 * g.monitorRoom + (rest.map fun v => v.category).sum ≤ W9) (hdg : decode c.code g.pc = .ok (.invokevirtual index, 3))
    (hpre : ∀ vm₁, s.WarmedH vm₁ → Pre ⟨T.setVm vm₁, locs, cells, slots⟩ (Value.ref b :: argsL).toArray) :
    (∃ (v : Option Value) (vm₁ : Vm) (B : Pt), s.WarmedH vm₁ ∧ Stand p l e R s m args below meth c B.U B.locs B.cells B.slots ∧ Post ⟨T.setVm vm₁, locs, cells, slots⟩ (Value.ref b :: argsL).toArray v B ∧
      ∀ target, Steps p.tables e below (B.U.setTop { g with pc := g.pc + 3, stack := v.toList ++ rest }) target → Steps p.tables e below (T.setTop g) target) ∨
    (∃ (q : Addr) (vm₁ : Vm) (B : Pt), s.WarmedH vm₁ ∧ Stand p l e R s m args below meth c B.U B.locs B.cells B.slots ∧ PostX ⟨T.setVm vm₁, locs, cells, slots⟩ (Value.ref b :: argsL).toArray q B ∧
      Steps p.tables e below (T.setTop g) ((B.U.setTop { g with stack := rest }).pushFrame (.throwing q))) := by
  obtain ⟨mk, methM, hnamed, hmethM, hstM, habM⟩ := Cond.instanceMethod_spec hinst
  obtain ⟨m8, methM', cM, hn8, hmethM', -, -, -, -, -, -, hsigM⟩ := Cond.codeWith_spec hcode
  cases Option.some.inj (hn8.symm.trans hnamed)
  cases hmethM.symm.trans hmethM'
  obtain ⟨c2, r2, m2, q1, q2, q3, q4, kP, hkP, hkPi⟩ := Cond.selects_spec hsel
  cases hcls.symm.trans q1
  cases (State.methodFound?_of_named hnamed hy).symm.trans q2
  cases hnamed.symm.trans q3
  have hselP : selectMethod e.platform s.vm cellB.cls mk = .method mk := by rw [Launch.admits_selectMethod X.admits]; exact q4
  obtain ⟨vm₁, X₁, hstep₁⟩ := X.invokevirtual hexec hown hlink hnamed hmethM hstM hkP hkPi hy (a := b) (cell := cellB) hcell
    (fun z h => by rw [h] at hobj; cases hobj) hselP hmethM habM hkP hkPi (g := g) hg (argsL := argsL) (rest := rest) (hlen _ hsigM) hstack hdg
  rcases hK m meth c ⟨T.setVm vm₁, locs, cells, slots⟩ { g with stack := rest } (.invokevirtual index) mk (Value.ref b :: argsL).toArray X₁ hg hsize hdg hW (X₁.named hnamed) (hpre vm₁ X₁.warmed) with ⟨v, B, X', hpost, hsteps⟩ | ⟨q, B, X', hpost, hsteps⟩
  · exact Or.inl ⟨v, vm₁, B, X₁.warmed, X', hpost, fun target h => hstep₁ _ fun acts => by rw [doInvoke_state]; exact hsteps.trans h⟩
  · exact Or.inr ⟨q, vm₁, B, X₁.warmed, X', hpost, hstep₁ _ fun acts => by rw [doInvoke_state]; exact hsteps⟩
theorem vx_callSX (X : Stand p l e R s m args below meth c T locs cells slots) (hexec : p.tables.exec = Jvm.exec) {own : String} {index : Nat} {y : MethodName} {bytes : ByteArray} {maxL : Nat} {ret : Option FieldType} {hh : List (Nat × Nat × Nat × Nat)}
    (hown : s.vm.findClass own = some m.cls) (hlink : (Cond.methodLink own index y).before args s = true) (hstat : (Cond.static y).before args s = true) (hinit : (Cond.initialized y.cls).before args s = true)
    (hcode : (Cond.codeWith y bytes maxL ret hh).before args s = true) (hy : y.cls ≠ "java/lang/invoke/MethodHandle" ∧ y.cls ≠ "java/lang/invoke/VarHandle")
    {W9 : Nat} {Pre : Pt → Array Value → Prop} {Post : Pt → Array Value → Option Value → Pt → Prop} {PostX : Pt → Array Value → Addr → Pt → Prop} (hK : vx_Back l R p e below s args y 3 W9 Pre Post PostX)
    {g : JFrame} (hg : g.method = m) (hsize : g.locals.size = c.maxLocals) {argsL rest : List Value} (hlen : ∀ sig, parseMethodDescriptor y.desc = some sig → argsL.length = sig.parameters.length)
    (hstack : g.stack = argsL.reverse ++ rest) (hW : 2 * g.monitorRoom + (rest.map fun v => v.category).sum ≤ W9) (hdg : decode c.code g.pc = .ok (.invokestatic index, 3))
    (hpre : ∀ vm₁, s.WarmedH vm₁ → Pre ⟨T.setVm vm₁, locs, cells, slots⟩ argsL.toArray) :
    (∃ (v : Option Value) (vm₁ : Vm) (B : Pt), s.WarmedH vm₁ ∧ Stand p l e R s m args below meth c B.U B.locs B.cells B.slots ∧ Post ⟨T.setVm vm₁, locs, cells, slots⟩ argsL.toArray v B ∧
      ∀ target, Steps p.tables e below (B.U.setTop { g with pc := g.pc + 3, stack := v.toList ++ rest }) target → Steps p.tables e below (T.setTop g) target) ∨
    (∃ (q : Addr) (vm₁ : Vm) (B : Pt), s.WarmedH vm₁ ∧ Stand p l e R s m args below meth c B.U B.locs B.cells B.slots ∧ PostX ⟨T.setVm vm₁, locs, cells, slots⟩ argsL.toArray q B ∧
      Steps p.tables e below (T.setTop g) ((B.U.setTop { g with stack := rest }).pushFrame (.throwing q))) := by
  obtain ⟨mk, methM, cM, hnamed, hmethM, -, -, -, -, -, -, hsigM⟩ := Cond.codeWith_spec hcode
  have hstatic : methM.isStatic = true := Cond.static_spec hnamed hmethM hstat
  obtain ⟨kP, hkP, -⟩ := className_of_methodNamed hnamed
  have hinitP : kP.init = .initialized := Cond.initialized_spec (findClass_of_methodNamed hnamed) hkP hinit
  obtain ⟨vm₁, X₁, hstep₁⟩ := X.invokestatic hexec hown hlink hnamed hmethM hstatic hkP hinitP hy (g := g) hg (argsL := argsL) (rest := rest) (hlen _ hsigM) hstack hdg
  rcases hK m meth c ⟨T.setVm vm₁, locs, cells, slots⟩ { g with stack := rest } (.invokestatic index) mk argsL.toArray X₁ hg hsize hdg hW (X₁.named hnamed) (hpre vm₁ X₁.warmed) with ⟨v, B, X', hpost, hsteps⟩ | ⟨q, B, X', hpost, hsteps⟩
  · exact Or.inl ⟨v, vm₁, B, X₁.warmed, X', hpost, fun target h => hstep₁ _ fun acts => by rw [doInvoke_state]; exact hsteps.trans h⟩
  · exact Or.inr ⟨q, vm₁, B, X₁.warmed, X', hpost, hstep₁ _ fun acts => by rw [doInvoke_state]; exact hsteps⟩
theorem vx_callVW (X : Stand p l e R s m args below meth c T locs cells slots) (hexec : p.tables.exec = Jvm.exec) {own C : String} {index : Nat} {y : MethodName} {bytes : ByteArray} {maxL : Nat} {ret : Option FieldType} {hh : List (Nat × Nat × Nat × Nat)}
    (hown : s.vm.findClass own = some m.cls) (hlink : (Cond.methodLink own index y).before args s = true) (hinst : (Cond.instanceMethod y).before args s = true) (hsel : (Cond.selects C y y).before args s = true)
    (hcode : (Cond.codeWith y bytes maxL ret hh).before args s = true) (hy : y.cls ≠ "java/lang/invoke/MethodHandle" ∧ y.cls ≠ "java/lang/invoke/VarHandle")
    {W9 : Nat} {Pre : Pt → Array Value → Prop} {Post : Pt → Array Value → Option Value → Pt → Prop} (hK : Back l R p e below s args y 3 W9 Pre Post)
    {b : Addr} {cellB : Cell} (hcell : T.heap[b]? = some cellB) (hobj : cellB.vm.isStatics = false) (hcls : s.vm.findClass C = some cellB.cls)
    {g : JFrame} (hg : g.method = m) (hsize : g.locals.size = c.maxLocals) {argsL rest : List Value} (hlen : ∀ sig, parseMethodDescriptor y.desc = some sig → argsL.length = sig.parameters.length)
    (hstack : g.stack = argsL.reverse ++ .ref b :: rest) (hW : 2 * g.monitorRoom + (rest.map fun v => v.category).sum ≤ W9) (hdg : decode c.code g.pc = .ok (.invokevirtual index, 3))
    (hpre : ∀ vm₁, s.WarmedH vm₁ → Pre ⟨T.setVm vm₁, locs, cells, slots⟩ (Value.ref b :: argsL).toArray) :
    ∃ (v : Option Value) (vm₁ : Vm) (B : Pt), s.WarmedH vm₁ ∧ Stand p l e R s m args below meth c B.U B.locs B.cells B.slots ∧ Post ⟨T.setVm vm₁, locs, cells, slots⟩ (Value.ref b :: argsL).toArray v B ∧
      ∀ target, Steps p.tables e below (B.U.setTop { g with pc := g.pc + 3, stack := v.toList ++ rest }) target → Steps p.tables e below (T.setTop g) target := by
  obtain ⟨mk, methM, hnamed, hmethM, hstM, habM⟩ := Cond.instanceMethod_spec hinst
  obtain ⟨m8, methM', cM, hn8, hmethM', -, -, -, -, -, -, hsigM⟩ := Cond.codeWith_spec hcode
  cases Option.some.inj (hn8.symm.trans hnamed)
  cases hmethM.symm.trans hmethM'
  obtain ⟨c2, r2, m2, q1, q2, q3, q4, kP, hkP, hkPi⟩ := Cond.selects_spec hsel
  cases hcls.symm.trans q1
  cases (State.methodFound?_of_named hnamed hy).symm.trans q2
  cases hnamed.symm.trans q3
  have hselP : selectMethod e.platform s.vm cellB.cls mk = .method mk := by rw [Launch.admits_selectMethod X.admits]; exact q4
  obtain ⟨vm₁, X₁, hstep₁⟩ := X.invokevirtual hexec hown hlink hnamed hmethM hstM hkP hkPi hy (a := b) (cell := cellB) hcell
    (fun z h => by rw [h] at hobj; cases hobj) hselP hmethM habM hkP hkPi (g := g) hg (argsL := argsL) (rest := rest) (hlen _ hsigM) hstack hdg
  obtain ⟨v, B, X', hpost, hsteps⟩ := hK m meth c ⟨T.setVm vm₁, locs, cells, slots⟩ { g with stack := rest } (.invokevirtual index) mk (Value.ref b :: argsL).toArray X₁ hg hsize hdg hW (X₁.named hnamed) (hpre vm₁ X₁.warmed)
  exact ⟨v, vm₁, B, X₁.warmed, X', hpost, fun target h => hstep₁ _ fun acts => by rw [doInvoke_state]; exact hsteps.trans h⟩
abbrev vx_CVW (R : Room) (s : State) (args : Array Value) (own C : String) (index : Nat) (y : MethodName) (bytes : ByteArray) (maxL : Nat) (ret : Option FieldType) (hh : List (Nat × Nat × Nat × Nat)) (ws : List Cond) (rm : Room) (mc ms n : Nat) : Prop :=
  (rm.cells = mc ∧ rm.slots = ms ∧ rm.frames + 1 ≤ R.frames ∧ 8 + (maxL + 11) + rm.locals ≤ R.locals ∧ (∀ w ∈ ws, ∀ (a' : Array Value) (U : State), s.WarmedH U.vm → w.before a' U = true) ∧ Cond.codeWith y bytes maxL ret hh ∈ ws) ∧
  (Cond.codeWith y bytes maxL ret hh).before args s = true ∧ (Cond.initialized y.cls).before args s = true ∧ (y.cls ≠ "java/lang/invoke/MethodHandle" ∧ y.cls ≠ "java/lang/invoke/VarHandle") ∧
  (∀ sig, parseMethodDescriptor y.desc = some sig → n = sig.parameters.length) ∧ (Cond.methodLink own index y).before args s = true ∧ (Cond.instanceMethod y).before args s = true ∧ (Cond.selects C y y).before args s = true
theorem vx_cwVW {own C : String} {index maxL mc ms : Nat} {y : MethodName} {bytes : ByteArray} {ret : Option FieldType} {hh : List (Nat × Nat × Nat × Nat)} {Ts ws ws' : List Cond} {rm : Room} (n : Nat) (ht : ∀ w ∈ Ts, w.before args s = true) (hT : GoodIn Ts (wsV own index C y ws)) (hw : ws = Cond.codeWith y bytes maxL ret hh :: ws') (hrc : rm.cells = mc) (hrs : rm.slots = ms)
    (hd : y.cls = C ∧ y.cls ≠ "java/lang/invoke/MethodHandle" ∧ y.cls ≠ "java/lang/invoke/VarHandle" ∧ (parseMethodDescriptor y.desc).map (fun d => d.parameters.length) = some n) (hR : rm.frames + 1 ≤ R.frames ∧ 8 + (maxL + 11) + rm.locals ≤ R.locals) :
    vx_CVW R s args own C index y bytes maxL ret hh ws rm mc ms n := by
  obtain ⟨hC, hd⟩ := hd
  subst hC
  have ok : ∀ w ∈ wsV own index y.cls y ws, w.before args s = true := fun w h => ht w (hT w h).1
  have hG : GoodIn Ts ws := fun w h => hT w (by unfold wsV; exact List.mem_append_right _ h)
  have hc : Cond.codeWith y bytes maxL ret hh ∈ ws := by rw [hw]; exact List.mem_cons_self
  refine ⟨⟨hrc, hrs, hR.1, hR.2, pay_in ht hG, hc⟩, ht _ (hG _ hc).1, ok _ (by simp [wsV]), ⟨hd.1, hd.2.1⟩, fun sig h => ?_, ok _ (by simp [wsV]), ok _ (by simp [wsV]), ok _ (by simp [wsV])⟩
  have h2 := hd.2.2
  rw [h] at h2
  exact (Option.some.inj h2).symm
theorem vx_runVW {y : MethodName} {bytes cc : ByteArray} {maxL nL mc ms n index : Nat} {ret : Option FieldType} {hh : List (Nat × Nat × Nat × Nat)} {ws : List Cond} {rm : Room} {Pc : Array Value → State → Prop} {Qc : Array Value → State → Outcome → State → Prop} {free : Addr → Prop} {Ts : List Cond} {own C : String} {b : Addr} {As rest : List Value} {g : JFrame}
    (S : CallFix p m c cc nL s args Ts own) (hM : Met l y ws rm Pc Qc mc ms free) (cw : vx_CVW R s args own C index y bytes maxL ret hh ws rm mc ms n) (hp : PreV s H C b Pc As)
    (hg : g.method = m) (hn : As.length = n) (hsize : g.locals.size = nL) (hstack : g.stack = As.reverse ++ .ref b :: rest) (hW : 2 * g.monitorRoom + (rest.map fun v => v.category).sum ≤ 8) (hdg : decode cc g.pc = .ok (.invokevirtual index, 3)) (hf : cells + mc ≤ R.cells ∧ slots + ms ≤ R.slots) :
    va_Run p l e R s m args below meth c H locs cells slots mc ms g rest (Qc (Value.ref b :: As).toArray) free := by
  obtain ⟨⟨hrc, hrs, hfr, hlo, hws, hcw⟩, hcode, hini, hy, hlen, hl, hin, hse⟩ := cw
  have hK : Back l R p e below s args y 3 8 (PreOf R mc ms Pc) (PostOf Qc mc ms free) := va_backW (hh := hh) (bytes := bytes) (maxL := maxL) (ret := ret) hM hp.1 hrc hrs hfr hlo hws hcw (fun a' U hW => word_at hW (Or.inl (by first | rfl | simp [Cond.onTables, Cond.keeps, Cond.steady])) hini)
  obtain ⟨hx, hb, hml, ho, -⟩ := S
  obtain ⟨-, ⟨cellB, hcB, hoB, hclB⟩, hPc⟩ := hp
  intro T hT X
  obtain ⟨v, vm₁, ⟨U', l2, c2, s2⟩, hW₁, X', ⟨g', mk, t, L, e1, e2, hq, h1, hL, h2, h3⟩, st⟩ := vx_callVW X hx (C := C) (hh := hh) (bytes := bytes) (maxL := maxL) (ret := ret) ho hl hin hse hcode hy hK (by rw [hT]; exact hcB) hoB hclB hg (hsize.trans hml.symm) (argsL := As) (rest := rest) (fun sig h => hn.trans (hlen sig h)) hstack hW (by rw [hb]; exact hdg)
    (fun vm₁ hW₁ => ⟨hf.1, hf.2, hPc (T.setVm vm₁) hT hW₁⟩)
  dsimp only [Pt.U, Pt.locs, Pt.cells, Pt.slots] at X' e1 e2 h1 h2 h3 st
  subst h1; subst h2; subst h3
  exact ⟨v, (T.setVm vm₁).calling g' mk (Value.ref b :: As).toArray, t, U', L, hT, X', hL, e1, e2, hq, st⟩
section
variable {y : MethodName} {bytes cc : ByteArray} {maxL nL mc ms n index : Nat} {ret : Option FieldType} {ws : List Cond} {rm : Room} {Pc : Array Value → State → Prop} {Qc : Array Value → State → Outcome → State → Prop} {XC : String → State → State → Prop} {free : Addr → Prop} {Ts : List Cond} {own C : String} {b : Addr} {As rest : List Value} {g : JFrame}
theorem vx_runVX {hh : List (Nat × Nat × Nat × Nat)} (S : CallFix p m c cc nL s args Ts own) (hM : vx_Met l y ws rm Pc Qc XC mc ms free) (cw : vx_CVW R s args own C index y bytes maxL ret hh ws rm mc ms n) (hp : PreV s H C b Pc As)
    (hg : g.method = m) (hn : As.length = n) (hsize : g.locals.size = nL) (hstack : g.stack = As.reverse ++ .ref b :: rest) (hW : 2 * g.monitorRoom + (rest.map fun v => v.category).sum ≤ 8) (hdg : decode cc g.pc = .ok (.invokevirtual index, 3)) (hf : cells + mc ≤ R.cells ∧ slots + ms ≤ R.slots) :
    vx_Run p l e R s m args below meth c H locs cells slots mc ms g rest (Qc (Value.ref b :: As).toArray) XC free := by
  obtain ⟨⟨hrc, hrs, hfr, hlo, hws, hcw⟩, hcode, hini, hy, hlen, hl, hin, hse⟩ := cw
  have hK : vx_Back l R p e below s args y 3 8 (PreOf R mc ms Pc) (PostOf Qc mc ms free) (vx_Post XC mc ms free) := vx_backW (hh := hh) (bytes := bytes) (maxL := maxL) (ret := ret) hM hp.1 hrc hrs hfr hlo hws hcw (fun a' U hW => word_at hW (Or.inl (by first | rfl | simp [Cond.onTables, Cond.keeps, Cond.steady])) hini)
  obtain ⟨hx, hb, hml, ho, -⟩ := S
  obtain ⟨-, ⟨cellB, hcB, hoB, hclB⟩, hPc⟩ := hp
  intro T hT X
  rcases vx_callVX X hx (C := C) (hh := hh) (bytes := bytes) (maxL := maxL) (ret := ret) ho hl hin hse hcode hy hK (by rw [hT]; exact hcB) hoB hclB hg (hsize.trans hml.symm) (argsL := As) (rest := rest) (fun sig h => hn.trans (hlen sig h)) hstack hW (by rw [hb]; exact hdg)
    (fun vm₁ hW₁ => ⟨hf.1, hf.2, hPc (T.setVm vm₁) hT hW₁⟩) with ⟨v, vm₁, ⟨U', l2, c2, s2⟩, hW₁, X', ⟨g', mk, t, L, e1, e2, hq, h1, hL, h2, h3⟩, st⟩ | ⟨q, vm₁, ⟨U', l2, c2, s2⟩, hW₁, X', ⟨g', mk, t, L, E, ce, e1, e2, hq, hce, hcv, hcl, h1, hL, h2, h3⟩, st⟩
  · dsimp only [Pt.U, Pt.locs, Pt.cells, Pt.slots] at X' e1 e2 h1 h2 h3 st
    subst h1; subst h2; subst h3
    exact Or.inl ⟨v, (T.setVm vm₁).calling g' mk (Value.ref b :: As).toArray, t, U', L, hT, X', hL, e1, e2, hq, st⟩
  · dsimp only [Pt.U, Pt.locs, Pt.cells, Pt.slots] at X' e1 e2 h1 h2 h3 st hcl
    subst h1; subst h2; subst h3
    exact Or.inr ⟨q, (T.setVm vm₁).calling g' mk (Value.ref b :: As).toArray, t, U', L, E, ce, hT, X', hL, e1, e2, hq, hce, hcv, vx_cls hW₁ hcl, st⟩
theorem vx_runSX {hh : List (Nat × Nat × Nat × Nat)} (S : CallFix p m c cc nL s args Ts own) (hM : vx_Met l y ws rm Pc Qc XC mc ms free) (cw : vx_CSW R s args own index y bytes maxL ret hh ws rm mc ms n) (hp : PreS s H Pc As)
    (hg : g.method = m) (hn : As.length = n) (hsize : g.locals.size = nL) (hstack : g.stack = As.reverse ++ rest) (hW : 2 * g.monitorRoom + (rest.map fun v => v.category).sum ≤ 8) (hdg : decode cc g.pc = .ok (.invokestatic index, 3)) (hf : cells + mc ≤ R.cells ∧ slots + ms ≤ R.slots) :
    vx_Run p l e R s m args below meth c H locs cells slots mc ms g rest (Qc As.toArray) XC free := by
  obtain ⟨⟨hrc, hrs, hfr, hlo, hws, hcw⟩, hcode, hini, hy, hlen, hl, hstt⟩ := cw
  have hK : vx_Back l R p e below s args y 3 8 (PreOf R mc ms Pc) (PostOf Qc mc ms free) (vx_Post XC mc ms free) := vx_backW (hh := hh) (bytes := bytes) (maxL := maxL) (ret := ret) hM hp.1 hrc hrs hfr hlo hws hcw (fun a' U hW => word_at hW (Or.inl (by first | rfl | simp [Cond.onTables, Cond.keeps, Cond.steady])) hini)
  obtain ⟨hx, hb, hml, ho, -⟩ := S
  intro T hT X
  rcases vx_callSX X hx (hh := hh) (bytes := bytes) (maxL := maxL) (ret := ret) ho hl hstt hini hcode hy hK hg (hsize.trans hml.symm) (argsL := As) (rest := rest) (fun sig h => hn.trans (hlen sig h)) hstack hW (by rw [hb]; exact hdg)
    (fun vm₁ hW₁ => ⟨hf.1, hf.2, hp.2 (T.setVm vm₁) hT hW₁⟩) with ⟨v, vm₁, ⟨U', l2, c2, s2⟩, hW₁, X', ⟨g', mk, t, L, e1, e2, hq, h1, hL, h2, h3⟩, st⟩ | ⟨q, vm₁, ⟨U', l2, c2, s2⟩, hW₁, X', ⟨g', mk, t, L, E, ce, e1, e2, hq, hce, hcv, hcl, h1, hL, h2, h3⟩, st⟩
  · dsimp only [Pt.U, Pt.locs, Pt.cells, Pt.slots] at X' e1 e2 h1 h2 h3 st
    subst h1; subst h2; subst h3
    exact Or.inl ⟨v, (T.setVm vm₁).calling g' mk As.toArray, t, U', L, hT, X', hL, e1, e2, hq, st⟩
  · dsimp only [Pt.U, Pt.locs, Pt.cells, Pt.slots] at X' e1 e2 h1 h2 h3 st hcl
    subst h1; subst h2; subst h3
    exact Or.inr ⟨q, (T.setVm vm₁).calling g' mk As.toArray, t, U', L, E, ce, hT, X', hL, e1, e2, hq, hce, hcv, vx_cls hW₁ hcl, st⟩
end
end VXH
theorem vx_ofWH {l : Launch} {y : MethodName} {ws ws' : List Cond} {rm : Room} {Pc : Array Value → State → Prop} {Qc : Array Value → State → Outcome → State → Prop} {XC : String → State → State → Prop} {mc ms : Nat} {free : Addr → Prop} {cc : ByteArray} {maxL : Nat} {ret : Option FieldType} {hh : List (Nat × Nat × Nat × Nat)}
    (hy : plainName y.cls = true) (hw : ws = Cond.codeWith y cc maxL ret hh :: ws')
    (body : ∀ p e s m args below meth c s₁, BodyLoose p l y (headSpec ws rm) cc maxL ret e s m args below meth c s₁ → c.maxLocals = maxL → Pc args s →
      W p l e (headSpec ws rm).room s m args below meth c s.heap [] 0 0 (vx_MQ below Qc XC args s mc ms free) (entryFrame m args maxL)) : vx_Met l y ws rm Pc Qc XC mc ms free := by
  refine MetFree.of_bodyS (code := cc) (maxLocals := maxL) (ret := ret) hy ?_ ?_
  · intro args s m h hn
    obtain ⟨m9, meth, c, hn9, h1, h2, h3, h4, -, h5, h6, -⟩ := Cond.codeWith_spec (atoms_spec (ws := ws) h _ (by rw [hw]; exact List.mem_cons_self))
    cases hn.symm.trans hn9
    exact ⟨meth, c, h1, h2, h3, h4, h5, h6⟩
  · intro p e s m args below meth c s₁ B hml hP _
    have hh0 : s₁.heap = s.heap := by rw [B.state]; rfl
    obtain ⟨t, a1, o, b1, b2, b3⟩ := body p e s m args below meth c s₁ B hml hP s₁ hh0 (Stand.of_body B)
    exact ⟨t, o, a1, b1, b2, b3⟩
/-! ===== END ===== -/
end
section
/-! ===== BEGIN printed: names, fields, word lists, decode rows ===== -/
def RX0 : String := "Monobuild$FileTable"
def TX0 : u_T := fun k => match k with
  | 0 => ("Monobuild$FileTable", "paths", "[LMonobuild$Text;", true)
  | 1 => ("Monobuild$FileTable", "contents", "[I", true)
  | 2 => ("Monobuild$FileTable", "markedContents", "[I", true)
  | 3 => ("Monobuild$FileTable", "count", "I", false)
  | 4 => ("Monobuild$FileTable", "there", "I", false)
  | _ => ("Monobuild$FileTable", "markedThere", "I", false)
def tyX0 : Nat → FieldType := fun k => match k with
  | 0 => .array (.object "Monobuild$Text")
  | 1 => .array .int
  | 2 => .array .int
  | 3 => .int
  | 4 => .int
  | _ => .int
abbrev wsX00 : List Cond := u_ws RX0 TX0 6
theorem nmX0 : ∀ a, a < 6 → ∀ b, b < 6 → a ≠ b → (TX0 a).2.1 ≠ (TX0 b).2.1 := by decide +kernel
theorem tyX0_ok : ∀ k, k < 6 → parseFieldDescriptor (TX0 k).2.2.1 = some (tyX0 k) := by decide +kernel
abbrev cX0_init : ByteArray := prog_2_method_1_code
def yX0_init : MethodName := ⟨RX0, "<init>", "()V"⟩
abbrev cX0_has : ByteArray := prog_2_method_2_code
def yX0_has : MethodName := ⟨RX0, "has", "(I)Z"⟩
abbrev cX0_isThere : ByteArray := prog_2_method_3_code
def yX0_isThere : MethodName := ⟨RX0, "isThere", "(I)Z"⟩
abbrev cX0_isFull : ByteArray := prog_2_method_4_code
def yX0_isFull : MethodName := ⟨RX0, "isFull", "()Z"⟩
abbrev cX0_present : ByteArray := prog_2_method_5_code
def yX0_present : MethodName := ⟨RX0, "present", "()I"⟩
abbrev cX0_pathOf : ByteArray := prog_2_method_6_code
def yX0_pathOf : MethodName := ⟨RX0, "pathOf", "(I)LMonobuild$Text;"⟩
abbrev cX0_contentOf : ByteArray := prog_2_method_7_code
def yX0_contentOf : MethodName := ⟨RX0, "contentOf", "(I)I"⟩
abbrev cX0_numberOf : ByteArray := prog_2_method_8_code
def yX0_numberOf : MethodName := ⟨RX0, "numberOf", "(LMonobuild$Text;)I"⟩
abbrev cX0_addPath : ByteArray := prog_2_method_9_code
def yX0_addPath : MethodName := ⟨RX0, "addPath", "(LMonobuild$Text;)I"⟩
abbrev cX0_put : ByteArray := prog_2_method_10_code
def yX0_put : MethodName := ⟨RX0, "put", "(II)V"⟩
abbrev cX0_remove : ByteArray := prog_2_method_11_code
def yX0_remove : MethodName := ⟨RX0, "remove", "(I)V"⟩
abbrev cX0_coveredBy : ByteArray := prog_2_method_12_code
def yX0_coveredBy : MethodName := ⟨RX0, "coveredBy", "(LMonobuild$Text;)I"⟩
abbrev cX0_keepMark : ByteArray := prog_2_method_13_code
def yX0_keepMark : MethodName := ⟨RX0, "keepMark", "()V"⟩
abbrev cX0_sinceMark : ByteArray := prog_2_method_14_code
def yX0_sinceMark : MethodName := ⟨RX0, "sinceMark", "()I"⟩
def RX1 : String := "Monobuild$Globs"
def TX1 : u_T := fun k => match k with
  | 0 => ("Monobuild$Globs", "patterns", "[LMonobuild$Text;", true)
  | 1 => ("Monobuild$Globs", "coveredFiles", "[I", true)
  | 2 => ("Monobuild$Globs", "most", "I", true)
  | _ => ("Monobuild$Globs", "count", "I", false)
def tyX1 : Nat → FieldType := fun k => match k with
  | 0 => .array (.object "Monobuild$Text")
  | 1 => .array .int
  | 2 => .int
  | _ => .int
abbrev wsX10 : List Cond := u_ws RX1 TX1 4
theorem nmX1 : ∀ a, a < 4 → ∀ b, b < 4 → a ≠ b → (TX1 a).2.1 ≠ (TX1 b).2.1 := by decide +kernel
theorem tyX1_ok : ∀ k, k < 4 → parseFieldDescriptor (TX1 k).2.2.1 = some (tyX1 k) := by decide +kernel
abbrev cX1_init : ByteArray := prog_3_method_1_code
def yX1_init : MethodName := ⟨RX1, "<init>", "(I)V"⟩
abbrev cX1_size : ByteArray := prog_3_method_2_code
def yX1_size : MethodName := ⟨RX1, "size", "()I"⟩
abbrev cX1_isFull : ByteArray := prog_3_method_3_code
def yX1_isFull : MethodName := ⟨RX1, "isFull", "()Z"⟩
abbrev cX1_add : ByteArray := prog_3_method_4_code
def yX1_add : MethodName := ⟨RX1, "add", "(LMonobuild$Text;I)V"⟩
abbrev cX1_meetFile : ByteArray := prog_3_method_5_code
def yX1_meetFile : MethodName := ⟨RX1, "meetFile", "(ILMonobuild$Text;)V"⟩
abbrev cX1_covered : ByteArray := prog_3_method_6_code
def yX1_covered : MethodName := ⟨RX1, "covered", "()I"⟩
abbrev cX1_latestCovering : ByteArray := prog_3_method_7_code
def yX1_latestCovering : MethodName := ⟨RX1, "latestCovering", "(I)I"⟩
def RX2 : String := "Monobuild$Graph"
def TX2 : u_T := fun k => match k with
  | 0 => ("Monobuild$Graph", "costs", "[I", true)
  | 1 => ("Monobuild$Graph", "dependencies", "[I", true)
  | 2 => ("Monobuild$Graph", "globs", "[LMonobuild$Globs;", true)
  | 3 => ("Monobuild$Graph", "order", "[I", true)
  | _ => ("Monobuild$Graph", "count", "I", false)
def tyX2 : Nat → FieldType := fun k => match k with
  | 0 => .array .int
  | 1 => .array .int
  | 2 => .array (.object "Monobuild$Globs")
  | 3 => .array .int
  | _ => .int
abbrev wsX20 : List Cond := u_ws RX2 TX2 5
theorem nmX2 : ∀ a, a < 5 → ∀ b, b < 5 → a ≠ b → (TX2 a).2.1 ≠ (TX2 b).2.1 := by decide +kernel
theorem tyX2_ok : ∀ k, k < 5 → parseFieldDescriptor (TX2 k).2.2.1 = some (tyX2 k) := by decide +kernel
abbrev cX2_init : ByteArray := prog_4_method_1_code
def yX2_init : MethodName := ⟨RX2, "<init>", "()V"⟩
abbrev cX2_size : ByteArray := prog_4_method_2_code
def yX2_size : MethodName := ⟨RX2, "size", "()I"⟩
abbrev cX2_has : ByteArray := prog_4_method_3_code
def yX2_has : MethodName := ⟨RX2, "has", "(I)Z"⟩
abbrev cX2_isFull : ByteArray := prog_4_method_4_code
def yX2_isFull : MethodName := ⟨RX2, "isFull", "()Z"⟩
abbrev cX2_costOf : ByteArray := prog_4_method_5_code
def yX2_costOf : MethodName := ⟨RX2, "costOf", "(I)I"⟩
abbrev cX2_dependenciesOf : ByteArray := prog_4_method_6_code
def yX2_dependenciesOf : MethodName := ⟨RX2, "dependenciesOf", "(I)I"⟩
abbrev cX2_globsOf : ByteArray := prog_4_method_7_code
def yX2_globsOf : MethodName := ⟨RX2, "globsOf", "(I)LMonobuild$Globs;"⟩
abbrev cX2_add : ByteArray := prog_4_method_8_code
def yX2_add : MethodName := ⟨RX2, "add", "(I)I"⟩
abbrev cX2_addDependency : ByteArray := prog_4_method_9_code
def yX2_addDependency : MethodName := ⟨RX2, "addDependency", "(II)V"⟩
abbrev cX2_meetFile : ByteArray := prog_4_method_10_code
def yX2_meetFile : MethodName := ⟨RX2, "meetFile", "(ILMonobuild$Text;)V"⟩
abbrev cX2_covering : ByteArray := prog_4_method_11_code
def yX2_covering : MethodName := ⟨RX2, "covering", "(I)I"⟩
abbrev cX2_upFrom : ByteArray := prog_4_method_12_code
def yX2_upFrom : MethodName := ⟨RX2, "upFrom", "(I)I"⟩
abbrev cX2_reachingDown : ByteArray := prog_4_method_13_code
def yX2_reachingDown : MethodName := ⟨RX2, "reachingDown", "(I)I"⟩
abbrev cX2_makeOrder : ByteArray := prog_4_method_14_code
def yX2_makeOrder : MethodName := ⟨RX2, "makeOrder", "()V"⟩
abbrev cX2_atPlace : ByteArray := prog_4_method_15_code
def yX2_atPlace : MethodName := ⟨RX2, "atPlace", "(I)I"⟩
abbrev cX2_downFrom : ByteArray := prog_4_method_16_code
def yX2_downFrom : MethodName := ⟨RX2, "downFrom", "(I)I"⟩
abbrev cX2_nextBehind : ByteArray := prog_4_method_17_code
def yX2_nextBehind : MethodName := ⟨RX2, "nextBehind", "(I)I"⟩
abbrev cX2_isNext : ByteArray := prog_4_method_18_code
def yX2_isNext : MethodName := ⟨RX2, "isNext", "(II)Z"⟩
def RX3 : String := "Monobuild$KeyBook"
def TX3 : u_T := fun k => match k with
  | 0 => ("Monobuild$KeyBook", "tree", "LMonobuild$FileTable;", true)
  | 1 => ("Monobuild$KeyBook", "graph", "LMonobuild$Graph;", true)
  | 2 => ("Monobuild$KeyBook", "rows", "[[I", true)
  | 3 => ("Monobuild$KeyBook", "holders", "[I", true)
  | 4 => ("Monobuild$KeyBook", "present", "[I", true)
  | 5 => ("Monobuild$KeyBook", "latest", "[I", true)
  | 6 => ("Monobuild$KeyBook", "row", "[I", true)
  | _ => ("Monobuild$KeyBook", "count", "I", false)
def tyX3 : Nat → FieldType := fun k => match k with
  | 0 => .object "Monobuild$FileTable"
  | 1 => .object "Monobuild$Graph"
  | 2 => .array (.array .int)
  | 3 => .array .int
  | 4 => .array .int
  | 5 => .array .int
  | 6 => .array .int
  | _ => .int
abbrev wsX30 : List Cond := u_ws RX3 TX3 8
theorem nmX3 : ∀ a, a < 8 → ∀ b, b < 8 → a ≠ b → (TX3 a).2.1 ≠ (TX3 b).2.1 := by decide +kernel
theorem tyX3_ok : ∀ k, k < 8 → parseFieldDescriptor (TX3 k).2.2.1 = some (tyX3 k) := by decide +kernel
abbrev cX3_init : ByteArray := prog_5_method_1_code
def yX3_init : MethodName := ⟨RX3, "<init>", "(LMonobuild$FileTable;LMonobuild$Graph;)V"⟩
abbrev cX3_given : ByteArray := prog_5_method_2_code
def yX3_given : MethodName := ⟨RX3, "given", "()I"⟩
abbrev cX3_lookUpAll : ByteArray := prog_5_method_3_code
def yX3_lookUpAll : MethodName := ⟨RX3, "lookUpAll", "()V"⟩
abbrev cX3_keyNow : ByteArray := prog_5_method_4_code
def yX3_keyNow : MethodName := ⟨RX3, "keyNow", "(I)I"⟩
abbrev cX3_withoutKey : ByteArray := prog_5_method_5_code
def yX3_withoutKey : MethodName := ⟨RX3, "withoutKey", "()I"⟩
abbrev cX3_hasRun : ByteArray := prog_5_method_6_code
def yX3_hasRun : MethodName := ⟨RX3, "hasRun", "(I)Z"⟩
abbrev cX3_hasLatestInputs : ByteArray := prog_5_method_7_code
def yX3_hasLatestInputs : MethodName := ⟨RX3, "hasLatestInputs", "(I)Z"⟩
abbrev cX3_runOrFind : ByteArray := prog_5_method_8_code
def yX3_runOrFind : MethodName := ⟨RX3, "runOrFind", "(I)I"⟩
abbrev cX3_runOrFindAll : ByteArray := prog_5_method_9_code
def yX3_runOrFindAll : MethodName := ⟨RX3, "runOrFindAll", "()V"⟩
abbrev cX3_lookUp : ByteArray := prog_5_method_10_code
def yX3_lookUp : MethodName := ⟨RX3, "lookUp", "(I)V"⟩
abbrev cX3_dependenciesHaveKeys : ByteArray := prog_5_method_11_code
def yX3_dependenciesHaveKeys : MethodName := ⟨RX3, "dependenciesHaveKeys", "(I)Z"⟩
abbrev cX3_fillRow : ByteArray := prog_5_method_12_code
def yX3_fillRow : MethodName := ⟨RX3, "fillRow", "(I)V"⟩
abbrev cX3_keyOfRow : ByteArray := prog_5_method_13_code
def yX3_keyOfRow : MethodName := ⟨RX3, "keyOfRow", "(I)I"⟩
abbrev cX3_agrees : ByteArray := prog_5_method_14_code
def yX3_agrees : MethodName := ⟨RX3, "agrees", "(II)Z"⟩
abbrev cX3_give : ByteArray := prog_5_method_15_code
def yX3_give : MethodName := ⟨RX3, "give", "(I)I"⟩
def RX4 : String := "Monobuild$RuleBook"
def TX4 : u_T := fun k => match k with
  | 0 => ("Monobuild$RuleBook", "globs", "LMonobuild$Globs;", true)
  | _ => ("Monobuild$RuleBook", "owners", "[I", true)
def tyX4 : Nat → FieldType := fun k => match k with
  | 0 => .object "Monobuild$Globs"
  | _ => .array .int
abbrev wsX40 : List Cond := u_ws RX4 TX4 2
theorem nmX4 : ∀ a, a < 2 → ∀ b, b < 2 → a ≠ b → (TX4 a).2.1 ≠ (TX4 b).2.1 := by decide +kernel
theorem tyX4_ok : ∀ k, k < 2 → parseFieldDescriptor (TX4 k).2.2.1 = some (tyX4 k) := by decide +kernel
abbrev cX4_init : ByteArray := prog_6_method_1_code
def yX4_init : MethodName := ⟨RX4, "<init>", "()V"⟩
abbrev cX4_size : ByteArray := prog_6_method_2_code
def yX4_size : MethodName := ⟨RX4, "size", "()I"⟩
abbrev cX4_isFull : ByteArray := prog_6_method_3_code
def yX4_isFull : MethodName := ⟨RX4, "isFull", "()Z"⟩
abbrev cX4_add : ByteArray := prog_6_method_4_code
def yX4_add : MethodName := ⟨RX4, "add", "(LMonobuild$Text;II)V"⟩
abbrev cX4_meetFile : ByteArray := prog_6_method_5_code
def yX4_meetFile : MethodName := ⟨RX4, "meetFile", "(ILMonobuild$Text;)V"⟩
abbrev cX4_latestOwner : ByteArray := prog_6_method_6_code
def yX4_latestOwner : MethodName := ⟨RX4, "latestOwner", "(I)I"⟩
abbrev cX4_ownersOfAll : ByteArray := prog_6_method_7_code
def yX4_ownersOfAll : MethodName := ⟨RX4, "ownersOfAll", "(I)I"⟩
def RX5 : String := "Monobuild$Spread"
def TX5 : u_T := fun k => match k with
  | 0 => ("Monobuild$Spread", "loads", "[I", true)
  | _ => ("Monobuild$Spread", "places", "[I", true)
def tyX5 : Nat → FieldType := fun k => match k with
  | 0 => .array .int
  | _ => .array .int
abbrev wsX50 : List Cond := u_ws RX5 TX5 2
theorem nmX5 : ∀ a, a < 2 → ∀ b, b < 2 → a ≠ b → (TX5 a).2.1 ≠ (TX5 b).2.1 := by decide +kernel
theorem tyX5_ok : ∀ k, k < 2 → parseFieldDescriptor (TX5 k).2.2.1 = some (tyX5 k) := by decide +kernel
abbrev cX5_init : ByteArray := prog_7_method_1_code
def yX5_init : MethodName := ⟨RX5, "<init>", "()V"⟩
abbrev cX5_over : ByteArray := prog_7_method_2_code
def yX5_over : MethodName := ⟨RX5, "over", "(LMonobuild$Graph;II)V"⟩
abbrev cX5_placeOf : ByteArray := prog_7_method_3_code
def yX5_placeOf : MethodName := ⟨RX5, "placeOf", "(I)I"⟩
abbrev cX5_greatestLoad : ByteArray := prog_7_method_4_code
def yX5_greatestLoad : MethodName := ⟨RX5, "greatestLoad", "()I"⟩
abbrev cX5_dearest : ByteArray := prog_7_method_5_code
def yX5_dearest : MethodName := ⟨RX5, "dearest", "(LMonobuild$Graph;I)I"⟩
abbrev cX5_lightest : ByteArray := prog_7_method_6_code
def yX5_lightest : MethodName := ⟨RX5, "lightest", "(I)I"⟩
def RX6 : String := "Monobuild$Text"
def TX6 : u_T := fun k => match k with
  | 0 => ("Monobuild$Text", "signs", "[C", true)
  | _ => ("Monobuild$Text", "length", "I", false)
def tyX6 : Nat → FieldType := fun k => match k with
  | 0 => .array .char
  | _ => .int
abbrev wsX60 : List Cond := u_ws RX6 TX6 2
theorem nmX6 : ∀ a, a < 2 → ∀ b, b < 2 → a ≠ b → (TX6 a).2.1 ≠ (TX6 b).2.1 := by decide +kernel
theorem tyX6_ok : ∀ k, k < 2 → parseFieldDescriptor (TX6 k).2.2.1 = some (tyX6 k) := by decide +kernel
abbrev cX6_init : ByteArray := prog_8_method_1_code
def yX6_init : MethodName := ⟨RX6, "<init>", "()V"⟩
abbrev cX6_size : ByteArray := prog_8_method_2_code
def yX6_size : MethodName := ⟨RX6, "size", "()I"⟩
abbrev cX6_isFull : ByteArray := prog_8_method_3_code
def yX6_isFull : MethodName := ⟨RX6, "isFull", "()Z"⟩
abbrev cX6_append : ByteArray := prog_8_method_4_code
def yX6_append : MethodName := ⟨RX6, "append", "(C)V"⟩
abbrev cX6_empty : ByteArray := prog_8_method_5_code
def yX6_empty : MethodName := ⟨RX6, "empty", "()V"⟩
abbrev cX6_copyFrom : ByteArray := prog_8_method_6_code
def yX6_copyFrom : MethodName := ⟨RX6, "copyFrom", "(LMonobuild$Text;)V"⟩
abbrev cX6_isSameAs : ByteArray := prog_8_method_7_code
def yX6_isSameAs : MethodName := ⟨RX6, "isSameAs", "(LMonobuild$Text;)Z"⟩
abbrev cX6_hasPathForm : ByteArray := prog_8_method_8_code
def yX6_hasPathForm : MethodName := ⟨RX6, "hasPathForm", "()Z"⟩
abbrev cX6_hasGlobForm : ByteArray := prog_8_method_9_code
def yX6_hasGlobForm : MethodName := ⟨RX6, "hasGlobForm", "()Z"⟩
abbrev cX6_covers : ByteArray := prog_8_method_10_code
def yX6_covers : MethodName := ⟨RX6, "covers", "(LMonobuild$Text;)Z"⟩
abbrev cX6_signAt : ByteArray := prog_8_method_11_code
def yX6_signAt : MethodName := ⟨RX6, "signAt", "(I)C"⟩
abbrev cX6_isDoubleStar : ByteArray := prog_8_method_12_code
def yX6_isDoubleStar : MethodName := ⟨RX6, "isDoubleStar", "(I)Z"⟩
abbrev cX6_hasEmptySegment : ByteArray := prog_8_method_13_code
def yX6_hasEmptySegment : MethodName := ⟨RX6, "hasEmptySegment", "()Z"⟩
abbrev cX6_startsFrom : ByteArray := prog_8_method_14_code
def yX6_startsFrom : MethodName := ⟨RX6, "startsFrom", "(I)I"⟩
abbrev cX6_overLetters : ByteArray := prog_8_method_15_code
def yX6_overLetters : MethodName := ⟨RX6, "overLetters", "(I)I"⟩
abbrev cX6_overSign : ByteArray := prog_8_method_16_code
def yX6_overSign : MethodName := ⟨RX6, "overSign", "(IC)I"⟩
def RX7 : String := "Monobuild"
def TX7 : u_T := fun k => match k with
  | 0 => ("Monobuild", "text", "LMonobuild$Text;", true)
  | 1 => ("Monobuild", "tree", "LMonobuild$FileTable;", true)
  | 2 => ("Monobuild", "graph", "LMonobuild$Graph;", true)
  | 3 => ("Monobuild", "book", "LMonobuild$KeyBook;", true)
  | 4 => ("Monobuild", "spread", "LMonobuild$Spread;", true)
  | _ => ("Monobuild", "rules", "LMonobuild$RuleBook;", true)
def tyX7 : Nat → FieldType := fun k => match k with
  | 0 => .object "Monobuild$Text"
  | 1 => .object "Monobuild$FileTable"
  | 2 => .object "Monobuild$Graph"
  | 3 => .object "Monobuild$KeyBook"
  | 4 => .object "Monobuild$Spread"
  | _ => .object "Monobuild$RuleBook"
abbrev wsX70 : List Cond := u_ws RX7 TX7 6
theorem nmX7 : ∀ a, a < 6 → ∀ b, b < 6 → a ≠ b → (TX7 a).2.1 ≠ (TX7 b).2.1 := by decide +kernel
theorem tyX7_ok : ∀ k, k < 6 → parseFieldDescriptor (TX7 k).2.2.1 = some (tyX7 k) := by decide +kernel
abbrev cX7_init : ByteArray := prog_1_method_1_code
def yX7_init : MethodName := ⟨RX7, "<init>", "()V"⟩
abbrev cX7_type : ByteArray := prog_1_method_2_code
def yX7_type : MethodName := ⟨RX7, "type", "(C)I"⟩
abbrev cX7_clearText : ByteArray := prog_1_method_3_code
def yX7_clearText : MethodName := ⟨RX7, "clearText", "()I"⟩
abbrev cX7_isPath : ByteArray := prog_1_method_4_code
def yX7_isPath : MethodName := ⟨RX7, "isPath", "()Z"⟩
abbrev cX7_isGlob : ByteArray := prog_1_method_5_code
def yX7_isGlob : MethodName := ⟨RX7, "isGlob", "()Z"⟩
abbrev cX7_addFile : ByteArray := prog_1_method_6_code
def yX7_addFile : MethodName := ⟨RX7, "addFile", "(I)I"⟩
abbrev cX7_findFile : ByteArray := prog_1_method_7_code
def yX7_findFile : MethodName := ⟨RX7, "findFile", "()I"⟩
abbrev cX7_edit : ByteArray := prog_1_method_8_code
def yX7_edit : MethodName := ⟨RX7, "edit", "(II)I"⟩
abbrev cX7_delete : ByteArray := prog_1_method_9_code
def yX7_delete : MethodName := ⟨RX7, "delete", "(I)I"⟩
abbrev cX7_files : ByteArray := prog_1_method_10_code
def yX7_files : MethodName := ⟨RX7, "files", "()I"⟩
abbrev cX7_matches : ByteArray := prog_1_method_11_code
def yX7_matches : MethodName := ⟨RX7, "matches", "(I)Z"⟩
abbrev cX7_addTarget : ByteArray := prog_1_method_12_code
def yX7_addTarget : MethodName := ⟨RX7, "addTarget", "(I)I"⟩
abbrev cX7_addGlob : ByteArray := prog_1_method_13_code
def yX7_addGlob : MethodName := ⟨RX7, "addGlob", "(I)I"⟩
abbrev cX7_depend : ByteArray := prog_1_method_14_code
def yX7_depend : MethodName := ⟨RX7, "depend", "(II)I"⟩
abbrev cX7_targets : ByteArray := prog_1_method_15_code
def yX7_targets : MethodName := ⟨RX7, "targets", "()I"⟩
abbrev cX7_inputs : ByteArray := prog_1_method_16_code
def yX7_inputs : MethodName := ⟨RX7, "inputs", "(I)I"⟩
abbrev cX7_above : ByteArray := prog_1_method_17_code
def yX7_above : MethodName := ⟨RX7, "above", "(I)I"⟩
abbrev cX7_orderAt : ByteArray := prog_1_method_18_code
def yX7_orderAt : MethodName := ⟨RX7, "orderAt", "(I)I"⟩
abbrev cX7_affectedBy : ByteArray := prog_1_method_19_code
def yX7_affectedBy : MethodName := ⟨RX7, "affectedBy", "(I)I"⟩
abbrev cX7_affectedByGoingDown : ByteArray := prog_1_method_20_code
def yX7_affectedByGoingDown : MethodName := ⟨RX7, "affectedByGoingDown", "(I)I"⟩
abbrev cX7_keyOf : ByteArray := prog_1_method_21_code
def yX7_keyOf : MethodName := ⟨RX7, "keyOf", "(I)I"⟩
abbrev cX7_needed : ByteArray := prog_1_method_22_code
def yX7_needed : MethodName := ⟨RX7, "needed", "()I"⟩
abbrev cX7_whyRun : ByteArray := prog_1_method_23_code
def yX7_whyRun : MethodName := ⟨RX7, "whyRun", "(I)I"⟩
abbrev cX7_run : ByteArray := prog_1_method_24_code
def yX7_run : MethodName := ⟨RX7, "run", "(I)I"⟩
abbrev cX7_runAll : ByteArray := prog_1_method_25_code
def yX7_runAll : MethodName := ⟨RX7, "runAll", "()I"⟩
abbrev cX7_keys : ByteArray := prog_1_method_26_code
def yX7_keys : MethodName := ⟨RX7, "keys", "()I"⟩
abbrev cX7_shardOf : ByteArray := prog_1_method_27_code
def yX7_shardOf : MethodName := ⟨RX7, "shardOf", "(II)I"⟩
abbrev cX7_longestShard : ByteArray := prog_1_method_28_code
def yX7_longestShard : MethodName := ⟨RX7, "longestShard", "(I)I"⟩
abbrev cX7_shardsFor : ByteArray := prog_1_method_29_code
def yX7_shardsFor : MethodName := ⟨RX7, "shardsFor", "(I)I"⟩
abbrev cX7_addRule : ByteArray := prog_1_method_30_code
def yX7_addRule : MethodName := ⟨RX7, "addRule", "(I)I"⟩
abbrev cX7_ownerOf : ByteArray := prog_1_method_31_code
def yX7_ownerOf : MethodName := ⟨RX7, "ownerOf", "(I)I"⟩
abbrev cX7_mark : ByteArray := prog_1_method_32_code
def yX7_mark : MethodName := ⟨RX7, "mark", "()I"⟩
abbrev cX7_changed : ByteArray := prog_1_method_33_code
def yX7_changed : MethodName := ⟨RX7, "changed", "()I"⟩
abbrev cX7_reviewers : ByteArray := prog_1_method_34_code
def yX7_reviewers : MethodName := ⟨RX7, "reviewers", "()I"⟩
abbrev cX7_requireContent : ByteArray := prog_1_method_35_code
def yX7_requireContent : MethodName := ⟨RX7, "requireContent", "(I)V"⟩
abbrev cX7_requireFile : ByteArray := prog_1_method_36_code
def yX7_requireFile : MethodName := ⟨RX7, "requireFile", "(I)V"⟩
abbrev cX7_requireFileThere : ByteArray := prog_1_method_37_code
def yX7_requireFileThere : MethodName := ⟨RX7, "requireFileThere", "(I)V"⟩
abbrev cX7_requireTarget : ByteArray := prog_1_method_38_code
def yX7_requireTarget : MethodName := ⟨RX7, "requireTarget", "(I)V"⟩
abbrev cX7_requireGlob : ByteArray := prog_1_method_39_code
def yX7_requireGlob : MethodName := ⟨RX7, "requireGlob", "()V"⟩
abbrev cX7_requireShards : ByteArray := prog_1_method_40_code
def yX7_requireShards : MethodName := ⟨RX7, "requireShards", "(I)V"⟩
abbrev cX7_numberNewPath : ByteArray := prog_1_method_41_code
def yX7_numberNewPath : MethodName := ⟨RX7, "numberNewPath", "()I"⟩
abbrev cX7_isSign : ByteArray := prog_1_method_42_code
def yX7_isSign : MethodName := ⟨RX7, "isSign", "(C)Z"⟩
abbrev cX7_holds : ByteArray := prog_1_method_43_code
def yX7_holds : MethodName := ⟨RX7, "holds", "(II)Z"⟩
def RX8 : String := "MonobuildModel"
def TX8 : u_T := fun k => match k with
  | 0 => ("MonobuildModel", "glob", "[I", true)
  | 1 => ("MonobuildModel", "length", "[I", true)
  | 2 => ("MonobuildModel", "files", "I", false)
  | 3 => ("MonobuildModel", "path", "[I", true)
  | 4 => ("MonobuildModel", "far", "[I", true)
  | 5 => ("MonobuildModel", "there", "[Z", true)
  | 6 => ("MonobuildModel", "content", "[I", true)
  | 7 => ("MonobuildModel", "marked", "[Z", true)
  | 8 => ("MonobuildModel", "markedContent", "[I", true)
  | 9 => ("MonobuildModel", "targets", "I", false)
  | 10 => ("MonobuildModel", "cost", "[I", true)
  | 11 => ("MonobuildModel", "globs", "[I", true)
  | 12 => ("MonobuildModel", "needs", "[I", true)
  | 13 => ("MonobuildModel", "last", "[I", true)
  | 14 => ("MonobuildModel", "rules", "I", false)
  | 15 => ("MonobuildModel", "owner", "[I", true)
  | 16 => ("MonobuildModel", "keys", "I", false)
  | 17 => ("MonobuildModel", "whose", "[I", true)
  | 18 => ("MonobuildModel", "had", "[I", true)
  | 19 => ("MonobuildModel", "leant", "[I", true)
  | 20 => ("MonobuildModel", "contents", "[I", true)
  | 21 => ("MonobuildModel", "below", "[I", true)
  | 22 => ("MonobuildModel", "order", "[I", true)
  | 23 => ("MonobuildModel", "now", "[I", true)
  | 24 => ("MonobuildModel", "load", "[I", true)
  | 25 => ("MonobuildModel", "goes", "[I", true)
  | _ => ("MonobuildModel", "thrown", "I", false)
def tyX8 : Nat → FieldType := fun k => match k with
  | 0 => .array .int
  | 1 => .array .int
  | 2 => .int
  | 3 => .array .int
  | 4 => .array .int
  | 5 => .array .boolean
  | 6 => .array .int
  | 7 => .array .boolean
  | 8 => .array .int
  | 9 => .int
  | 10 => .array .int
  | 11 => .array .int
  | 12 => .array .int
  | 13 => .array .int
  | 14 => .int
  | 15 => .array .int
  | 16 => .int
  | 17 => .array .int
  | 18 => .array .int
  | 19 => .array .int
  | 20 => .array .int
  | 21 => .array .int
  | 22 => .array .int
  | 23 => .array .int
  | 24 => .array .int
  | 25 => .array .int
  | _ => .int
abbrev wsX80 : List Cond := u_ws RX8 TX8 27
theorem nmX8 : ∀ a, a < 27 → ∀ b, b < 27 → a ≠ b → (TX8 a).2.1 ≠ (TX8 b).2.1 := by decide +kernel
theorem tyX8_ok : ∀ k, k < 27 → parseFieldDescriptor (TX8 k).2.2.1 = some (tyX8 k) := by decide +kernel
abbrev cX8_init : ByteArray := prog_10_method_1_code
def yX8_init : MethodName := ⟨RX8, "<init>", "()V"⟩
abbrev cX8_thrown : ByteArray := prog_10_method_2_code
def yX8_thrown : MethodName := ⟨RX8, "thrown", "()I"⟩
abbrev cX8_isIn : ByteArray := prog_10_method_3_code
def yX8_isIn : MethodName := ⟨RX8, "isIn", "(III)Z"⟩
abbrev cX8_type : ByteArray := prog_10_method_4_code
def yX8_type : MethodName := ⟨RX8, "type", "(C)I"⟩
abbrev cX8_clearText : ByteArray := prog_10_method_5_code
def yX8_clearText : MethodName := ⟨RX8, "clearText", "()I"⟩
abbrev cX8_at : ByteArray := prog_10_method_6_code
def yX8_at : MethodName := ⟨RX8, "at", "(II)I"⟩
abbrev cX8_hasEmpty : ByteArray := prog_10_method_7_code
def yX8_hasEmpty : MethodName := ⟨RX8, "hasEmpty", "()Z"⟩
abbrev cX8_isPathNow : ByteArray := prog_10_method_8_code
def yX8_isPathNow : MethodName := ⟨RX8, "isPathNow", "()Z"⟩
abbrev cX8_isGlobNow : ByteArray := prog_10_method_9_code
def yX8_isGlobNow : MethodName := ⟨RX8, "isGlobNow", "()Z"⟩
abbrev cX8_isPath : ByteArray := prog_10_method_10_code
def yX8_isPath : MethodName := ⟨RX8, "isPath", "()Z"⟩
abbrev cX8_isGlob : ByteArray := prog_10_method_11_code
def yX8_isGlob : MethodName := ⟨RX8, "isGlob", "()Z"⟩
abbrev cX8_pathAt : ByteArray := prog_10_method_12_code
def yX8_pathAt : MethodName := ⟨RX8, "pathAt", "(II)I"⟩
abbrev cX8_isLaid : ByteArray := prog_10_method_13_code
def yX8_isLaid : MethodName := ⟨RX8, "isLaid", "(IIIIII)Z"⟩
abbrev cX8_endOf : ByteArray := prog_10_method_14_code
def yX8_endOf : MethodName := ⟨RX8, "endOf", "(II)I"⟩
abbrev cX8_begins : ByteArray := prog_10_method_15_code
def yX8_begins : MethodName := ⟨RX8, "begins", "(II)I"⟩
abbrev cX8_isMatched : ByteArray := prog_10_method_16_code
def yX8_isMatched : MethodName := ⟨RX8, "isMatched", "(II)Z"⟩
abbrev cX8_copies : ByteArray := prog_10_method_17_code
def yX8_copies : MethodName := ⟨RX8, "copies", "(I)V"⟩
abbrev cX8_fileOf : ByteArray := prog_10_method_18_code
def yX8_fileOf : MethodName := ⟨RX8, "fileOf", "()I"⟩
abbrev cX8_addFile : ByteArray := prog_10_method_19_code
def yX8_addFile : MethodName := ⟨RX8, "addFile", "(I)I"⟩
abbrev cX8_findFile : ByteArray := prog_10_method_20_code
def yX8_findFile : MethodName := ⟨RX8, "findFile", "()I"⟩
abbrev cX8_isThere : ByteArray := prog_10_method_21_code
def yX8_isThere : MethodName := ⟨RX8, "isThere", "(I)Z"⟩
abbrev cX8_edit : ByteArray := prog_10_method_22_code
def yX8_edit : MethodName := ⟨RX8, "edit", "(II)I"⟩
abbrev cX8_delete : ByteArray := prog_10_method_23_code
def yX8_delete : MethodName := ⟨RX8, "delete", "(I)I"⟩
abbrev cX8_files : ByteArray := prog_10_method_24_code
def yX8_files : MethodName := ⟨RX8, "files", "()I"⟩
abbrev cX8_matches : ByteArray := prog_10_method_25_code
def yX8_matches : MethodName := ⟨RX8, "matches", "(I)Z"⟩
abbrev cX8_isTarget : ByteArray := prog_10_method_26_code
def yX8_isTarget : MethodName := ⟨RX8, "isTarget", "(I)Z"⟩
abbrev cX8_addTarget : ByteArray := prog_10_method_27_code
def yX8_addTarget : MethodName := ⟨RX8, "addTarget", "(I)I"⟩
abbrev cX8_takes : ByteArray := prog_10_method_28_code
def yX8_takes : MethodName := ⟨RX8, "takes", "(II)Z"⟩
abbrev cX8_inputsOf : ByteArray := prog_10_method_29_code
def yX8_inputsOf : MethodName := ⟨RX8, "inputsOf", "(I)I"⟩
abbrev cX8_count : ByteArray := prog_10_method_30_code
def yX8_count : MethodName := ⟨RX8, "count", "(I)I"⟩
abbrev cX8_addGlob : ByteArray := prog_10_method_31_code
def yX8_addGlob : MethodName := ⟨RX8, "addGlob", "(I)I"⟩
abbrev cX8_upwards : ByteArray := prog_10_method_32_code
def yX8_upwards : MethodName := ⟨RX8, "upwards", "(I)I"⟩
abbrev cX8_aboveOf : ByteArray := prog_10_method_33_code
def yX8_aboveOf : MethodName := ⟨RX8, "aboveOf", "(I)I"⟩
abbrev cX8_depend : ByteArray := prog_10_method_34_code
def yX8_depend : MethodName := ⟨RX8, "depend", "(II)I"⟩
abbrev cX8_targets : ByteArray := prog_10_method_35_code
def yX8_targets : MethodName := ⟨RX8, "targets", "()I"⟩
abbrev cX8_inputs : ByteArray := prog_10_method_36_code
def yX8_inputs : MethodName := ⟨RX8, "inputs", "(I)I"⟩
abbrev cX8_above : ByteArray := prog_10_method_37_code
def yX8_above : MethodName := ⟨RX8, "above", "(I)I"⟩
abbrev cX8_orders : ByteArray := prog_10_method_38_code
def yX8_orders : MethodName := ⟨RX8, "orders", "()V"⟩
abbrev cX8_orderAt : ByteArray := prog_10_method_39_code
def yX8_orderAt : MethodName := ⟨RX8, "orderAt", "(I)I"⟩
abbrev cX8_affected : ByteArray := prog_10_method_40_code
def yX8_affected : MethodName := ⟨RX8, "affected", "(I)I"⟩
abbrev cX8_affectedBy : ByteArray := prog_10_method_41_code
def yX8_affectedBy : MethodName := ⟨RX8, "affectedBy", "(I)I"⟩
abbrev cX8_affectedByGoingDown : ByteArray := prog_10_method_42_code
def yX8_affectedByGoingDown : MethodName := ⟨RX8, "affectedByGoingDown", "(I)I"⟩
abbrev cX8_hasInputs : ByteArray := prog_10_method_43_code
def yX8_hasInputs : MethodName := ⟨RX8, "hasInputs", "(II)Z"⟩
abbrev cX8_given : ByteArray := prog_10_method_44_code
def yX8_given : MethodName := ⟨RX8, "given", "(I)I"⟩
abbrev cX8_laysKeys : ByteArray := prog_10_method_45_code
def yX8_laysKeys : MethodName := ⟨RX8, "laysKeys", "()V"⟩
abbrev cX8_keyOf : ByteArray := prog_10_method_46_code
def yX8_keyOf : MethodName := ⟨RX8, "keyOf", "(I)I"⟩
abbrev cX8_neededNow : ByteArray := prog_10_method_47_code
def yX8_neededNow : MethodName := ⟨RX8, "neededNow", "()I"⟩
abbrev cX8_needed : ByteArray := prog_10_method_48_code
def yX8_needed : MethodName := ⟨RX8, "needed", "()I"⟩
abbrev cX8_whyRun : ByteArray := prog_10_method_49_code
def yX8_whyRun : MethodName := ⟨RX8, "whyRun", "(I)I"⟩
abbrev cX8_runs : ByteArray := prog_10_method_50_code
def yX8_runs : MethodName := ⟨RX8, "runs", "(I)V"⟩
abbrev cX8_run : ByteArray := prog_10_method_51_code
def yX8_run : MethodName := ⟨RX8, "run", "(I)I"⟩
abbrev cX8_runAll : ByteArray := prog_10_method_52_code
def yX8_runAll : MethodName := ⟨RX8, "runAll", "()I"⟩
abbrev cX8_keys : ByteArray := prog_10_method_53_code
def yX8_keys : MethodName := ⟨RX8, "keys", "()I"⟩
abbrev cX8_spreads : ByteArray := prog_10_method_54_code
def yX8_spreads : MethodName := ⟨RX8, "spreads", "(I)I"⟩
abbrev cX8_shardOf : ByteArray := prog_10_method_55_code
def yX8_shardOf : MethodName := ⟨RX8, "shardOf", "(II)I"⟩
abbrev cX8_longestShard : ByteArray := prog_10_method_56_code
def yX8_longestShard : MethodName := ⟨RX8, "longestShard", "(I)I"⟩
abbrev cX8_shardsFor : ByteArray := prog_10_method_57_code
def yX8_shardsFor : MethodName := ⟨RX8, "shardsFor", "(I)I"⟩
abbrev cX8_addRule : ByteArray := prog_10_method_58_code
def yX8_addRule : MethodName := ⟨RX8, "addRule", "(I)I"⟩
abbrev cX8_ownerNow : ByteArray := prog_10_method_59_code
def yX8_ownerNow : MethodName := ⟨RX8, "ownerNow", "(I)I"⟩
abbrev cX8_ownerOf : ByteArray := prog_10_method_60_code
def yX8_ownerOf : MethodName := ⟨RX8, "ownerOf", "(I)I"⟩
abbrev cX8_mark : ByteArray := prog_10_method_61_code
def yX8_mark : MethodName := ⟨RX8, "mark", "()I"⟩
abbrev cX8_isChanged : ByteArray := prog_10_method_62_code
def yX8_isChanged : MethodName := ⟨RX8, "isChanged", "(I)Z"⟩
abbrev cX8_changed : ByteArray := prog_10_method_63_code
def yX8_changed : MethodName := ⟨RX8, "changed", "()I"⟩
abbrev cX8_reviewers : ByteArray := prog_10_method_64_code
def yX8_reviewers : MethodName := ⟨RX8, "reviewers", "()I"⟩
def RJx145de : String := "java/io/Serializable"
def TJx145de : u_T := fun k => match k with
  | _ => ("", "", "", false)
def tyJx145de : Nat → FieldType := fun k => match k with
  | _ => .int
abbrev wsJx145de0 : List Cond := u_ws RJx145de TJx145de 0
theorem nmJx145de : ∀ a, a < 0 → ∀ b, b < 0 → a ≠ b → (TJx145de a).2.1 ≠ (TJx145de b).2.1 := by decide +kernel
theorem tyJx145de_ok : ∀ k, k < 0 → parseFieldDescriptor (TJx145de k).2.2.1 = some (tyJx145de k) := by decide +kernel
def RJ6 : String := "java/lang/Integer"
def TJ6 : u_T := fun k => match k with
  | _ => ("", "", "", false)
def tyJ6 : Nat → FieldType := fun k => match k with
  | _ => .int
abbrev wsJ60 : List Cond := u_ws RJ6 TJ6 0
theorem nmJ6 : ∀ a, a < 0 → ∀ b, b < 0 → a ≠ b → (TJ6 a).2.1 ≠ (TJ6 b).2.1 := by decide +kernel
theorem tyJ6_ok : ∀ k, k < 0 → parseFieldDescriptor (TJ6 k).2.2.1 = some (tyJ6 k) := by decide +kernel
abbrev cJ6_bitCount_0f7a4 : ByteArray := prog_15_method_49_code
def yJ6_bitCount_0f7a4 : MethodName := ⟨RJ6, "bitCount", "(I)I"⟩
def RJ9 : String := "java/lang/Math"
def TJ9 : u_T := fun k => match k with
  | _ => ("", "", "", false)
def tyJ9 : Nat → FieldType := fun k => match k with
  | _ => .int
abbrev wsJ90 : List Cond := u_ws RJ9 TJ9 0
theorem nmJ9 : ∀ a, a < 0 → ∀ b, b < 0 → a ≠ b → (TJ9 a).2.1 ≠ (TJ9 b).2.1 := by decide +kernel
theorem tyJ9_ok : ∀ k, k < 0 → parseFieldDescriptor (TJ9 k).2.2.1 = some (tyJ9 k) := by decide +kernel
abbrev cJ9_max_7cf53 : ByteArray := prog_16_method_65_code
def yJ9_max_7cf53 : MethodName := ⟨RJ9, "max", "(II)I"⟩
def RJ0 : String := "java/lang/String"
def TJ0 : u_T := fun k => match k with
  | _ => ("", "", "", false)
def tyJ0 : Nat → FieldType := fun k => match k with
  | _ => .int
abbrev wsJ00 : List Cond := u_ws RJ0 TJ0 0
theorem nmJ0 : ∀ a, a < 0 → ∀ b, b < 0 → a ≠ b → (TJ0 a).2.1 ≠ (TJ0 b).2.1 := by decide +kernel
theorem tyJ0_ok : ∀ k, k < 0 → parseFieldDescriptor (TJ0 k).2.2.1 = some (tyJ0 k) := by decide +kernel
def RJ10 : String := "java/lang/System"
def TJ10 : u_T := fun k => match k with
  | _ => ("", "", "", false)
def tyJ10 : Nat → FieldType := fun k => match k with
  | _ => .int
abbrev wsJ100 : List Cond := u_ws RJ10 TJ10 0
theorem nmJ10 : ∀ a, a < 0 → ∀ b, b < 0 → a ≠ b → (TJ10 a).2.1 ≠ (TJ10 b).2.1 := by decide +kernel
theorem tyJ10_ok : ∀ k, k < 0 → parseFieldDescriptor (TJ10 k).2.2.1 = some (tyJ10 k) := by decide +kernel
def RJ7 : String := "java/util/Arrays"
def TJ7 : u_T := fun k => match k with
  | _ => ("", "", "", false)
def tyJ7 : Nat → FieldType := fun k => match k with
  | _ => .int
abbrev wsJ70 : List Cond := u_ws RJ7 TJ7 0
theorem nmJ7 : ∀ a, a < 0 → ∀ b, b < 0 → a ≠ b → (TJ7 a).2.1 ≠ (TJ7 b).2.1 := by decide +kernel
theorem tyJ7_ok : ∀ k, k < 0 → parseFieldDescriptor (TJ7 k).2.2.1 = some (tyJ7 k) := by decide +kernel
abbrev cJ7_fill_53178 : ByteArray := prog_21_method_103_code
def yJ7_fill_53178 : MethodName := ⟨RJ7, "fill", "([II)V"⟩
def RL : String := "MonobuildLaw"
abbrev cL_type : ByteArray := method_3_code
def yL_type : MethodName := ⟨RL, "type", "(LMonobuild;C[J)I"⟩
abbrev cL_addFile : ByteArray := method_4_code
def yL_addFile : MethodName := ⟨RL, "addFile", "(LMonobuild;I[J)I"⟩
abbrev cL_edit : ByteArray := method_5_code
def yL_edit : MethodName := ⟨RL, "edit", "(LMonobuild;II[J)I"⟩
abbrev cL_delete : ByteArray := method_6_code
def yL_delete : MethodName := ⟨RL, "delete", "(LMonobuild;I[J)I"⟩
abbrev cL_matches : ByteArray := method_7_code
def yL_matches : MethodName := ⟨RL, "matches", "(LMonobuild;I[J)I"⟩
abbrev cL_addTarget : ByteArray := method_8_code
def yL_addTarget : MethodName := ⟨RL, "addTarget", "(LMonobuild;I[J)I"⟩
abbrev cL_addGlob : ByteArray := method_9_code
def yL_addGlob : MethodName := ⟨RL, "addGlob", "(LMonobuild;I[J)I"⟩
abbrev cL_depend : ByteArray := method_10_code
def yL_depend : MethodName := ⟨RL, "depend", "(LMonobuild;II[J)I"⟩
abbrev cL_inputs : ByteArray := method_11_code
def yL_inputs : MethodName := ⟨RL, "inputs", "(LMonobuild;I[J)I"⟩
abbrev cL_above : ByteArray := method_12_code
def yL_above : MethodName := ⟨RL, "above", "(LMonobuild;I[J)I"⟩
abbrev cL_orderAt : ByteArray := method_13_code
def yL_orderAt : MethodName := ⟨RL, "orderAt", "(LMonobuild;I[J)I"⟩
abbrev cL_affectedBy : ByteArray := method_14_code
def yL_affectedBy : MethodName := ⟨RL, "affectedBy", "(LMonobuild;I[J)I"⟩
abbrev cL_affectedByGoingDown : ByteArray := method_15_code
def yL_affectedByGoingDown : MethodName := ⟨RL, "affectedByGoingDown", "(LMonobuild;I[J)I"⟩
abbrev cL_keyOf : ByteArray := method_16_code
def yL_keyOf : MethodName := ⟨RL, "keyOf", "(LMonobuild;I[J)I"⟩
abbrev cL_whyRun : ByteArray := method_17_code
def yL_whyRun : MethodName := ⟨RL, "whyRun", "(LMonobuild;I[J)I"⟩
abbrev cL_run : ByteArray := method_18_code
def yL_run : MethodName := ⟨RL, "run", "(LMonobuild;I[J)I"⟩
abbrev cL_runAll : ByteArray := method_19_code
def yL_runAll : MethodName := ⟨RL, "runAll", "(LMonobuild;[J)I"⟩
abbrev cL_shardOf : ByteArray := method_20_code
def yL_shardOf : MethodName := ⟨RL, "shardOf", "(LMonobuild;II[J)I"⟩
abbrev cL_longestShard : ByteArray := method_21_code
def yL_longestShard : MethodName := ⟨RL, "longestShard", "(LMonobuild;I[J)I"⟩
abbrev cL_shardsFor : ByteArray := method_22_code
def yL_shardsFor : MethodName := ⟨RL, "shardsFor", "(LMonobuild;I[J)I"⟩
abbrev cL_addRule : ByteArray := method_23_code
def yL_addRule : MethodName := ⟨RL, "addRule", "(LMonobuild;I[J)I"⟩
abbrev cL_ownerOf : ByteArray := method_24_code
def yL_ownerOf : MethodName := ⟨RL, "ownerOf", "(LMonobuild;I[J)I"⟩
abbrev cL_law : ByteArray := code
def yL_law : MethodName := ⟨RL, "law", "([I)Z"⟩
theorem inJx145de : ∀ w ∈ wsJx145de0, w ∈ lw_tbl := by decide +kernel
theorem inJ6 : ∀ w ∈ wsJ60, w ∈ lw_tbl := by decide +kernel
theorem inJ9 : ∀ w ∈ wsJ90, w ∈ lw_tbl := by decide +kernel
theorem inJ0 : ∀ w ∈ wsJ00, w ∈ lw_tbl := by decide +kernel
theorem inJ10 : ∀ w ∈ wsJ100, w ∈ lw_tbl := by decide +kernel
theorem inJ7 : ∀ w ∈ wsJ70, w ∈ lw_tbl := by decide +kernel
abbrev vwCl : List vw_C := [(RX0, TX0, 6), (RX1, TX1, 4), (RX2, TX2, 5), (RX3, TX3, 8), (RX4, TX4, 2), (RX5, TX5, 2), (RX6, TX6, 2), (RX7, TX7, 6), (RX8, TX8, 27)]
end
section
theorem dX0_init_0 : decode cX0_init 0 = .ok (.aload_n 0, 1) := by decide +kernel
theorem dX0_init_1 : decode cX0_init 1 = .ok (.invokespecial 3, 3) := by decide +kernel
theorem dX0_init_4 : decode cX0_init 4 = .ok (.aload_n 0, 1) := by decide +kernel
theorem dX0_init_5 : decode cX0_init 5 = .ok (.bipush 24, 2) := by decide +kernel
theorem dX0_init_7 : decode cX0_init 7 = .ok (.anewarray 9, 3) := by decide +kernel
theorem dX0_init_10 : decode cX0_init 10 = .ok (.putfield 11, 3) := by decide +kernel
theorem dX0_init_13 : decode cX0_init 13 = .ok (.aload_n 0, 1) := by decide +kernel
theorem dX0_init_14 : decode cX0_init 14 = .ok (.bipush 24, 2) := by decide +kernel
theorem dX0_init_16 : decode cX0_init 16 = .ok (.newarray .int, 2) := by decide +kernel
theorem dX0_init_18 : decode cX0_init 18 = .ok (.putfield 17, 3) := by decide +kernel
theorem dX0_init_21 : decode cX0_init 21 = .ok (.aload_n 0, 1) := by decide +kernel
theorem dX0_init_22 : decode cX0_init 22 = .ok (.bipush 24, 2) := by decide +kernel
theorem dX0_init_24 : decode cX0_init 24 = .ok (.newarray .int, 2) := by decide +kernel
theorem dX0_init_26 : decode cX0_init 26 = .ok (.putfield 21, 3) := by decide +kernel
theorem dX0_init_29 : decode cX0_init 29 = .ok (.iconst 0, 1) := by decide +kernel
theorem dX0_init_30 : decode cX0_init 30 = .ok (.istore_n 1, 1) := by decide +kernel
theorem dX0_init_31 : decode cX0_init 31 = .ok (.iload_n 1, 1) := by decide +kernel
theorem dX0_init_32 : decode cX0_init 32 = .ok (.bipush 24, 2) := by decide +kernel
theorem dX0_init_34 : decode cX0_init 34 = .ok (.if_icmp .ge 22, 3) := by decide +kernel
theorem dX0_init_37 : decode cX0_init 37 = .ok (.aload_n 0, 1) := by decide +kernel
theorem dX0_init_38 : decode cX0_init 38 = .ok (.getfield 11, 3) := by decide +kernel
theorem dX0_init_41 : decode cX0_init 41 = .ok (.iload_n 1, 1) := by decide +kernel
theorem dX0_init_42 : decode cX0_init 42 = .ok (.new 9, 3) := by decide +kernel
theorem dX0_init_45 : decode cX0_init 45 = .ok (.dup, 1) := by decide +kernel
theorem dX0_init_46 : decode cX0_init 46 = .ok (.invokespecial 24, 3) := by decide +kernel
theorem dX0_init_49 : decode cX0_init 49 = .ok (.aastore, 1) := by decide +kernel
theorem dX0_init_50 : decode cX0_init 50 = .ok (.iinc 1 1, 3) := by decide +kernel
theorem dX0_init_53 : decode cX0_init 53 = .ok (.goto (-22), 3) := by decide +kernel
theorem dX0_init_56 : decode cX0_init 56 = .ok (.return_, 1) := by decide +kernel
theorem dX0_has_0 : decode cX0_has 0 = .ok (.iload_n 1, 1) := by decide +kernel
theorem dX0_has_1 : decode cX0_has 1 = .ok (.ifCond .lt 15, 3) := by decide +kernel
theorem dX0_has_4 : decode cX0_has 4 = .ok (.iload_n 1, 1) := by decide +kernel
theorem dX0_has_5 : decode cX0_has 5 = .ok (.aload_n 0, 1) := by decide +kernel
theorem dX0_has_6 : decode cX0_has 6 = .ok (.getfield 25, 3) := by decide +kernel
theorem dX0_has_9 : decode cX0_has 9 = .ok (.if_icmp .ge 7, 3) := by decide +kernel
theorem dX0_has_12 : decode cX0_has 12 = .ok (.iconst 1, 1) := by decide +kernel
theorem dX0_has_13 : decode cX0_has 13 = .ok (.goto 4, 3) := by decide +kernel
theorem dX0_has_16 : decode cX0_has 16 = .ok (.iconst 0, 1) := by decide +kernel
theorem dX0_has_17 : decode cX0_has 17 = .ok (.ireturn, 1) := by decide +kernel
theorem dX0_isThere_0 : decode cX0_isThere 0 = .ok (.aload_n 0, 1) := by decide +kernel
theorem dX0_isThere_1 : decode cX0_isThere 1 = .ok (.iload_n 1, 1) := by decide +kernel
theorem dX0_isThere_2 : decode cX0_isThere 2 = .ok (.invokevirtual 29, 3) := by decide +kernel
theorem dX0_isThere_5 : decode cX0_isThere 5 = .ok (.ifCond .eq 18, 3) := by decide +kernel
theorem dX0_isThere_8 : decode cX0_isThere 8 = .ok (.aload_n 0, 1) := by decide +kernel
theorem dX0_isThere_9 : decode cX0_isThere 9 = .ok (.getfield 33, 3) := by decide +kernel
theorem dX0_isThere_12 : decode cX0_isThere 12 = .ok (.iload_n 1, 1) := by decide +kernel
theorem dX0_isThere_13 : decode cX0_isThere 13 = .ok (.invokestatic 36, 3) := by decide +kernel
theorem dX0_isThere_16 : decode cX0_isThere 16 = .ok (.ifCond .eq 7, 3) := by decide +kernel
theorem dX0_isThere_19 : decode cX0_isThere 19 = .ok (.iconst 1, 1) := by decide +kernel
theorem dX0_isThere_20 : decode cX0_isThere 20 = .ok (.goto 4, 3) := by decide +kernel
theorem dX0_isThere_23 : decode cX0_isThere 23 = .ok (.iconst 0, 1) := by decide +kernel
theorem dX0_isThere_24 : decode cX0_isThere 24 = .ok (.ireturn, 1) := by decide +kernel
theorem dX0_isFull_0 : decode cX0_isFull 0 = .ok (.aload_n 0, 1) := by decide +kernel
theorem dX0_isFull_1 : decode cX0_isFull 1 = .ok (.getfield 25, 3) := by decide +kernel
theorem dX0_isFull_4 : decode cX0_isFull 4 = .ok (.bipush 24, 2) := by decide +kernel
theorem dX0_isFull_6 : decode cX0_isFull 6 = .ok (.if_icmp .lt 7, 3) := by decide +kernel
theorem dX0_isFull_9 : decode cX0_isFull 9 = .ok (.iconst 1, 1) := by decide +kernel
theorem dX0_isFull_10 : decode cX0_isFull 10 = .ok (.goto 4, 3) := by decide +kernel
theorem dX0_isFull_13 : decode cX0_isFull 13 = .ok (.iconst 0, 1) := by decide +kernel
theorem dX0_isFull_14 : decode cX0_isFull 14 = .ok (.ireturn, 1) := by decide +kernel
theorem dX0_present_0 : decode cX0_present 0 = .ok (.aload_n 0, 1) := by decide +kernel
theorem dX0_present_1 : decode cX0_present 1 = .ok (.getfield 33, 3) := by decide +kernel
theorem dX0_present_4 : decode cX0_present 4 = .ok (.ireturn, 1) := by decide +kernel
theorem dX0_pathOf_0 : decode cX0_pathOf 0 = .ok (.aload_n 0, 1) := by decide +kernel
theorem dX0_pathOf_1 : decode cX0_pathOf 1 = .ok (.getfield 11, 3) := by decide +kernel
theorem dX0_pathOf_4 : decode cX0_pathOf 4 = .ok (.iload_n 1, 1) := by decide +kernel
theorem dX0_pathOf_5 : decode cX0_pathOf 5 = .ok (.aaload, 1) := by decide +kernel
theorem dX0_pathOf_6 : decode cX0_pathOf 6 = .ok (.areturn, 1) := by decide +kernel
theorem dX0_contentOf_0 : decode cX0_contentOf 0 = .ok (.aload_n 0, 1) := by decide +kernel
theorem dX0_contentOf_1 : decode cX0_contentOf 1 = .ok (.getfield 17, 3) := by decide +kernel
theorem dX0_contentOf_4 : decode cX0_contentOf 4 = .ok (.iload_n 1, 1) := by decide +kernel
theorem dX0_contentOf_5 : decode cX0_contentOf 5 = .ok (.iaload, 1) := by decide +kernel
theorem dX0_contentOf_6 : decode cX0_contentOf 6 = .ok (.ireturn, 1) := by decide +kernel
theorem dX0_numberOf_0 : decode cX0_numberOf 0 = .ok (.iconst 0, 1) := by decide +kernel
theorem dX0_numberOf_1 : decode cX0_numberOf 1 = .ok (.istore_n 2, 1) := by decide +kernel
theorem dX0_numberOf_2 : decode cX0_numberOf 2 = .ok (.iload_n 2, 1) := by decide +kernel
theorem dX0_numberOf_3 : decode cX0_numberOf 3 = .ok (.aload_n 0, 1) := by decide +kernel
theorem dX0_numberOf_4 : decode cX0_numberOf 4 = .ok (.getfield 25, 3) := by decide +kernel
theorem dX0_numberOf_7 : decode cX0_numberOf 7 = .ok (.if_icmp .ge 24, 3) := by decide +kernel
theorem dX0_numberOf_10 : decode cX0_numberOf 10 = .ok (.aload_n 0, 1) := by decide +kernel
theorem dX0_numberOf_11 : decode cX0_numberOf 11 = .ok (.getfield 11, 3) := by decide +kernel
theorem dX0_numberOf_14 : decode cX0_numberOf 14 = .ok (.iload_n 2, 1) := by decide +kernel
theorem dX0_numberOf_15 : decode cX0_numberOf 15 = .ok (.aaload, 1) := by decide +kernel
theorem dX0_numberOf_16 : decode cX0_numberOf 16 = .ok (.aload_n 1, 1) := by decide +kernel
theorem dX0_numberOf_17 : decode cX0_numberOf 17 = .ok (.invokevirtual 40, 3) := by decide +kernel
theorem dX0_numberOf_20 : decode cX0_numberOf 20 = .ok (.ifCond .eq 5, 3) := by decide +kernel
theorem dX0_numberOf_23 : decode cX0_numberOf 23 = .ok (.iload_n 2, 1) := by decide +kernel
theorem dX0_numberOf_24 : decode cX0_numberOf 24 = .ok (.ireturn, 1) := by decide +kernel
theorem dX0_numberOf_25 : decode cX0_numberOf 25 = .ok (.iinc 2 1, 3) := by decide +kernel
theorem dX0_numberOf_28 : decode cX0_numberOf 28 = .ok (.goto (-26), 3) := by decide +kernel
theorem dX0_numberOf_31 : decode cX0_numberOf 31 = .ok (.iconst (-1), 1) := by decide +kernel
theorem dX0_numberOf_32 : decode cX0_numberOf 32 = .ok (.ireturn, 1) := by decide +kernel
theorem dX0_addPath_0 : decode cX0_addPath 0 = .ok (.aload_n 0, 1) := by decide +kernel
theorem dX0_addPath_1 : decode cX0_addPath 1 = .ok (.getfield 25, 3) := by decide +kernel
theorem dX0_addPath_4 : decode cX0_addPath 4 = .ok (.istore_n 2, 1) := by decide +kernel
theorem dX0_addPath_5 : decode cX0_addPath 5 = .ok (.aload_n 0, 1) := by decide +kernel
theorem dX0_addPath_6 : decode cX0_addPath 6 = .ok (.getfield 11, 3) := by decide +kernel
theorem dX0_addPath_9 : decode cX0_addPath 9 = .ok (.iload_n 2, 1) := by decide +kernel
theorem dX0_addPath_10 : decode cX0_addPath 10 = .ok (.aaload, 1) := by decide +kernel
theorem dX0_addPath_11 : decode cX0_addPath 11 = .ok (.aload_n 1, 1) := by decide +kernel
theorem dX0_addPath_12 : decode cX0_addPath 12 = .ok (.invokevirtual 44, 3) := by decide +kernel
theorem dX0_addPath_15 : decode cX0_addPath 15 = .ok (.aload_n 0, 1) := by decide +kernel
theorem dX0_addPath_16 : decode cX0_addPath 16 = .ok (.dup, 1) := by decide +kernel
theorem dX0_addPath_17 : decode cX0_addPath 17 = .ok (.getfield 25, 3) := by decide +kernel
theorem dX0_addPath_20 : decode cX0_addPath 20 = .ok (.iconst 1, 1) := by decide +kernel
theorem dX0_addPath_21 : decode cX0_addPath 21 = .ok (.iadd, 1) := by decide +kernel
theorem dX0_addPath_22 : decode cX0_addPath 22 = .ok (.putfield 25, 3) := by decide +kernel
theorem dX0_addPath_25 : decode cX0_addPath 25 = .ok (.iload_n 2, 1) := by decide +kernel
theorem dX0_addPath_26 : decode cX0_addPath 26 = .ok (.ireturn, 1) := by decide +kernel
theorem dX0_put_0 : decode cX0_put 0 = .ok (.aload_n 0, 1) := by decide +kernel
theorem dX0_put_1 : decode cX0_put 1 = .ok (.getfield 17, 3) := by decide +kernel
theorem dX0_put_4 : decode cX0_put 4 = .ok (.iload_n 1, 1) := by decide +kernel
theorem dX0_put_5 : decode cX0_put 5 = .ok (.iload_n 2, 1) := by decide +kernel
theorem dX0_put_6 : decode cX0_put 6 = .ok (.iastore, 1) := by decide +kernel
theorem dX0_put_7 : decode cX0_put 7 = .ok (.aload_n 0, 1) := by decide +kernel
theorem dX0_put_8 : decode cX0_put 8 = .ok (.dup, 1) := by decide +kernel
theorem dX0_put_9 : decode cX0_put 9 = .ok (.getfield 33, 3) := by decide +kernel
theorem dX0_put_12 : decode cX0_put 12 = .ok (.iconst 1, 1) := by decide +kernel
theorem dX0_put_13 : decode cX0_put 13 = .ok (.iload_n 1, 1) := by decide +kernel
theorem dX0_put_14 : decode cX0_put 14 = .ok (.ishl, 1) := by decide +kernel
theorem dX0_put_15 : decode cX0_put 15 = .ok (.ior, 1) := by decide +kernel
theorem dX0_put_16 : decode cX0_put 16 = .ok (.putfield 33, 3) := by decide +kernel
theorem dX0_put_19 : decode cX0_put 19 = .ok (.return_, 1) := by decide +kernel
theorem dX0_remove_0 : decode cX0_remove 0 = .ok (.aload_n 0, 1) := by decide +kernel
theorem dX0_remove_1 : decode cX0_remove 1 = .ok (.dup, 1) := by decide +kernel
theorem dX0_remove_2 : decode cX0_remove 2 = .ok (.getfield 33, 3) := by decide +kernel
theorem dX0_remove_5 : decode cX0_remove 5 = .ok (.iconst 1, 1) := by decide +kernel
theorem dX0_remove_6 : decode cX0_remove 6 = .ok (.iload_n 1, 1) := by decide +kernel
theorem dX0_remove_7 : decode cX0_remove 7 = .ok (.ishl, 1) := by decide +kernel
theorem dX0_remove_8 : decode cX0_remove 8 = .ok (.iconst (-1), 1) := by decide +kernel
theorem dX0_remove_9 : decode cX0_remove 9 = .ok (.ixor, 1) := by decide +kernel
theorem dX0_remove_10 : decode cX0_remove 10 = .ok (.iand, 1) := by decide +kernel
theorem dX0_remove_11 : decode cX0_remove 11 = .ok (.putfield 33, 3) := by decide +kernel
theorem dX0_remove_14 : decode cX0_remove 14 = .ok (.return_, 1) := by decide +kernel
theorem dX0_coveredBy_0 : decode cX0_coveredBy 0 = .ok (.iconst 0, 1) := by decide +kernel
theorem dX0_coveredBy_1 : decode cX0_coveredBy 1 = .ok (.istore_n 2, 1) := by decide +kernel
theorem dX0_coveredBy_2 : decode cX0_coveredBy 2 = .ok (.iconst 0, 1) := by decide +kernel
theorem dX0_coveredBy_3 : decode cX0_coveredBy 3 = .ok (.istore_n 3, 1) := by decide +kernel
theorem dX0_coveredBy_4 : decode cX0_coveredBy 4 = .ok (.iload_n 3, 1) := by decide +kernel
theorem dX0_coveredBy_5 : decode cX0_coveredBy 5 = .ok (.aload_n 0, 1) := by decide +kernel
theorem dX0_coveredBy_6 : decode cX0_coveredBy 6 = .ok (.getfield 25, 3) := by decide +kernel
theorem dX0_coveredBy_9 : decode cX0_coveredBy 9 = .ok (.if_icmp .ge 28, 3) := by decide +kernel
theorem dX0_coveredBy_12 : decode cX0_coveredBy 12 = .ok (.aload_n 1, 1) := by decide +kernel
theorem dX0_coveredBy_13 : decode cX0_coveredBy 13 = .ok (.aload_n 0, 1) := by decide +kernel
theorem dX0_coveredBy_14 : decode cX0_coveredBy 14 = .ok (.getfield 11, 3) := by decide +kernel
theorem dX0_coveredBy_17 : decode cX0_coveredBy 17 = .ok (.iload_n 3, 1) := by decide +kernel
theorem dX0_coveredBy_18 : decode cX0_coveredBy 18 = .ok (.aaload, 1) := by decide +kernel
theorem dX0_coveredBy_19 : decode cX0_coveredBy 19 = .ok (.invokevirtual 48, 3) := by decide +kernel
theorem dX0_coveredBy_22 : decode cX0_coveredBy 22 = .ok (.ifCond .eq 9, 3) := by decide +kernel
theorem dX0_coveredBy_25 : decode cX0_coveredBy 25 = .ok (.iload_n 2, 1) := by decide +kernel
theorem dX0_coveredBy_26 : decode cX0_coveredBy 26 = .ok (.iconst 1, 1) := by decide +kernel
theorem dX0_coveredBy_27 : decode cX0_coveredBy 27 = .ok (.iload_n 3, 1) := by decide +kernel
theorem dX0_coveredBy_28 : decode cX0_coveredBy 28 = .ok (.ishl, 1) := by decide +kernel
theorem dX0_coveredBy_29 : decode cX0_coveredBy 29 = .ok (.ior, 1) := by decide +kernel
theorem dX0_coveredBy_30 : decode cX0_coveredBy 30 = .ok (.istore_n 2, 1) := by decide +kernel
theorem dX0_coveredBy_31 : decode cX0_coveredBy 31 = .ok (.iinc 3 1, 3) := by decide +kernel
theorem dX0_coveredBy_34 : decode cX0_coveredBy 34 = .ok (.goto (-30), 3) := by decide +kernel
theorem dX0_coveredBy_37 : decode cX0_coveredBy 37 = .ok (.iload_n 2, 1) := by decide +kernel
theorem dX0_coveredBy_38 : decode cX0_coveredBy 38 = .ok (.ireturn, 1) := by decide +kernel
theorem dX0_keepMark_0 : decode cX0_keepMark 0 = .ok (.aload_n 0, 1) := by decide +kernel
theorem dX0_keepMark_1 : decode cX0_keepMark 1 = .ok (.aload_n 0, 1) := by decide +kernel
theorem dX0_keepMark_2 : decode cX0_keepMark 2 = .ok (.getfield 33, 3) := by decide +kernel
theorem dX0_keepMark_5 : decode cX0_keepMark 5 = .ok (.putfield 51, 3) := by decide +kernel
theorem dX0_keepMark_8 : decode cX0_keepMark 8 = .ok (.aload_n 0, 1) := by decide +kernel
theorem dX0_keepMark_9 : decode cX0_keepMark 9 = .ok (.getfield 17, 3) := by decide +kernel
theorem dX0_keepMark_12 : decode cX0_keepMark 12 = .ok (.iconst 0, 1) := by decide +kernel
theorem dX0_keepMark_13 : decode cX0_keepMark 13 = .ok (.aload_n 0, 1) := by decide +kernel
theorem dX0_keepMark_14 : decode cX0_keepMark 14 = .ok (.getfield 21, 3) := by decide +kernel
theorem dX0_keepMark_17 : decode cX0_keepMark 17 = .ok (.iconst 0, 1) := by decide +kernel
theorem dX0_keepMark_18 : decode cX0_keepMark 18 = .ok (.bipush 24, 2) := by decide +kernel
theorem dX0_keepMark_20 : decode cX0_keepMark 20 = .ok (.invokestatic 54, 3) := by decide +kernel
theorem dX0_keepMark_23 : decode cX0_keepMark 23 = .ok (.return_, 1) := by decide +kernel
theorem dX0_sinceMark_0 : decode cX0_sinceMark 0 = .ok (.aload_n 0, 1) := by decide +kernel
theorem dX0_sinceMark_1 : decode cX0_sinceMark 1 = .ok (.getfield 33, 3) := by decide +kernel
theorem dX0_sinceMark_4 : decode cX0_sinceMark 4 = .ok (.aload_n 0, 1) := by decide +kernel
theorem dX0_sinceMark_5 : decode cX0_sinceMark 5 = .ok (.getfield 51, 3) := by decide +kernel
theorem dX0_sinceMark_8 : decode cX0_sinceMark 8 = .ok (.ixor, 1) := by decide +kernel
theorem dX0_sinceMark_9 : decode cX0_sinceMark 9 = .ok (.istore_n 1, 1) := by decide +kernel
theorem dX0_sinceMark_10 : decode cX0_sinceMark 10 = .ok (.iconst 0, 1) := by decide +kernel
theorem dX0_sinceMark_11 : decode cX0_sinceMark 11 = .ok (.istore_n 2, 1) := by decide +kernel
theorem dX0_sinceMark_12 : decode cX0_sinceMark 12 = .ok (.iload_n 2, 1) := by decide +kernel
theorem dX0_sinceMark_13 : decode cX0_sinceMark 13 = .ok (.aload_n 0, 1) := by decide +kernel
theorem dX0_sinceMark_14 : decode cX0_sinceMark 14 = .ok (.getfield 25, 3) := by decide +kernel
theorem dX0_sinceMark_17 : decode cX0_sinceMark 17 = .ok (.if_icmp .ge 46, 3) := by decide +kernel
theorem dX0_sinceMark_20 : decode cX0_sinceMark 20 = .ok (.aload_n 0, 1) := by decide +kernel
theorem dX0_sinceMark_21 : decode cX0_sinceMark 21 = .ok (.getfield 33, 3) := by decide +kernel
theorem dX0_sinceMark_24 : decode cX0_sinceMark 24 = .ok (.aload_n 0, 1) := by decide +kernel
theorem dX0_sinceMark_25 : decode cX0_sinceMark 25 = .ok (.getfield 51, 3) := by decide +kernel
theorem dX0_sinceMark_28 : decode cX0_sinceMark 28 = .ok (.iand, 1) := by decide +kernel
theorem dX0_sinceMark_29 : decode cX0_sinceMark 29 = .ok (.iload_n 2, 1) := by decide +kernel
theorem dX0_sinceMark_30 : decode cX0_sinceMark 30 = .ok (.invokestatic 36, 3) := by decide +kernel
theorem dX0_sinceMark_33 : decode cX0_sinceMark 33 = .ok (.ifCond .eq 24, 3) := by decide +kernel
theorem dX0_sinceMark_36 : decode cX0_sinceMark 36 = .ok (.aload_n 0, 1) := by decide +kernel
theorem dX0_sinceMark_37 : decode cX0_sinceMark 37 = .ok (.getfield 17, 3) := by decide +kernel
theorem dX0_sinceMark_40 : decode cX0_sinceMark 40 = .ok (.iload_n 2, 1) := by decide +kernel
theorem dX0_sinceMark_41 : decode cX0_sinceMark 41 = .ok (.iaload, 1) := by decide +kernel
theorem dX0_sinceMark_42 : decode cX0_sinceMark 42 = .ok (.aload_n 0, 1) := by decide +kernel
theorem dX0_sinceMark_43 : decode cX0_sinceMark 43 = .ok (.getfield 21, 3) := by decide +kernel
theorem dX0_sinceMark_46 : decode cX0_sinceMark 46 = .ok (.iload_n 2, 1) := by decide +kernel
theorem dX0_sinceMark_47 : decode cX0_sinceMark 47 = .ok (.iaload, 1) := by decide +kernel
theorem dX0_sinceMark_48 : decode cX0_sinceMark 48 = .ok (.if_icmp .eq 9, 3) := by decide +kernel
theorem dX0_sinceMark_51 : decode cX0_sinceMark 51 = .ok (.iload_n 1, 1) := by decide +kernel
theorem dX0_sinceMark_52 : decode cX0_sinceMark 52 = .ok (.iconst 1, 1) := by decide +kernel
theorem dX0_sinceMark_53 : decode cX0_sinceMark 53 = .ok (.iload_n 2, 1) := by decide +kernel
theorem dX0_sinceMark_54 : decode cX0_sinceMark 54 = .ok (.ishl, 1) := by decide +kernel
theorem dX0_sinceMark_55 : decode cX0_sinceMark 55 = .ok (.ior, 1) := by decide +kernel
theorem dX0_sinceMark_56 : decode cX0_sinceMark 56 = .ok (.istore_n 1, 1) := by decide +kernel
theorem dX0_sinceMark_57 : decode cX0_sinceMark 57 = .ok (.iinc 2 1, 3) := by decide +kernel
theorem dX0_sinceMark_60 : decode cX0_sinceMark 60 = .ok (.goto (-48), 3) := by decide +kernel
theorem dX0_sinceMark_63 : decode cX0_sinceMark 63 = .ok (.iload_n 1, 1) := by decide +kernel
theorem dX0_sinceMark_64 : decode cX0_sinceMark 64 = .ok (.ireturn, 1) := by decide +kernel
theorem dX1_init_0 : decode cX1_init 0 = .ok (.aload_n 0, 1) := by decide +kernel
theorem dX1_init_1 : decode cX1_init 1 = .ok (.invokespecial 3, 3) := by decide +kernel
theorem dX1_init_4 : decode cX1_init 4 = .ok (.aload_n 0, 1) := by decide +kernel
theorem dX1_init_5 : decode cX1_init 5 = .ok (.iconst 0, 1) := by decide +kernel
theorem dX1_init_6 : decode cX1_init 6 = .ok (.iload_n 1, 1) := by decide +kernel
theorem dX1_init_7 : decode cX1_init 7 = .ok (.invokestatic 9, 3) := by decide +kernel
theorem dX1_init_10 : decode cX1_init 10 = .ok (.putfield 15, 3) := by decide +kernel
theorem dX1_init_13 : decode cX1_init 13 = .ok (.aload_n 0, 1) := by decide +kernel
theorem dX1_init_14 : decode cX1_init 14 = .ok (.aload_n 0, 1) := by decide +kernel
theorem dX1_init_15 : decode cX1_init 15 = .ok (.getfield 15, 3) := by decide +kernel
theorem dX1_init_18 : decode cX1_init 18 = .ok (.anewarray 21, 3) := by decide +kernel
theorem dX1_init_21 : decode cX1_init 21 = .ok (.putfield 23, 3) := by decide +kernel
theorem dX1_init_24 : decode cX1_init 24 = .ok (.aload_n 0, 1) := by decide +kernel
theorem dX1_init_25 : decode cX1_init 25 = .ok (.aload_n 0, 1) := by decide +kernel
theorem dX1_init_26 : decode cX1_init 26 = .ok (.getfield 15, 3) := by decide +kernel
theorem dX1_init_29 : decode cX1_init 29 = .ok (.newarray .int, 2) := by decide +kernel
theorem dX1_init_31 : decode cX1_init 31 = .ok (.putfield 27, 3) := by decide +kernel
theorem dX1_init_34 : decode cX1_init 34 = .ok (.iconst 0, 1) := by decide +kernel
theorem dX1_init_35 : decode cX1_init 35 = .ok (.istore_n 2, 1) := by decide +kernel
theorem dX1_init_36 : decode cX1_init 36 = .ok (.iload_n 2, 1) := by decide +kernel
theorem dX1_init_37 : decode cX1_init 37 = .ok (.aload_n 0, 1) := by decide +kernel
theorem dX1_init_38 : decode cX1_init 38 = .ok (.getfield 15, 3) := by decide +kernel
theorem dX1_init_41 : decode cX1_init 41 = .ok (.if_icmp .ge 22, 3) := by decide +kernel
theorem dX1_init_44 : decode cX1_init 44 = .ok (.aload_n 0, 1) := by decide +kernel
theorem dX1_init_45 : decode cX1_init 45 = .ok (.getfield 23, 3) := by decide +kernel
theorem dX1_init_48 : decode cX1_init 48 = .ok (.iload_n 2, 1) := by decide +kernel
theorem dX1_init_49 : decode cX1_init 49 = .ok (.new 21, 3) := by decide +kernel
theorem dX1_init_52 : decode cX1_init 52 = .ok (.dup, 1) := by decide +kernel
theorem dX1_init_53 : decode cX1_init 53 = .ok (.invokespecial 31, 3) := by decide +kernel
theorem dX1_init_56 : decode cX1_init 56 = .ok (.aastore, 1) := by decide +kernel
theorem dX1_init_57 : decode cX1_init 57 = .ok (.iinc 2 1, 3) := by decide +kernel
theorem dX1_init_60 : decode cX1_init 60 = .ok (.goto (-24), 3) := by decide +kernel
theorem dX1_init_63 : decode cX1_init 63 = .ok (.return_, 1) := by decide +kernel
theorem dX1_size_0 : decode cX1_size 0 = .ok (.aload_n 0, 1) := by decide +kernel
theorem dX1_size_1 : decode cX1_size 1 = .ok (.getfield 32, 3) := by decide +kernel
theorem dX1_size_4 : decode cX1_size 4 = .ok (.ireturn, 1) := by decide +kernel
theorem dX1_isFull_0 : decode cX1_isFull 0 = .ok (.aload_n 0, 1) := by decide +kernel
theorem dX1_isFull_1 : decode cX1_isFull 1 = .ok (.getfield 32, 3) := by decide +kernel
theorem dX1_isFull_4 : decode cX1_isFull 4 = .ok (.aload_n 0, 1) := by decide +kernel
theorem dX1_isFull_5 : decode cX1_isFull 5 = .ok (.getfield 15, 3) := by decide +kernel
theorem dX1_isFull_8 : decode cX1_isFull 8 = .ok (.if_icmp .lt 7, 3) := by decide +kernel
theorem dX1_isFull_11 : decode cX1_isFull 11 = .ok (.iconst 1, 1) := by decide +kernel
theorem dX1_isFull_12 : decode cX1_isFull 12 = .ok (.goto 4, 3) := by decide +kernel
theorem dX1_isFull_15 : decode cX1_isFull 15 = .ok (.iconst 0, 1) := by decide +kernel
theorem dX1_isFull_16 : decode cX1_isFull 16 = .ok (.ireturn, 1) := by decide +kernel
theorem dX1_add_0 : decode cX1_add 0 = .ok (.aload_n 0, 1) := by decide +kernel
theorem dX1_add_1 : decode cX1_add 1 = .ok (.getfield 23, 3) := by decide +kernel
theorem dX1_add_4 : decode cX1_add 4 = .ok (.aload_n 0, 1) := by decide +kernel
theorem dX1_add_5 : decode cX1_add 5 = .ok (.getfield 32, 3) := by decide +kernel
theorem dX1_add_8 : decode cX1_add 8 = .ok (.aaload, 1) := by decide +kernel
theorem dX1_add_9 : decode cX1_add 9 = .ok (.aload_n 1, 1) := by decide +kernel
theorem dX1_add_10 : decode cX1_add 10 = .ok (.invokevirtual 35, 3) := by decide +kernel
theorem dX1_add_13 : decode cX1_add 13 = .ok (.aload_n 0, 1) := by decide +kernel
theorem dX1_add_14 : decode cX1_add 14 = .ok (.getfield 27, 3) := by decide +kernel
theorem dX1_add_17 : decode cX1_add 17 = .ok (.aload_n 0, 1) := by decide +kernel
theorem dX1_add_18 : decode cX1_add 18 = .ok (.getfield 32, 3) := by decide +kernel
theorem dX1_add_21 : decode cX1_add 21 = .ok (.iload_n 2, 1) := by decide +kernel
theorem dX1_add_22 : decode cX1_add 22 = .ok (.iastore, 1) := by decide +kernel
theorem dX1_add_23 : decode cX1_add 23 = .ok (.aload_n 0, 1) := by decide +kernel
theorem dX1_add_24 : decode cX1_add 24 = .ok (.dup, 1) := by decide +kernel
theorem dX1_add_25 : decode cX1_add 25 = .ok (.getfield 32, 3) := by decide +kernel
theorem dX1_add_28 : decode cX1_add 28 = .ok (.iconst 1, 1) := by decide +kernel
theorem dX1_add_29 : decode cX1_add 29 = .ok (.iadd, 1) := by decide +kernel
theorem dX1_add_30 : decode cX1_add 30 = .ok (.putfield 32, 3) := by decide +kernel
theorem dX1_add_33 : decode cX1_add 33 = .ok (.return_, 1) := by decide +kernel
theorem dX1_meetFile_0 : decode cX1_meetFile 0 = .ok (.iconst 0, 1) := by decide +kernel
theorem dX1_meetFile_1 : decode cX1_meetFile 1 = .ok (.istore_n 3, 1) := by decide +kernel
theorem dX1_meetFile_2 : decode cX1_meetFile 2 = .ok (.iload_n 3, 1) := by decide +kernel
theorem dX1_meetFile_3 : decode cX1_meetFile 3 = .ok (.aload_n 0, 1) := by decide +kernel
theorem dX1_meetFile_4 : decode cX1_meetFile 4 = .ok (.getfield 32, 3) := by decide +kernel
theorem dX1_meetFile_7 : decode cX1_meetFile 7 = .ok (.if_icmp .ge 34, 3) := by decide +kernel
theorem dX1_meetFile_10 : decode cX1_meetFile 10 = .ok (.aload_n 0, 1) := by decide +kernel
theorem dX1_meetFile_11 : decode cX1_meetFile 11 = .ok (.getfield 23, 3) := by decide +kernel
theorem dX1_meetFile_14 : decode cX1_meetFile 14 = .ok (.iload_n 3, 1) := by decide +kernel
theorem dX1_meetFile_15 : decode cX1_meetFile 15 = .ok (.aaload, 1) := by decide +kernel
theorem dX1_meetFile_16 : decode cX1_meetFile 16 = .ok (.aload_n 2, 1) := by decide +kernel
theorem dX1_meetFile_17 : decode cX1_meetFile 17 = .ok (.invokevirtual 39, 3) := by decide +kernel
theorem dX1_meetFile_20 : decode cX1_meetFile 20 = .ok (.ifCond .eq 15, 3) := by decide +kernel
theorem dX1_meetFile_23 : decode cX1_meetFile 23 = .ok (.aload_n 0, 1) := by decide +kernel
theorem dX1_meetFile_24 : decode cX1_meetFile 24 = .ok (.getfield 27, 3) := by decide +kernel
theorem dX1_meetFile_27 : decode cX1_meetFile 27 = .ok (.iload_n 3, 1) := by decide +kernel
theorem dX1_meetFile_28 : decode cX1_meetFile 28 = .ok (.dup2, 1) := by decide +kernel
theorem dX1_meetFile_29 : decode cX1_meetFile 29 = .ok (.iaload, 1) := by decide +kernel
theorem dX1_meetFile_30 : decode cX1_meetFile 30 = .ok (.iconst 1, 1) := by decide +kernel
theorem dX1_meetFile_31 : decode cX1_meetFile 31 = .ok (.iload_n 1, 1) := by decide +kernel
theorem dX1_meetFile_32 : decode cX1_meetFile 32 = .ok (.ishl, 1) := by decide +kernel
theorem dX1_meetFile_33 : decode cX1_meetFile 33 = .ok (.ior, 1) := by decide +kernel
theorem dX1_meetFile_34 : decode cX1_meetFile 34 = .ok (.iastore, 1) := by decide +kernel
theorem dX1_meetFile_35 : decode cX1_meetFile 35 = .ok (.iinc 3 1, 3) := by decide +kernel
theorem dX1_meetFile_38 : decode cX1_meetFile 38 = .ok (.goto (-36), 3) := by decide +kernel
theorem dX1_meetFile_41 : decode cX1_meetFile 41 = .ok (.return_, 1) := by decide +kernel
theorem dX1_covered_0 : decode cX1_covered 0 = .ok (.iconst 0, 1) := by decide +kernel
theorem dX1_covered_1 : decode cX1_covered 1 = .ok (.istore_n 1, 1) := by decide +kernel
theorem dX1_covered_2 : decode cX1_covered 2 = .ok (.iconst 0, 1) := by decide +kernel
theorem dX1_covered_3 : decode cX1_covered 3 = .ok (.istore_n 2, 1) := by decide +kernel
theorem dX1_covered_4 : decode cX1_covered 4 = .ok (.iload_n 2, 1) := by decide +kernel
theorem dX1_covered_5 : decode cX1_covered 5 = .ok (.aload_n 0, 1) := by decide +kernel
theorem dX1_covered_6 : decode cX1_covered 6 = .ok (.getfield 32, 3) := by decide +kernel
theorem dX1_covered_9 : decode cX1_covered 9 = .ok (.if_icmp .ge 18, 3) := by decide +kernel
theorem dX1_covered_12 : decode cX1_covered 12 = .ok (.iload_n 1, 1) := by decide +kernel
theorem dX1_covered_13 : decode cX1_covered 13 = .ok (.aload_n 0, 1) := by decide +kernel
theorem dX1_covered_14 : decode cX1_covered 14 = .ok (.getfield 27, 3) := by decide +kernel
theorem dX1_covered_17 : decode cX1_covered 17 = .ok (.iload_n 2, 1) := by decide +kernel
theorem dX1_covered_18 : decode cX1_covered 18 = .ok (.iaload, 1) := by decide +kernel
theorem dX1_covered_19 : decode cX1_covered 19 = .ok (.ior, 1) := by decide +kernel
theorem dX1_covered_20 : decode cX1_covered 20 = .ok (.istore_n 1, 1) := by decide +kernel
theorem dX1_covered_21 : decode cX1_covered 21 = .ok (.iinc 2 1, 3) := by decide +kernel
theorem dX1_covered_24 : decode cX1_covered 24 = .ok (.goto (-20), 3) := by decide +kernel
theorem dX1_covered_27 : decode cX1_covered 27 = .ok (.iload_n 1, 1) := by decide +kernel
theorem dX1_covered_28 : decode cX1_covered 28 = .ok (.ireturn, 1) := by decide +kernel
theorem dX1_latestCovering_0 : decode cX1_latestCovering 0 = .ok (.aload_n 0, 1) := by decide +kernel
theorem dX1_latestCovering_1 : decode cX1_latestCovering 1 = .ok (.getfield 32, 3) := by decide +kernel
theorem dX1_latestCovering_4 : decode cX1_latestCovering 4 = .ok (.iconst 1, 1) := by decide +kernel
theorem dX1_latestCovering_5 : decode cX1_latestCovering 5 = .ok (.isub, 1) := by decide +kernel
theorem dX1_latestCovering_6 : decode cX1_latestCovering 6 = .ok (.istore_n 2, 1) := by decide +kernel
theorem dX1_latestCovering_7 : decode cX1_latestCovering 7 = .ok (.iload_n 2, 1) := by decide +kernel
theorem dX1_latestCovering_8 : decode cX1_latestCovering 8 = .ok (.ifCond .lt 24, 3) := by decide +kernel
theorem dX1_latestCovering_11 : decode cX1_latestCovering 11 = .ok (.aload_n 0, 1) := by decide +kernel
theorem dX1_latestCovering_12 : decode cX1_latestCovering 12 = .ok (.getfield 27, 3) := by decide +kernel
theorem dX1_latestCovering_15 : decode cX1_latestCovering 15 = .ok (.iload_n 2, 1) := by decide +kernel
theorem dX1_latestCovering_16 : decode cX1_latestCovering 16 = .ok (.iaload, 1) := by decide +kernel
theorem dX1_latestCovering_17 : decode cX1_latestCovering 17 = .ok (.iload_n 1, 1) := by decide +kernel
theorem dX1_latestCovering_18 : decode cX1_latestCovering 18 = .ok (.invokestatic 43, 3) := by decide +kernel
theorem dX1_latestCovering_21 : decode cX1_latestCovering 21 = .ok (.ifCond .eq 5, 3) := by decide +kernel
theorem dX1_latestCovering_24 : decode cX1_latestCovering 24 = .ok (.iload_n 2, 1) := by decide +kernel
theorem dX1_latestCovering_25 : decode cX1_latestCovering 25 = .ok (.ireturn, 1) := by decide +kernel
theorem dX1_latestCovering_26 : decode cX1_latestCovering 26 = .ok (.iinc 2 (-1), 3) := by decide +kernel
theorem dX1_latestCovering_29 : decode cX1_latestCovering 29 = .ok (.goto (-22), 3) := by decide +kernel
theorem dX1_latestCovering_32 : decode cX1_latestCovering 32 = .ok (.iconst (-1), 1) := by decide +kernel
theorem dX1_latestCovering_33 : decode cX1_latestCovering 33 = .ok (.ireturn, 1) := by decide +kernel
theorem dX2_init_0 : decode cX2_init 0 = .ok (.aload_n 0, 1) := by decide +kernel
theorem dX2_init_1 : decode cX2_init 1 = .ok (.invokespecial 3, 3) := by decide +kernel
theorem dX2_init_4 : decode cX2_init 4 = .ok (.aload_n 0, 1) := by decide +kernel
theorem dX2_init_5 : decode cX2_init 5 = .ok (.bipush 16, 2) := by decide +kernel
theorem dX2_init_7 : decode cX2_init 7 = .ok (.newarray .int, 2) := by decide +kernel
theorem dX2_init_9 : decode cX2_init 9 = .ok (.putfield 9, 3) := by decide +kernel
theorem dX2_init_12 : decode cX2_init 12 = .ok (.aload_n 0, 1) := by decide +kernel
theorem dX2_init_13 : decode cX2_init 13 = .ok (.bipush 16, 2) := by decide +kernel
theorem dX2_init_15 : decode cX2_init 15 = .ok (.newarray .int, 2) := by decide +kernel
theorem dX2_init_17 : decode cX2_init 17 = .ok (.putfield 15, 3) := by decide +kernel
theorem dX2_init_20 : decode cX2_init 20 = .ok (.aload_n 0, 1) := by decide +kernel
theorem dX2_init_21 : decode cX2_init 21 = .ok (.bipush 16, 2) := by decide +kernel
theorem dX2_init_23 : decode cX2_init 23 = .ok (.anewarray 18, 3) := by decide +kernel
theorem dX2_init_26 : decode cX2_init 26 = .ok (.putfield 20, 3) := by decide +kernel
theorem dX2_init_29 : decode cX2_init 29 = .ok (.aload_n 0, 1) := by decide +kernel
theorem dX2_init_30 : decode cX2_init 30 = .ok (.bipush 16, 2) := by decide +kernel
theorem dX2_init_32 : decode cX2_init 32 = .ok (.newarray .int, 2) := by decide +kernel
theorem dX2_init_34 : decode cX2_init 34 = .ok (.putfield 24, 3) := by decide +kernel
theorem dX2_init_37 : decode cX2_init 37 = .ok (.iconst 0, 1) := by decide +kernel
theorem dX2_init_38 : decode cX2_init 38 = .ok (.istore_n 1, 1) := by decide +kernel
theorem dX2_init_39 : decode cX2_init 39 = .ok (.iload_n 1, 1) := by decide +kernel
theorem dX2_init_40 : decode cX2_init 40 = .ok (.bipush 16, 2) := by decide +kernel
theorem dX2_init_42 : decode cX2_init 42 = .ok (.if_icmp .ge 23, 3) := by decide +kernel
theorem dX2_init_45 : decode cX2_init 45 = .ok (.aload_n 0, 1) := by decide +kernel
theorem dX2_init_46 : decode cX2_init 46 = .ok (.getfield 20, 3) := by decide +kernel
theorem dX2_init_49 : decode cX2_init 49 = .ok (.iload_n 1, 1) := by decide +kernel
theorem dX2_init_50 : decode cX2_init 50 = .ok (.new 18, 3) := by decide +kernel
theorem dX2_init_53 : decode cX2_init 53 = .ok (.dup, 1) := by decide +kernel
theorem dX2_init_54 : decode cX2_init 54 = .ok (.iconst 4, 1) := by decide +kernel
theorem dX2_init_55 : decode cX2_init 55 = .ok (.invokespecial 27, 3) := by decide +kernel
theorem dX2_init_58 : decode cX2_init 58 = .ok (.aastore, 1) := by decide +kernel
theorem dX2_init_59 : decode cX2_init 59 = .ok (.iinc 1 1, 3) := by decide +kernel
theorem dX2_init_62 : decode cX2_init 62 = .ok (.goto (-23), 3) := by decide +kernel
theorem dX2_init_65 : decode cX2_init 65 = .ok (.return_, 1) := by decide +kernel
theorem dX2_size_0 : decode cX2_size 0 = .ok (.aload_n 0, 1) := by decide +kernel
theorem dX2_size_1 : decode cX2_size 1 = .ok (.getfield 30, 3) := by decide +kernel
theorem dX2_size_4 : decode cX2_size 4 = .ok (.ireturn, 1) := by decide +kernel
theorem dX2_has_0 : decode cX2_has 0 = .ok (.iload_n 1, 1) := by decide +kernel
theorem dX2_has_1 : decode cX2_has 1 = .ok (.ifCond .lt 15, 3) := by decide +kernel
theorem dX2_has_4 : decode cX2_has 4 = .ok (.iload_n 1, 1) := by decide +kernel
theorem dX2_has_5 : decode cX2_has 5 = .ok (.aload_n 0, 1) := by decide +kernel
theorem dX2_has_6 : decode cX2_has 6 = .ok (.getfield 30, 3) := by decide +kernel
theorem dX2_has_9 : decode cX2_has 9 = .ok (.if_icmp .ge 7, 3) := by decide +kernel
theorem dX2_has_12 : decode cX2_has 12 = .ok (.iconst 1, 1) := by decide +kernel
theorem dX2_has_13 : decode cX2_has 13 = .ok (.goto 4, 3) := by decide +kernel
theorem dX2_has_16 : decode cX2_has 16 = .ok (.iconst 0, 1) := by decide +kernel
theorem dX2_has_17 : decode cX2_has 17 = .ok (.ireturn, 1) := by decide +kernel
theorem dX2_isFull_0 : decode cX2_isFull 0 = .ok (.aload_n 0, 1) := by decide +kernel
theorem dX2_isFull_1 : decode cX2_isFull 1 = .ok (.getfield 30, 3) := by decide +kernel
theorem dX2_isFull_4 : decode cX2_isFull 4 = .ok (.bipush 16, 2) := by decide +kernel
theorem dX2_isFull_6 : decode cX2_isFull 6 = .ok (.if_icmp .lt 7, 3) := by decide +kernel
theorem dX2_isFull_9 : decode cX2_isFull 9 = .ok (.iconst 1, 1) := by decide +kernel
theorem dX2_isFull_10 : decode cX2_isFull 10 = .ok (.goto 4, 3) := by decide +kernel
theorem dX2_isFull_13 : decode cX2_isFull 13 = .ok (.iconst 0, 1) := by decide +kernel
theorem dX2_isFull_14 : decode cX2_isFull 14 = .ok (.ireturn, 1) := by decide +kernel
theorem dX2_costOf_0 : decode cX2_costOf 0 = .ok (.aload_n 0, 1) := by decide +kernel
theorem dX2_costOf_1 : decode cX2_costOf 1 = .ok (.getfield 9, 3) := by decide +kernel
theorem dX2_costOf_4 : decode cX2_costOf 4 = .ok (.iload_n 1, 1) := by decide +kernel
theorem dX2_costOf_5 : decode cX2_costOf 5 = .ok (.iaload, 1) := by decide +kernel
theorem dX2_costOf_6 : decode cX2_costOf 6 = .ok (.ireturn, 1) := by decide +kernel
theorem dX2_dependenciesOf_0 : decode cX2_dependenciesOf 0 = .ok (.aload_n 0, 1) := by decide +kernel
theorem dX2_dependenciesOf_1 : decode cX2_dependenciesOf 1 = .ok (.getfield 15, 3) := by decide +kernel
theorem dX2_dependenciesOf_4 : decode cX2_dependenciesOf 4 = .ok (.iload_n 1, 1) := by decide +kernel
theorem dX2_dependenciesOf_5 : decode cX2_dependenciesOf 5 = .ok (.iaload, 1) := by decide +kernel
theorem dX2_dependenciesOf_6 : decode cX2_dependenciesOf 6 = .ok (.ireturn, 1) := by decide +kernel
theorem dX2_globsOf_0 : decode cX2_globsOf 0 = .ok (.aload_n 0, 1) := by decide +kernel
theorem dX2_globsOf_1 : decode cX2_globsOf 1 = .ok (.getfield 20, 3) := by decide +kernel
theorem dX2_globsOf_4 : decode cX2_globsOf 4 = .ok (.iload_n 1, 1) := by decide +kernel
theorem dX2_globsOf_5 : decode cX2_globsOf 5 = .ok (.aaload, 1) := by decide +kernel
theorem dX2_globsOf_6 : decode cX2_globsOf 6 = .ok (.areturn, 1) := by decide +kernel
theorem dX2_add_0 : decode cX2_add 0 = .ok (.aload_n 0, 1) := by decide +kernel
theorem dX2_add_1 : decode cX2_add 1 = .ok (.getfield 30, 3) := by decide +kernel
theorem dX2_add_4 : decode cX2_add 4 = .ok (.istore_n 2, 1) := by decide +kernel
theorem dX2_add_5 : decode cX2_add 5 = .ok (.aload_n 0, 1) := by decide +kernel
theorem dX2_add_6 : decode cX2_add 6 = .ok (.getfield 9, 3) := by decide +kernel
theorem dX2_add_9 : decode cX2_add 9 = .ok (.iload_n 2, 1) := by decide +kernel
theorem dX2_add_10 : decode cX2_add 10 = .ok (.iload_n 1, 1) := by decide +kernel
theorem dX2_add_11 : decode cX2_add 11 = .ok (.iastore, 1) := by decide +kernel
theorem dX2_add_12 : decode cX2_add 12 = .ok (.aload_n 0, 1) := by decide +kernel
theorem dX2_add_13 : decode cX2_add 13 = .ok (.dup, 1) := by decide +kernel
theorem dX2_add_14 : decode cX2_add 14 = .ok (.getfield 30, 3) := by decide +kernel
theorem dX2_add_17 : decode cX2_add 17 = .ok (.iconst 1, 1) := by decide +kernel
theorem dX2_add_18 : decode cX2_add 18 = .ok (.iadd, 1) := by decide +kernel
theorem dX2_add_19 : decode cX2_add 19 = .ok (.putfield 30, 3) := by decide +kernel
theorem dX2_add_22 : decode cX2_add 22 = .ok (.iload_n 2, 1) := by decide +kernel
theorem dX2_add_23 : decode cX2_add 23 = .ok (.ireturn, 1) := by decide +kernel
theorem dX2_addDependency_0 : decode cX2_addDependency 0 = .ok (.aload_n 0, 1) := by decide +kernel
theorem dX2_addDependency_1 : decode cX2_addDependency 1 = .ok (.getfield 15, 3) := by decide +kernel
theorem dX2_addDependency_4 : decode cX2_addDependency 4 = .ok (.iload_n 1, 1) := by decide +kernel
theorem dX2_addDependency_5 : decode cX2_addDependency 5 = .ok (.dup2, 1) := by decide +kernel
theorem dX2_addDependency_6 : decode cX2_addDependency 6 = .ok (.iaload, 1) := by decide +kernel
theorem dX2_addDependency_7 : decode cX2_addDependency 7 = .ok (.iconst 1, 1) := by decide +kernel
theorem dX2_addDependency_8 : decode cX2_addDependency 8 = .ok (.iload_n 2, 1) := by decide +kernel
theorem dX2_addDependency_9 : decode cX2_addDependency 9 = .ok (.ishl, 1) := by decide +kernel
theorem dX2_addDependency_10 : decode cX2_addDependency 10 = .ok (.ior, 1) := by decide +kernel
theorem dX2_addDependency_11 : decode cX2_addDependency 11 = .ok (.iastore, 1) := by decide +kernel
theorem dX2_addDependency_12 : decode cX2_addDependency 12 = .ok (.return_, 1) := by decide +kernel
theorem dX2_meetFile_0 : decode cX2_meetFile 0 = .ok (.iconst 0, 1) := by decide +kernel
theorem dX2_meetFile_1 : decode cX2_meetFile 1 = .ok (.istore_n 3, 1) := by decide +kernel
theorem dX2_meetFile_2 : decode cX2_meetFile 2 = .ok (.iload_n 3, 1) := by decide +kernel
theorem dX2_meetFile_3 : decode cX2_meetFile 3 = .ok (.aload_n 0, 1) := by decide +kernel
theorem dX2_meetFile_4 : decode cX2_meetFile 4 = .ok (.getfield 30, 3) := by decide +kernel
theorem dX2_meetFile_7 : decode cX2_meetFile 7 = .ok (.if_icmp .ge 20, 3) := by decide +kernel
theorem dX2_meetFile_10 : decode cX2_meetFile 10 = .ok (.aload_n 0, 1) := by decide +kernel
theorem dX2_meetFile_11 : decode cX2_meetFile 11 = .ok (.getfield 20, 3) := by decide +kernel
theorem dX2_meetFile_14 : decode cX2_meetFile 14 = .ok (.iload_n 3, 1) := by decide +kernel
theorem dX2_meetFile_15 : decode cX2_meetFile 15 = .ok (.aaload, 1) := by decide +kernel
theorem dX2_meetFile_16 : decode cX2_meetFile 16 = .ok (.iload_n 1, 1) := by decide +kernel
theorem dX2_meetFile_17 : decode cX2_meetFile 17 = .ok (.aload_n 2, 1) := by decide +kernel
theorem dX2_meetFile_18 : decode cX2_meetFile 18 = .ok (.invokevirtual 34, 3) := by decide +kernel
theorem dX2_meetFile_21 : decode cX2_meetFile 21 = .ok (.iinc 3 1, 3) := by decide +kernel
theorem dX2_meetFile_24 : decode cX2_meetFile 24 = .ok (.goto (-22), 3) := by decide +kernel
theorem dX2_meetFile_27 : decode cX2_meetFile 27 = .ok (.return_, 1) := by decide +kernel
theorem dX2_covering_0 : decode cX2_covering 0 = .ok (.iconst 0, 1) := by decide +kernel
theorem dX2_covering_1 : decode cX2_covering 1 = .ok (.istore_n 2, 1) := by decide +kernel
theorem dX2_covering_2 : decode cX2_covering 2 = .ok (.iconst 0, 1) := by decide +kernel
theorem dX2_covering_3 : decode cX2_covering 3 = .ok (.istore_n 3, 1) := by decide +kernel
theorem dX2_covering_4 : decode cX2_covering 4 = .ok (.iload_n 3, 1) := by decide +kernel
theorem dX2_covering_5 : decode cX2_covering 5 = .ok (.aload_n 0, 1) := by decide +kernel
theorem dX2_covering_6 : decode cX2_covering 6 = .ok (.getfield 30, 3) := by decide +kernel
theorem dX2_covering_9 : decode cX2_covering 9 = .ok (.if_icmp .ge 31, 3) := by decide +kernel
theorem dX2_covering_12 : decode cX2_covering 12 = .ok (.aload_n 0, 1) := by decide +kernel
theorem dX2_covering_13 : decode cX2_covering 13 = .ok (.getfield 20, 3) := by decide +kernel
theorem dX2_covering_16 : decode cX2_covering 16 = .ok (.iload_n 3, 1) := by decide +kernel
theorem dX2_covering_17 : decode cX2_covering 17 = .ok (.aaload, 1) := by decide +kernel
theorem dX2_covering_18 : decode cX2_covering 18 = .ok (.invokevirtual 38, 3) := by decide +kernel
theorem dX2_covering_21 : decode cX2_covering 21 = .ok (.iload_n 1, 1) := by decide +kernel
theorem dX2_covering_22 : decode cX2_covering 22 = .ok (.invokestatic 42, 3) := by decide +kernel
theorem dX2_covering_25 : decode cX2_covering 25 = .ok (.ifCond .eq 9, 3) := by decide +kernel
theorem dX2_covering_28 : decode cX2_covering 28 = .ok (.iload_n 2, 1) := by decide +kernel
theorem dX2_covering_29 : decode cX2_covering 29 = .ok (.iconst 1, 1) := by decide +kernel
theorem dX2_covering_30 : decode cX2_covering 30 = .ok (.iload_n 3, 1) := by decide +kernel
theorem dX2_covering_31 : decode cX2_covering 31 = .ok (.ishl, 1) := by decide +kernel
theorem dX2_covering_32 : decode cX2_covering 32 = .ok (.ior, 1) := by decide +kernel
theorem dX2_covering_33 : decode cX2_covering 33 = .ok (.istore_n 2, 1) := by decide +kernel
theorem dX2_covering_34 : decode cX2_covering 34 = .ok (.iinc 3 1, 3) := by decide +kernel
theorem dX2_covering_37 : decode cX2_covering 37 = .ok (.goto (-33), 3) := by decide +kernel
theorem dX2_covering_40 : decode cX2_covering 40 = .ok (.iload_n 2, 1) := by decide +kernel
theorem dX2_covering_41 : decode cX2_covering 41 = .ok (.ireturn, 1) := by decide +kernel
theorem dX2_upFrom_0 : decode cX2_upFrom 0 = .ok (.iload_n 1, 1) := by decide +kernel
theorem dX2_upFrom_1 : decode cX2_upFrom 1 = .ok (.istore_n 2, 1) := by decide +kernel
theorem dX2_upFrom_2 : decode cX2_upFrom 2 = .ok (.iconst 0, 1) := by decide +kernel
theorem dX2_upFrom_3 : decode cX2_upFrom 3 = .ok (.istore_n 3, 1) := by decide +kernel
theorem dX2_upFrom_4 : decode cX2_upFrom 4 = .ok (.iload_n 3, 1) := by decide +kernel
theorem dX2_upFrom_5 : decode cX2_upFrom 5 = .ok (.aload_n 0, 1) := by decide +kernel
theorem dX2_upFrom_6 : decode cX2_upFrom 6 = .ok (.getfield 30, 3) := by decide +kernel
theorem dX2_upFrom_9 : decode cX2_upFrom 9 = .ok (.if_icmp .ge 46, 3) := by decide +kernel
theorem dX2_upFrom_12 : decode cX2_upFrom 12 = .ok (.iconst 0, 1) := by decide +kernel
theorem dX2_upFrom_13 : decode cX2_upFrom 13 = .ok (.istore 4, 2) := by decide +kernel
theorem dX2_upFrom_15 : decode cX2_upFrom 15 = .ok (.iload 4, 2) := by decide +kernel
theorem dX2_upFrom_17 : decode cX2_upFrom 17 = .ok (.aload_n 0, 1) := by decide +kernel
theorem dX2_upFrom_18 : decode cX2_upFrom 18 = .ok (.getfield 30, 3) := by decide +kernel
theorem dX2_upFrom_21 : decode cX2_upFrom 21 = .ok (.if_icmp .ge 28, 3) := by decide +kernel
theorem dX2_upFrom_24 : decode cX2_upFrom 24 = .ok (.aload_n 0, 1) := by decide +kernel
theorem dX2_upFrom_25 : decode cX2_upFrom 25 = .ok (.getfield 15, 3) := by decide +kernel
theorem dX2_upFrom_28 : decode cX2_upFrom 28 = .ok (.iload 4, 2) := by decide +kernel
theorem dX2_upFrom_30 : decode cX2_upFrom 30 = .ok (.iaload, 1) := by decide +kernel
theorem dX2_upFrom_31 : decode cX2_upFrom 31 = .ok (.iload_n 2, 1) := by decide +kernel
theorem dX2_upFrom_32 : decode cX2_upFrom 32 = .ok (.iand, 1) := by decide +kernel
theorem dX2_upFrom_33 : decode cX2_upFrom 33 = .ok (.ifCond .eq 10, 3) := by decide +kernel
theorem dX2_upFrom_36 : decode cX2_upFrom 36 = .ok (.iload_n 2, 1) := by decide +kernel
theorem dX2_upFrom_37 : decode cX2_upFrom 37 = .ok (.iconst 1, 1) := by decide +kernel
theorem dX2_upFrom_38 : decode cX2_upFrom 38 = .ok (.iload 4, 2) := by decide +kernel
theorem dX2_upFrom_40 : decode cX2_upFrom 40 = .ok (.ishl, 1) := by decide +kernel
theorem dX2_upFrom_41 : decode cX2_upFrom 41 = .ok (.ior, 1) := by decide +kernel
theorem dX2_upFrom_42 : decode cX2_upFrom 42 = .ok (.istore_n 2, 1) := by decide +kernel
theorem dX2_upFrom_43 : decode cX2_upFrom 43 = .ok (.iinc 4 1, 3) := by decide +kernel
theorem dX2_upFrom_46 : decode cX2_upFrom 46 = .ok (.goto (-31), 3) := by decide +kernel
theorem dX2_upFrom_49 : decode cX2_upFrom 49 = .ok (.iinc 3 1, 3) := by decide +kernel
theorem dX2_upFrom_52 : decode cX2_upFrom 52 = .ok (.goto (-48), 3) := by decide +kernel
theorem dX2_upFrom_55 : decode cX2_upFrom 55 = .ok (.iload_n 2, 1) := by decide +kernel
theorem dX2_upFrom_56 : decode cX2_upFrom 56 = .ok (.ireturn, 1) := by decide +kernel
theorem dX2_reachingDown_0 : decode cX2_reachingDown 0 = .ok (.iconst 0, 1) := by decide +kernel
theorem dX2_reachingDown_1 : decode cX2_reachingDown 1 = .ok (.istore_n 2, 1) := by decide +kernel
theorem dX2_reachingDown_2 : decode cX2_reachingDown 2 = .ok (.iconst 0, 1) := by decide +kernel
theorem dX2_reachingDown_3 : decode cX2_reachingDown 3 = .ok (.istore_n 3, 1) := by decide +kernel
theorem dX2_reachingDown_4 : decode cX2_reachingDown 4 = .ok (.iload_n 3, 1) := by decide +kernel
theorem dX2_reachingDown_5 : decode cX2_reachingDown 5 = .ok (.aload_n 0, 1) := by decide +kernel
theorem dX2_reachingDown_6 : decode cX2_reachingDown 6 = .ok (.getfield 30, 3) := by decide +kernel
theorem dX2_reachingDown_9 : decode cX2_reachingDown 9 = .ok (.if_icmp .ge 25, 3) := by decide +kernel
theorem dX2_reachingDown_12 : decode cX2_reachingDown 12 = .ok (.aload_n 0, 1) := by decide +kernel
theorem dX2_reachingDown_13 : decode cX2_reachingDown 13 = .ok (.iload_n 3, 1) := by decide +kernel
theorem dX2_reachingDown_14 : decode cX2_reachingDown 14 = .ok (.invokevirtual 46, 3) := by decide +kernel
theorem dX2_reachingDown_17 : decode cX2_reachingDown 17 = .ok (.iload_n 1, 1) := by decide +kernel
theorem dX2_reachingDown_18 : decode cX2_reachingDown 18 = .ok (.iand, 1) := by decide +kernel
theorem dX2_reachingDown_19 : decode cX2_reachingDown 19 = .ok (.ifCond .eq 9, 3) := by decide +kernel
theorem dX2_reachingDown_22 : decode cX2_reachingDown 22 = .ok (.iload_n 2, 1) := by decide +kernel
theorem dX2_reachingDown_23 : decode cX2_reachingDown 23 = .ok (.iconst 1, 1) := by decide +kernel
theorem dX2_reachingDown_24 : decode cX2_reachingDown 24 = .ok (.iload_n 3, 1) := by decide +kernel
theorem dX2_reachingDown_25 : decode cX2_reachingDown 25 = .ok (.ishl, 1) := by decide +kernel
theorem dX2_reachingDown_26 : decode cX2_reachingDown 26 = .ok (.ior, 1) := by decide +kernel
theorem dX2_reachingDown_27 : decode cX2_reachingDown 27 = .ok (.istore_n 2, 1) := by decide +kernel
theorem dX2_reachingDown_28 : decode cX2_reachingDown 28 = .ok (.iinc 3 1, 3) := by decide +kernel
theorem dX2_reachingDown_31 : decode cX2_reachingDown 31 = .ok (.goto (-27), 3) := by decide +kernel
theorem dX2_reachingDown_34 : decode cX2_reachingDown 34 = .ok (.iload_n 2, 1) := by decide +kernel
theorem dX2_reachingDown_35 : decode cX2_reachingDown 35 = .ok (.ireturn, 1) := by decide +kernel
theorem dX2_makeOrder_0 : decode cX2_makeOrder 0 = .ok (.iconst 0, 1) := by decide +kernel
theorem dX2_makeOrder_1 : decode cX2_makeOrder 1 = .ok (.istore_n 1, 1) := by decide +kernel
theorem dX2_makeOrder_2 : decode cX2_makeOrder 2 = .ok (.iconst 0, 1) := by decide +kernel
theorem dX2_makeOrder_3 : decode cX2_makeOrder 3 = .ok (.istore_n 2, 1) := by decide +kernel
theorem dX2_makeOrder_4 : decode cX2_makeOrder 4 = .ok (.iload_n 2, 1) := by decide +kernel
theorem dX2_makeOrder_5 : decode cX2_makeOrder 5 = .ok (.aload_n 0, 1) := by decide +kernel
theorem dX2_makeOrder_6 : decode cX2_makeOrder 6 = .ok (.getfield 30, 3) := by decide +kernel
theorem dX2_makeOrder_9 : decode cX2_makeOrder 9 = .ok (.if_icmp .ge 28, 3) := by decide +kernel
theorem dX2_makeOrder_12 : decode cX2_makeOrder 12 = .ok (.aload_n 0, 1) := by decide +kernel
theorem dX2_makeOrder_13 : decode cX2_makeOrder 13 = .ok (.iload_n 1, 1) := by decide +kernel
theorem dX2_makeOrder_14 : decode cX2_makeOrder 14 = .ok (.invokevirtual 50, 3) := by decide +kernel
theorem dX2_makeOrder_17 : decode cX2_makeOrder 17 = .ok (.istore_n 3, 1) := by decide +kernel
theorem dX2_makeOrder_18 : decode cX2_makeOrder 18 = .ok (.aload_n 0, 1) := by decide +kernel
theorem dX2_makeOrder_19 : decode cX2_makeOrder 19 = .ok (.getfield 24, 3) := by decide +kernel
theorem dX2_makeOrder_22 : decode cX2_makeOrder 22 = .ok (.iload_n 2, 1) := by decide +kernel
theorem dX2_makeOrder_23 : decode cX2_makeOrder 23 = .ok (.iload_n 3, 1) := by decide +kernel
theorem dX2_makeOrder_24 : decode cX2_makeOrder 24 = .ok (.iastore, 1) := by decide +kernel
theorem dX2_makeOrder_25 : decode cX2_makeOrder 25 = .ok (.iload_n 1, 1) := by decide +kernel
theorem dX2_makeOrder_26 : decode cX2_makeOrder 26 = .ok (.iconst 1, 1) := by decide +kernel
theorem dX2_makeOrder_27 : decode cX2_makeOrder 27 = .ok (.iload_n 3, 1) := by decide +kernel
theorem dX2_makeOrder_28 : decode cX2_makeOrder 28 = .ok (.ishl, 1) := by decide +kernel
theorem dX2_makeOrder_29 : decode cX2_makeOrder 29 = .ok (.ior, 1) := by decide +kernel
theorem dX2_makeOrder_30 : decode cX2_makeOrder 30 = .ok (.istore_n 1, 1) := by decide +kernel
theorem dX2_makeOrder_31 : decode cX2_makeOrder 31 = .ok (.iinc 2 1, 3) := by decide +kernel
theorem dX2_makeOrder_34 : decode cX2_makeOrder 34 = .ok (.goto (-30), 3) := by decide +kernel
theorem dX2_makeOrder_37 : decode cX2_makeOrder 37 = .ok (.return_, 1) := by decide +kernel
theorem dX2_atPlace_0 : decode cX2_atPlace 0 = .ok (.aload_n 0, 1) := by decide +kernel
theorem dX2_atPlace_1 : decode cX2_atPlace 1 = .ok (.getfield 24, 3) := by decide +kernel
theorem dX2_atPlace_4 : decode cX2_atPlace 4 = .ok (.iload_n 1, 1) := by decide +kernel
theorem dX2_atPlace_5 : decode cX2_atPlace 5 = .ok (.iaload, 1) := by decide +kernel
theorem dX2_atPlace_6 : decode cX2_atPlace 6 = .ok (.ireturn, 1) := by decide +kernel
theorem dX2_downFrom_0 : decode cX2_downFrom 0 = .ok (.iconst 1, 1) := by decide +kernel
theorem dX2_downFrom_1 : decode cX2_downFrom 1 = .ok (.iload_n 1, 1) := by decide +kernel
theorem dX2_downFrom_2 : decode cX2_downFrom 2 = .ok (.ishl, 1) := by decide +kernel
theorem dX2_downFrom_3 : decode cX2_downFrom 3 = .ok (.istore_n 2, 1) := by decide +kernel
theorem dX2_downFrom_4 : decode cX2_downFrom 4 = .ok (.iconst 0, 1) := by decide +kernel
theorem dX2_downFrom_5 : decode cX2_downFrom 5 = .ok (.istore_n 3, 1) := by decide +kernel
theorem dX2_downFrom_6 : decode cX2_downFrom 6 = .ok (.iload_n 3, 1) := by decide +kernel
theorem dX2_downFrom_7 : decode cX2_downFrom 7 = .ok (.aload_n 0, 1) := by decide +kernel
theorem dX2_downFrom_8 : decode cX2_downFrom 8 = .ok (.getfield 30, 3) := by decide +kernel
theorem dX2_downFrom_11 : decode cX2_downFrom 11 = .ok (.if_icmp .ge 46, 3) := by decide +kernel
theorem dX2_downFrom_14 : decode cX2_downFrom 14 = .ok (.iconst 0, 1) := by decide +kernel
theorem dX2_downFrom_15 : decode cX2_downFrom 15 = .ok (.istore 4, 2) := by decide +kernel
theorem dX2_downFrom_17 : decode cX2_downFrom 17 = .ok (.iload 4, 2) := by decide +kernel
theorem dX2_downFrom_19 : decode cX2_downFrom 19 = .ok (.aload_n 0, 1) := by decide +kernel
theorem dX2_downFrom_20 : decode cX2_downFrom 20 = .ok (.getfield 30, 3) := by decide +kernel
theorem dX2_downFrom_23 : decode cX2_downFrom 23 = .ok (.if_icmp .ge 28, 3) := by decide +kernel
theorem dX2_downFrom_26 : decode cX2_downFrom 26 = .ok (.iload_n 2, 1) := by decide +kernel
theorem dX2_downFrom_27 : decode cX2_downFrom 27 = .ok (.iload 4, 2) := by decide +kernel
theorem dX2_downFrom_29 : decode cX2_downFrom 29 = .ok (.invokestatic 42, 3) := by decide +kernel
theorem dX2_downFrom_32 : decode cX2_downFrom 32 = .ok (.ifCond .eq 13, 3) := by decide +kernel
theorem dX2_downFrom_35 : decode cX2_downFrom 35 = .ok (.iload_n 2, 1) := by decide +kernel
theorem dX2_downFrom_36 : decode cX2_downFrom 36 = .ok (.aload_n 0, 1) := by decide +kernel
theorem dX2_downFrom_37 : decode cX2_downFrom 37 = .ok (.getfield 15, 3) := by decide +kernel
theorem dX2_downFrom_40 : decode cX2_downFrom 40 = .ok (.iload 4, 2) := by decide +kernel
theorem dX2_downFrom_42 : decode cX2_downFrom 42 = .ok (.iaload, 1) := by decide +kernel
theorem dX2_downFrom_43 : decode cX2_downFrom 43 = .ok (.ior, 1) := by decide +kernel
theorem dX2_downFrom_44 : decode cX2_downFrom 44 = .ok (.istore_n 2, 1) := by decide +kernel
theorem dX2_downFrom_45 : decode cX2_downFrom 45 = .ok (.iinc 4 1, 3) := by decide +kernel
theorem dX2_downFrom_48 : decode cX2_downFrom 48 = .ok (.goto (-31), 3) := by decide +kernel
theorem dX2_downFrom_51 : decode cX2_downFrom 51 = .ok (.iinc 3 1, 3) := by decide +kernel
theorem dX2_downFrom_54 : decode cX2_downFrom 54 = .ok (.goto (-48), 3) := by decide +kernel
theorem dX2_downFrom_57 : decode cX2_downFrom 57 = .ok (.iload_n 2, 1) := by decide +kernel
theorem dX2_downFrom_58 : decode cX2_downFrom 58 = .ok (.ireturn, 1) := by decide +kernel
theorem dX2_nextBehind_0 : decode cX2_nextBehind 0 = .ok (.iconst 0, 1) := by decide +kernel
theorem dX2_nextBehind_1 : decode cX2_nextBehind 1 = .ok (.istore_n 2, 1) := by decide +kernel
theorem dX2_nextBehind_2 : decode cX2_nextBehind 2 = .ok (.iload_n 2, 1) := by decide +kernel
theorem dX2_nextBehind_3 : decode cX2_nextBehind 3 = .ok (.aload_n 0, 1) := by decide +kernel
theorem dX2_nextBehind_4 : decode cX2_nextBehind 4 = .ok (.getfield 30, 3) := by decide +kernel
theorem dX2_nextBehind_7 : decode cX2_nextBehind 7 = .ok (.iconst 1, 1) := by decide +kernel
theorem dX2_nextBehind_8 : decode cX2_nextBehind 8 = .ok (.isub, 1) := by decide +kernel
theorem dX2_nextBehind_9 : decode cX2_nextBehind 9 = .ok (.if_icmp .ge 18, 3) := by decide +kernel
theorem dX2_nextBehind_12 : decode cX2_nextBehind 12 = .ok (.aload_n 0, 1) := by decide +kernel
theorem dX2_nextBehind_13 : decode cX2_nextBehind 13 = .ok (.iload_n 2, 1) := by decide +kernel
theorem dX2_nextBehind_14 : decode cX2_nextBehind 14 = .ok (.iload_n 1, 1) := by decide +kernel
theorem dX2_nextBehind_15 : decode cX2_nextBehind 15 = .ok (.invokevirtual 53, 3) := by decide +kernel
theorem dX2_nextBehind_18 : decode cX2_nextBehind 18 = .ok (.ifCond .ne 9, 3) := by decide +kernel
theorem dX2_nextBehind_21 : decode cX2_nextBehind 21 = .ok (.iinc 2 1, 3) := by decide +kernel
theorem dX2_nextBehind_24 : decode cX2_nextBehind 24 = .ok (.goto (-22), 3) := by decide +kernel
theorem dX2_nextBehind_27 : decode cX2_nextBehind 27 = .ok (.iload_n 2, 1) := by decide +kernel
theorem dX2_nextBehind_28 : decode cX2_nextBehind 28 = .ok (.ireturn, 1) := by decide +kernel
theorem dX2_isNext_0 : decode cX2_isNext 0 = .ok (.iload_n 2, 1) := by decide +kernel
theorem dX2_isNext_1 : decode cX2_isNext 1 = .ok (.iload_n 1, 1) := by decide +kernel
theorem dX2_isNext_2 : decode cX2_isNext 2 = .ok (.invokestatic 42, 3) := by decide +kernel
theorem dX2_isNext_5 : decode cX2_isNext 5 = .ok (.ifCond .ne 20, 3) := by decide +kernel
theorem dX2_isNext_8 : decode cX2_isNext 8 = .ok (.aload_n 0, 1) := by decide +kernel
theorem dX2_isNext_9 : decode cX2_isNext 9 = .ok (.getfield 15, 3) := by decide +kernel
theorem dX2_isNext_12 : decode cX2_isNext 12 = .ok (.iload_n 1, 1) := by decide +kernel
theorem dX2_isNext_13 : decode cX2_isNext 13 = .ok (.iaload, 1) := by decide +kernel
theorem dX2_isNext_14 : decode cX2_isNext 14 = .ok (.iload_n 2, 1) := by decide +kernel
theorem dX2_isNext_15 : decode cX2_isNext 15 = .ok (.iconst (-1), 1) := by decide +kernel
theorem dX2_isNext_16 : decode cX2_isNext 16 = .ok (.ixor, 1) := by decide +kernel
theorem dX2_isNext_17 : decode cX2_isNext 17 = .ok (.iand, 1) := by decide +kernel
theorem dX2_isNext_18 : decode cX2_isNext 18 = .ok (.ifCond .ne 7, 3) := by decide +kernel
theorem dX2_isNext_21 : decode cX2_isNext 21 = .ok (.iconst 1, 1) := by decide +kernel
theorem dX2_isNext_22 : decode cX2_isNext 22 = .ok (.goto 4, 3) := by decide +kernel
theorem dX2_isNext_25 : decode cX2_isNext 25 = .ok (.iconst 0, 1) := by decide +kernel
theorem dX2_isNext_26 : decode cX2_isNext 26 = .ok (.ireturn, 1) := by decide +kernel
theorem dX3_init_0 : decode cX3_init 0 = .ok (.aload_n 0, 1) := by decide +kernel
theorem dX3_init_1 : decode cX3_init 1 = .ok (.invokespecial 3, 3) := by decide +kernel
theorem dX3_init_4 : decode cX3_init 4 = .ok (.aload_n 0, 1) := by decide +kernel
theorem dX3_init_5 : decode cX3_init 5 = .ok (.sipush 201, 3) := by decide +kernel
theorem dX3_init_8 : decode cX3_init 8 = .ok (.bipush 40, 2) := by decide +kernel
theorem dX3_init_10 : decode cX3_init 10 = .ok (.multianewarray 11 2, 4) := by decide +kernel
theorem dX3_init_14 : decode cX3_init 14 = .ok (.putfield 13, 3) := by decide +kernel
theorem dX3_init_17 : decode cX3_init 17 = .ok (.aload_n 0, 1) := by decide +kernel
theorem dX3_init_18 : decode cX3_init 18 = .ok (.sipush 201, 3) := by decide +kernel
theorem dX3_init_21 : decode cX3_init 21 = .ok (.newarray .int, 2) := by decide +kernel
theorem dX3_init_23 : decode cX3_init 23 = .ok (.putfield 16, 3) := by decide +kernel
theorem dX3_init_26 : decode cX3_init 26 = .ok (.aload_n 0, 1) := by decide +kernel
theorem dX3_init_27 : decode cX3_init 27 = .ok (.bipush 16, 2) := by decide +kernel
theorem dX3_init_29 : decode cX3_init 29 = .ok (.newarray .int, 2) := by decide +kernel
theorem dX3_init_31 : decode cX3_init 31 = .ok (.putfield 20, 3) := by decide +kernel
theorem dX3_init_34 : decode cX3_init 34 = .ok (.aload_n 0, 1) := by decide +kernel
theorem dX3_init_35 : decode cX3_init 35 = .ok (.bipush 16, 2) := by decide +kernel
theorem dX3_init_37 : decode cX3_init 37 = .ok (.newarray .int, 2) := by decide +kernel
theorem dX3_init_39 : decode cX3_init 39 = .ok (.putfield 23, 3) := by decide +kernel
theorem dX3_init_42 : decode cX3_init 42 = .ok (.aload_n 0, 1) := by decide +kernel
theorem dX3_init_43 : decode cX3_init 43 = .ok (.bipush 40, 2) := by decide +kernel
theorem dX3_init_45 : decode cX3_init 45 = .ok (.newarray .int, 2) := by decide +kernel
theorem dX3_init_47 : decode cX3_init 47 = .ok (.putfield 26, 3) := by decide +kernel
theorem dX3_init_50 : decode cX3_init 50 = .ok (.aload_n 0, 1) := by decide +kernel
theorem dX3_init_51 : decode cX3_init 51 = .ok (.aload_n 1, 1) := by decide +kernel
theorem dX3_init_52 : decode cX3_init 52 = .ok (.putfield 29, 3) := by decide +kernel
theorem dX3_init_55 : decode cX3_init 55 = .ok (.aload_n 0, 1) := by decide +kernel
theorem dX3_init_56 : decode cX3_init 56 = .ok (.aload_n 2, 1) := by decide +kernel
theorem dX3_init_57 : decode cX3_init 57 = .ok (.putfield 33, 3) := by decide +kernel
theorem dX3_init_60 : decode cX3_init 60 = .ok (.return_, 1) := by decide +kernel
theorem dX3_given_0 : decode cX3_given 0 = .ok (.aload_n 0, 1) := by decide +kernel
theorem dX3_given_1 : decode cX3_given 1 = .ok (.getfield 37, 3) := by decide +kernel
theorem dX3_given_4 : decode cX3_given 4 = .ok (.ireturn, 1) := by decide +kernel
theorem dX3_lookUpAll_0 : decode cX3_lookUpAll 0 = .ok (.aload_n 0, 1) := by decide +kernel
theorem dX3_lookUpAll_1 : decode cX3_lookUpAll 1 = .ok (.getfield 33, 3) := by decide +kernel
theorem dX3_lookUpAll_4 : decode cX3_lookUpAll 4 = .ok (.invokevirtual 41, 3) := by decide +kernel
theorem dX3_lookUpAll_7 : decode cX3_lookUpAll 7 = .ok (.iconst 0, 1) := by decide +kernel
theorem dX3_lookUpAll_8 : decode cX3_lookUpAll 8 = .ok (.istore_n 1, 1) := by decide +kernel
theorem dX3_lookUpAll_9 : decode cX3_lookUpAll 9 = .ok (.iload_n 1, 1) := by decide +kernel
theorem dX3_lookUpAll_10 : decode cX3_lookUpAll 10 = .ok (.aload_n 0, 1) := by decide +kernel
theorem dX3_lookUpAll_11 : decode cX3_lookUpAll 11 = .ok (.getfield 33, 3) := by decide +kernel
theorem dX3_lookUpAll_14 : decode cX3_lookUpAll 14 = .ok (.invokevirtual 46, 3) := by decide +kernel
theorem dX3_lookUpAll_17 : decode cX3_lookUpAll 17 = .ok (.if_icmp .ge 21, 3) := by decide +kernel
theorem dX3_lookUpAll_20 : decode cX3_lookUpAll 20 = .ok (.aload_n 0, 1) := by decide +kernel
theorem dX3_lookUpAll_21 : decode cX3_lookUpAll 21 = .ok (.aload_n 0, 1) := by decide +kernel
theorem dX3_lookUpAll_22 : decode cX3_lookUpAll 22 = .ok (.getfield 33, 3) := by decide +kernel
theorem dX3_lookUpAll_25 : decode cX3_lookUpAll 25 = .ok (.iload_n 1, 1) := by decide +kernel
theorem dX3_lookUpAll_26 : decode cX3_lookUpAll 26 = .ok (.invokevirtual 50, 3) := by decide +kernel
theorem dX3_lookUpAll_29 : decode cX3_lookUpAll 29 = .ok (.invokevirtual 54, 3) := by decide +kernel
theorem dX3_lookUpAll_32 : decode cX3_lookUpAll 32 = .ok (.iinc 1 1, 3) := by decide +kernel
theorem dX3_lookUpAll_35 : decode cX3_lookUpAll 35 = .ok (.goto (-26), 3) := by decide +kernel
theorem dX3_lookUpAll_38 : decode cX3_lookUpAll 38 = .ok (.return_, 1) := by decide +kernel
theorem dX3_keyNow_0 : decode cX3_keyNow 0 = .ok (.aload_n 0, 1) := by decide +kernel
theorem dX3_keyNow_1 : decode cX3_keyNow 1 = .ok (.getfield 20, 3) := by decide +kernel
theorem dX3_keyNow_4 : decode cX3_keyNow 4 = .ok (.iload_n 1, 1) := by decide +kernel
theorem dX3_keyNow_5 : decode cX3_keyNow 5 = .ok (.iaload, 1) := by decide +kernel
theorem dX3_keyNow_6 : decode cX3_keyNow 6 = .ok (.ireturn, 1) := by decide +kernel
theorem dX3_withoutKey_0 : decode cX3_withoutKey 0 = .ok (.iconst 0, 1) := by decide +kernel
theorem dX3_withoutKey_1 : decode cX3_withoutKey 1 = .ok (.istore_n 1, 1) := by decide +kernel
theorem dX3_withoutKey_2 : decode cX3_withoutKey 2 = .ok (.iconst 0, 1) := by decide +kernel
theorem dX3_withoutKey_3 : decode cX3_withoutKey 3 = .ok (.istore_n 2, 1) := by decide +kernel
theorem dX3_withoutKey_4 : decode cX3_withoutKey 4 = .ok (.iload_n 2, 1) := by decide +kernel
theorem dX3_withoutKey_5 : decode cX3_withoutKey 5 = .ok (.aload_n 0, 1) := by decide +kernel
theorem dX3_withoutKey_6 : decode cX3_withoutKey 6 = .ok (.getfield 33, 3) := by decide +kernel
theorem dX3_withoutKey_9 : decode cX3_withoutKey 9 = .ok (.invokevirtual 46, 3) := by decide +kernel
theorem dX3_withoutKey_12 : decode cX3_withoutKey 12 = .ok (.if_icmp .ge 24, 3) := by decide +kernel
theorem dX3_withoutKey_15 : decode cX3_withoutKey 15 = .ok (.aload_n 0, 1) := by decide +kernel
theorem dX3_withoutKey_16 : decode cX3_withoutKey 16 = .ok (.getfield 20, 3) := by decide +kernel
theorem dX3_withoutKey_19 : decode cX3_withoutKey 19 = .ok (.iload_n 2, 1) := by decide +kernel
theorem dX3_withoutKey_20 : decode cX3_withoutKey 20 = .ok (.iaload, 1) := by decide +kernel
theorem dX3_withoutKey_21 : decode cX3_withoutKey 21 = .ok (.ifCond .ne 9, 3) := by decide +kernel
theorem dX3_withoutKey_24 : decode cX3_withoutKey 24 = .ok (.iload_n 1, 1) := by decide +kernel
theorem dX3_withoutKey_25 : decode cX3_withoutKey 25 = .ok (.iconst 1, 1) := by decide +kernel
theorem dX3_withoutKey_26 : decode cX3_withoutKey 26 = .ok (.iload_n 2, 1) := by decide +kernel
theorem dX3_withoutKey_27 : decode cX3_withoutKey 27 = .ok (.ishl, 1) := by decide +kernel
theorem dX3_withoutKey_28 : decode cX3_withoutKey 28 = .ok (.ior, 1) := by decide +kernel
theorem dX3_withoutKey_29 : decode cX3_withoutKey 29 = .ok (.istore_n 1, 1) := by decide +kernel
theorem dX3_withoutKey_30 : decode cX3_withoutKey 30 = .ok (.iinc 2 1, 3) := by decide +kernel
theorem dX3_withoutKey_33 : decode cX3_withoutKey 33 = .ok (.goto (-29), 3) := by decide +kernel
theorem dX3_withoutKey_36 : decode cX3_withoutKey 36 = .ok (.iload_n 1, 1) := by decide +kernel
theorem dX3_withoutKey_37 : decode cX3_withoutKey 37 = .ok (.ireturn, 1) := by decide +kernel
theorem dX3_hasRun_0 : decode cX3_hasRun 0 = .ok (.aload_n 0, 1) := by decide +kernel
theorem dX3_hasRun_1 : decode cX3_hasRun 1 = .ok (.getfield 23, 3) := by decide +kernel
theorem dX3_hasRun_4 : decode cX3_hasRun 4 = .ok (.iload_n 1, 1) := by decide +kernel
theorem dX3_hasRun_5 : decode cX3_hasRun 5 = .ok (.iaload, 1) := by decide +kernel
theorem dX3_hasRun_6 : decode cX3_hasRun 6 = .ok (.ifCond .eq 7, 3) := by decide +kernel
theorem dX3_hasRun_9 : decode cX3_hasRun 9 = .ok (.iconst 1, 1) := by decide +kernel
theorem dX3_hasRun_10 : decode cX3_hasRun 10 = .ok (.goto 4, 3) := by decide +kernel
theorem dX3_hasRun_13 : decode cX3_hasRun 13 = .ok (.iconst 0, 1) := by decide +kernel
theorem dX3_hasRun_14 : decode cX3_hasRun 14 = .ok (.ireturn, 1) := by decide +kernel
theorem dX3_hasLatestInputs_0 : decode cX3_hasLatestInputs 0 = .ok (.aload_n 0, 1) := by decide +kernel
theorem dX3_hasLatestInputs_1 : decode cX3_hasLatestInputs 1 = .ok (.iload_n 1, 1) := by decide +kernel
theorem dX3_hasLatestInputs_2 : decode cX3_hasLatestInputs 2 = .ok (.invokevirtual 58, 3) := by decide +kernel
theorem dX3_hasLatestInputs_5 : decode cX3_hasLatestInputs 5 = .ok (.aload_n 0, 1) := by decide +kernel
theorem dX3_hasLatestInputs_6 : decode cX3_hasLatestInputs 6 = .ok (.aload_n 0, 1) := by decide +kernel
theorem dX3_hasLatestInputs_7 : decode cX3_hasLatestInputs 7 = .ok (.getfield 23, 3) := by decide +kernel
theorem dX3_hasLatestInputs_10 : decode cX3_hasLatestInputs 10 = .ok (.iload_n 1, 1) := by decide +kernel
theorem dX3_hasLatestInputs_11 : decode cX3_hasLatestInputs 11 = .ok (.iaload, 1) := by decide +kernel
theorem dX3_hasLatestInputs_12 : decode cX3_hasLatestInputs 12 = .ok (.bipush 24, 2) := by decide +kernel
theorem dX3_hasLatestInputs_14 : decode cX3_hasLatestInputs 14 = .ok (.invokevirtual 61, 3) := by decide +kernel
theorem dX3_hasLatestInputs_17 : decode cX3_hasLatestInputs 17 = .ok (.ireturn, 1) := by decide +kernel
theorem dX3_runOrFind_0 : decode cX3_runOrFind 0 = .ok (.aload_n 0, 1) := by decide +kernel
theorem dX3_runOrFind_1 : decode cX3_runOrFind 1 = .ok (.iload_n 1, 1) := by decide +kernel
theorem dX3_runOrFind_2 : decode cX3_runOrFind 2 = .ok (.invokevirtual 54, 3) := by decide +kernel
theorem dX3_runOrFind_5 : decode cX3_runOrFind 5 = .ok (.aload_n 0, 1) := by decide +kernel
theorem dX3_runOrFind_6 : decode cX3_runOrFind 6 = .ok (.getfield 20, 3) := by decide +kernel
theorem dX3_runOrFind_9 : decode cX3_runOrFind 9 = .ok (.iload_n 1, 1) := by decide +kernel
theorem dX3_runOrFind_10 : decode cX3_runOrFind 10 = .ok (.iaload, 1) := by decide +kernel
theorem dX3_runOrFind_11 : decode cX3_runOrFind 11 = .ok (.ifCond .ne 14, 3) := by decide +kernel
theorem dX3_runOrFind_14 : decode cX3_runOrFind 14 = .ok (.aload_n 0, 1) := by decide +kernel
theorem dX3_runOrFind_15 : decode cX3_runOrFind 15 = .ok (.getfield 20, 3) := by decide +kernel
theorem dX3_runOrFind_18 : decode cX3_runOrFind 18 = .ok (.iload_n 1, 1) := by decide +kernel
theorem dX3_runOrFind_19 : decode cX3_runOrFind 19 = .ok (.aload_n 0, 1) := by decide +kernel
theorem dX3_runOrFind_20 : decode cX3_runOrFind 20 = .ok (.iload_n 1, 1) := by decide +kernel
theorem dX3_runOrFind_21 : decode cX3_runOrFind 21 = .ok (.invokevirtual 65, 3) := by decide +kernel
theorem dX3_runOrFind_24 : decode cX3_runOrFind 24 = .ok (.iastore, 1) := by decide +kernel
theorem dX3_runOrFind_25 : decode cX3_runOrFind 25 = .ok (.aload_n 0, 1) := by decide +kernel
theorem dX3_runOrFind_26 : decode cX3_runOrFind 26 = .ok (.getfield 23, 3) := by decide +kernel
theorem dX3_runOrFind_29 : decode cX3_runOrFind 29 = .ok (.iload_n 1, 1) := by decide +kernel
theorem dX3_runOrFind_30 : decode cX3_runOrFind 30 = .ok (.aload_n 0, 1) := by decide +kernel
theorem dX3_runOrFind_31 : decode cX3_runOrFind 31 = .ok (.getfield 20, 3) := by decide +kernel
theorem dX3_runOrFind_34 : decode cX3_runOrFind 34 = .ok (.iload_n 1, 1) := by decide +kernel
theorem dX3_runOrFind_35 : decode cX3_runOrFind 35 = .ok (.iaload, 1) := by decide +kernel
theorem dX3_runOrFind_36 : decode cX3_runOrFind 36 = .ok (.iastore, 1) := by decide +kernel
theorem dX3_runOrFind_37 : decode cX3_runOrFind 37 = .ok (.aload_n 0, 1) := by decide +kernel
theorem dX3_runOrFind_38 : decode cX3_runOrFind 38 = .ok (.getfield 20, 3) := by decide +kernel
theorem dX3_runOrFind_41 : decode cX3_runOrFind 41 = .ok (.iload_n 1, 1) := by decide +kernel
theorem dX3_runOrFind_42 : decode cX3_runOrFind 42 = .ok (.iaload, 1) := by decide +kernel
theorem dX3_runOrFind_43 : decode cX3_runOrFind 43 = .ok (.ireturn, 1) := by decide +kernel
theorem dX3_runOrFindAll_0 : decode cX3_runOrFindAll 0 = .ok (.iconst 0, 1) := by decide +kernel
theorem dX3_runOrFindAll_1 : decode cX3_runOrFindAll 1 = .ok (.istore_n 1, 1) := by decide +kernel
theorem dX3_runOrFindAll_2 : decode cX3_runOrFindAll 2 = .ok (.iload_n 1, 1) := by decide +kernel
theorem dX3_runOrFindAll_3 : decode cX3_runOrFindAll 3 = .ok (.aload_n 0, 1) := by decide +kernel
theorem dX3_runOrFindAll_4 : decode cX3_runOrFindAll 4 = .ok (.getfield 33, 3) := by decide +kernel
theorem dX3_runOrFindAll_7 : decode cX3_runOrFindAll 7 = .ok (.invokevirtual 46, 3) := by decide +kernel
theorem dX3_runOrFindAll_10 : decode cX3_runOrFindAll 10 = .ok (.if_icmp .ge 22, 3) := by decide +kernel
theorem dX3_runOrFindAll_13 : decode cX3_runOrFindAll 13 = .ok (.aload_n 0, 1) := by decide +kernel
theorem dX3_runOrFindAll_14 : decode cX3_runOrFindAll 14 = .ok (.aload_n 0, 1) := by decide +kernel
theorem dX3_runOrFindAll_15 : decode cX3_runOrFindAll 15 = .ok (.getfield 33, 3) := by decide +kernel
theorem dX3_runOrFindAll_18 : decode cX3_runOrFindAll 18 = .ok (.iload_n 1, 1) := by decide +kernel
theorem dX3_runOrFindAll_19 : decode cX3_runOrFindAll 19 = .ok (.invokevirtual 50, 3) := by decide +kernel
theorem dX3_runOrFindAll_22 : decode cX3_runOrFindAll 22 = .ok (.invokevirtual 68, 3) := by decide +kernel
theorem dX3_runOrFindAll_25 : decode cX3_runOrFindAll 25 = .ok (.pop, 1) := by decide +kernel
theorem dX3_runOrFindAll_26 : decode cX3_runOrFindAll 26 = .ok (.iinc 1 1, 3) := by decide +kernel
theorem dX3_runOrFindAll_29 : decode cX3_runOrFindAll 29 = .ok (.goto (-27), 3) := by decide +kernel
theorem dX3_runOrFindAll_32 : decode cX3_runOrFindAll 32 = .ok (.return_, 1) := by decide +kernel
theorem dX3_lookUp_0 : decode cX3_lookUp 0 = .ok (.aload_n 0, 1) := by decide +kernel
theorem dX3_lookUp_1 : decode cX3_lookUp 1 = .ok (.iload_n 1, 1) := by decide +kernel
theorem dX3_lookUp_2 : decode cX3_lookUp 2 = .ok (.invokevirtual 58, 3) := by decide +kernel
theorem dX3_lookUp_5 : decode cX3_lookUp 5 = .ok (.aload_n 0, 1) := by decide +kernel
theorem dX3_lookUp_6 : decode cX3_lookUp 6 = .ok (.getfield 20, 3) := by decide +kernel
theorem dX3_lookUp_9 : decode cX3_lookUp 9 = .ok (.iload_n 1, 1) := by decide +kernel
theorem dX3_lookUp_10 : decode cX3_lookUp 10 = .ok (.aload_n 0, 1) := by decide +kernel
theorem dX3_lookUp_11 : decode cX3_lookUp 11 = .ok (.iload_n 1, 1) := by decide +kernel
theorem dX3_lookUp_12 : decode cX3_lookUp 12 = .ok (.invokevirtual 71, 3) := by decide +kernel
theorem dX3_lookUp_15 : decode cX3_lookUp 15 = .ok (.ifCond .eq 11, 3) := by decide +kernel
theorem dX3_lookUp_18 : decode cX3_lookUp 18 = .ok (.aload_n 0, 1) := by decide +kernel
theorem dX3_lookUp_19 : decode cX3_lookUp 19 = .ok (.iload_n 1, 1) := by decide +kernel
theorem dX3_lookUp_20 : decode cX3_lookUp 20 = .ok (.invokevirtual 75, 3) := by decide +kernel
theorem dX3_lookUp_23 : decode cX3_lookUp 23 = .ok (.goto 4, 3) := by decide +kernel
theorem dX3_lookUp_26 : decode cX3_lookUp 26 = .ok (.iconst 0, 1) := by decide +kernel
theorem dX3_lookUp_27 : decode cX3_lookUp 27 = .ok (.iastore, 1) := by decide +kernel
theorem dX3_lookUp_28 : decode cX3_lookUp 28 = .ok (.return_, 1) := by decide +kernel
theorem dX3_dependenciesHaveKeys_0 : decode cX3_dependenciesHaveKeys 0 = .ok (.aload_n 0, 1) := by decide +kernel
theorem dX3_dependenciesHaveKeys_1 : decode cX3_dependenciesHaveKeys 1 = .ok (.getfield 33, 3) := by decide +kernel
theorem dX3_dependenciesHaveKeys_4 : decode cX3_dependenciesHaveKeys 4 = .ok (.iload_n 1, 1) := by decide +kernel
theorem dX3_dependenciesHaveKeys_5 : decode cX3_dependenciesHaveKeys 5 = .ok (.invokevirtual 78, 3) := by decide +kernel
theorem dX3_dependenciesHaveKeys_8 : decode cX3_dependenciesHaveKeys 8 = .ok (.aload_n 0, 1) := by decide +kernel
theorem dX3_dependenciesHaveKeys_9 : decode cX3_dependenciesHaveKeys 9 = .ok (.invokevirtual 81, 3) := by decide +kernel
theorem dX3_dependenciesHaveKeys_12 : decode cX3_dependenciesHaveKeys 12 = .ok (.iand, 1) := by decide +kernel
theorem dX3_dependenciesHaveKeys_13 : decode cX3_dependenciesHaveKeys 13 = .ok (.ifCond .ne 7, 3) := by decide +kernel
theorem dX3_dependenciesHaveKeys_16 : decode cX3_dependenciesHaveKeys 16 = .ok (.iconst 1, 1) := by decide +kernel
theorem dX3_dependenciesHaveKeys_17 : decode cX3_dependenciesHaveKeys 17 = .ok (.goto 4, 3) := by decide +kernel
theorem dX3_dependenciesHaveKeys_20 : decode cX3_dependenciesHaveKeys 20 = .ok (.iconst 0, 1) := by decide +kernel
theorem dX3_dependenciesHaveKeys_21 : decode cX3_dependenciesHaveKeys 21 = .ok (.ireturn, 1) := by decide +kernel
theorem dX3_fillRow_0 : decode cX3_fillRow 0 = .ok (.aload_n 0, 1) := by decide +kernel
theorem dX3_fillRow_1 : decode cX3_fillRow 1 = .ok (.getfield 33, 3) := by decide +kernel
theorem dX3_fillRow_4 : decode cX3_fillRow 4 = .ok (.iload_n 1, 1) := by decide +kernel
theorem dX3_fillRow_5 : decode cX3_fillRow 5 = .ok (.invokevirtual 84, 3) := by decide +kernel
theorem dX3_fillRow_8 : decode cX3_fillRow 8 = .ok (.invokevirtual 88, 3) := by decide +kernel
theorem dX3_fillRow_11 : decode cX3_fillRow 11 = .ok (.aload_n 0, 1) := by decide +kernel
theorem dX3_fillRow_12 : decode cX3_fillRow 12 = .ok (.getfield 29, 3) := by decide +kernel
theorem dX3_fillRow_15 : decode cX3_fillRow 15 = .ok (.invokevirtual 93, 3) := by decide +kernel
theorem dX3_fillRow_18 : decode cX3_fillRow 18 = .ok (.iand, 1) := by decide +kernel
theorem dX3_fillRow_19 : decode cX3_fillRow 19 = .ok (.istore_n 2, 1) := by decide +kernel
theorem dX3_fillRow_20 : decode cX3_fillRow 20 = .ok (.iconst 0, 1) := by decide +kernel
theorem dX3_fillRow_21 : decode cX3_fillRow 21 = .ok (.istore_n 3, 1) := by decide +kernel
theorem dX3_fillRow_22 : decode cX3_fillRow 22 = .ok (.iload_n 3, 1) := by decide +kernel
theorem dX3_fillRow_23 : decode cX3_fillRow 23 = .ok (.bipush 24, 2) := by decide +kernel
theorem dX3_fillRow_25 : decode cX3_fillRow 25 = .ok (.if_icmp .ge 37, 3) := by decide +kernel
theorem dX3_fillRow_28 : decode cX3_fillRow 28 = .ok (.aload_n 0, 1) := by decide +kernel
theorem dX3_fillRow_29 : decode cX3_fillRow 29 = .ok (.getfield 26, 3) := by decide +kernel
theorem dX3_fillRow_32 : decode cX3_fillRow 32 = .ok (.iload_n 3, 1) := by decide +kernel
theorem dX3_fillRow_33 : decode cX3_fillRow 33 = .ok (.iload_n 2, 1) := by decide +kernel
theorem dX3_fillRow_34 : decode cX3_fillRow 34 = .ok (.iload_n 3, 1) := by decide +kernel
theorem dX3_fillRow_35 : decode cX3_fillRow 35 = .ok (.invokestatic 97, 3) := by decide +kernel
theorem dX3_fillRow_38 : decode cX3_fillRow 38 = .ok (.ifCond .eq 16, 3) := by decide +kernel
theorem dX3_fillRow_41 : decode cX3_fillRow 41 = .ok (.aload_n 0, 1) := by decide +kernel
theorem dX3_fillRow_42 : decode cX3_fillRow 42 = .ok (.getfield 29, 3) := by decide +kernel
theorem dX3_fillRow_45 : decode cX3_fillRow 45 = .ok (.iload_n 3, 1) := by decide +kernel
theorem dX3_fillRow_46 : decode cX3_fillRow 46 = .ok (.invokevirtual 100, 3) := by decide +kernel
theorem dX3_fillRow_49 : decode cX3_fillRow 49 = .ok (.iconst 1, 1) := by decide +kernel
theorem dX3_fillRow_50 : decode cX3_fillRow 50 = .ok (.iadd, 1) := by decide +kernel
theorem dX3_fillRow_51 : decode cX3_fillRow 51 = .ok (.goto 4, 3) := by decide +kernel
theorem dX3_fillRow_54 : decode cX3_fillRow 54 = .ok (.iconst 0, 1) := by decide +kernel
theorem dX3_fillRow_55 : decode cX3_fillRow 55 = .ok (.iastore, 1) := by decide +kernel
theorem dX3_fillRow_56 : decode cX3_fillRow 56 = .ok (.iinc 3 1, 3) := by decide +kernel
theorem dX3_fillRow_59 : decode cX3_fillRow 59 = .ok (.goto (-37), 3) := by decide +kernel
theorem dX3_fillRow_62 : decode cX3_fillRow 62 = .ok (.aload_n 0, 1) := by decide +kernel
theorem dX3_fillRow_63 : decode cX3_fillRow 63 = .ok (.getfield 33, 3) := by decide +kernel
theorem dX3_fillRow_66 : decode cX3_fillRow 66 = .ok (.iload_n 1, 1) := by decide +kernel
theorem dX3_fillRow_67 : decode cX3_fillRow 67 = .ok (.invokevirtual 78, 3) := by decide +kernel
theorem dX3_fillRow_70 : decode cX3_fillRow 70 = .ok (.istore_n 3, 1) := by decide +kernel
theorem dX3_fillRow_71 : decode cX3_fillRow 71 = .ok (.iconst 0, 1) := by decide +kernel
theorem dX3_fillRow_72 : decode cX3_fillRow 72 = .ok (.istore 4, 2) := by decide +kernel
theorem dX3_fillRow_74 : decode cX3_fillRow 74 = .ok (.iload 4, 2) := by decide +kernel
theorem dX3_fillRow_76 : decode cX3_fillRow 76 = .ok (.bipush 16, 2) := by decide +kernel
theorem dX3_fillRow_78 : decode cX3_fillRow 78 = .ok (.if_icmp .ge 39, 3) := by decide +kernel
theorem dX3_fillRow_81 : decode cX3_fillRow 81 = .ok (.aload_n 0, 1) := by decide +kernel
theorem dX3_fillRow_82 : decode cX3_fillRow 82 = .ok (.getfield 26, 3) := by decide +kernel
theorem dX3_fillRow_85 : decode cX3_fillRow 85 = .ok (.bipush 24, 2) := by decide +kernel
theorem dX3_fillRow_87 : decode cX3_fillRow 87 = .ok (.iload 4, 2) := by decide +kernel
theorem dX3_fillRow_89 : decode cX3_fillRow 89 = .ok (.iadd, 1) := by decide +kernel
theorem dX3_fillRow_90 : decode cX3_fillRow 90 = .ok (.iload_n 3, 1) := by decide +kernel
theorem dX3_fillRow_91 : decode cX3_fillRow 91 = .ok (.iload 4, 2) := by decide +kernel
theorem dX3_fillRow_93 : decode cX3_fillRow 93 = .ok (.invokestatic 97, 3) := by decide +kernel
theorem dX3_fillRow_96 : decode cX3_fillRow 96 = .ok (.ifCond .eq 13, 3) := by decide +kernel
theorem dX3_fillRow_99 : decode cX3_fillRow 99 = .ok (.aload_n 0, 1) := by decide +kernel
theorem dX3_fillRow_100 : decode cX3_fillRow 100 = .ok (.getfield 20, 3) := by decide +kernel
theorem dX3_fillRow_103 : decode cX3_fillRow 103 = .ok (.iload 4, 2) := by decide +kernel
theorem dX3_fillRow_105 : decode cX3_fillRow 105 = .ok (.iaload, 1) := by decide +kernel
theorem dX3_fillRow_106 : decode cX3_fillRow 106 = .ok (.goto 4, 3) := by decide +kernel
theorem dX3_fillRow_109 : decode cX3_fillRow 109 = .ok (.iconst 0, 1) := by decide +kernel
theorem dX3_fillRow_110 : decode cX3_fillRow 110 = .ok (.iastore, 1) := by decide +kernel
theorem dX3_fillRow_111 : decode cX3_fillRow 111 = .ok (.iinc 4 1, 3) := by decide +kernel
theorem dX3_fillRow_114 : decode cX3_fillRow 114 = .ok (.goto (-40), 3) := by decide +kernel
theorem dX3_fillRow_117 : decode cX3_fillRow 117 = .ok (.return_, 1) := by decide +kernel
theorem dX3_keyOfRow_0 : decode cX3_keyOfRow 0 = .ok (.iconst 1, 1) := by decide +kernel
theorem dX3_keyOfRow_1 : decode cX3_keyOfRow 1 = .ok (.istore_n 2, 1) := by decide +kernel
theorem dX3_keyOfRow_2 : decode cX3_keyOfRow 2 = .ok (.iload_n 2, 1) := by decide +kernel
theorem dX3_keyOfRow_3 : decode cX3_keyOfRow 3 = .ok (.aload_n 0, 1) := by decide +kernel
theorem dX3_keyOfRow_4 : decode cX3_keyOfRow 4 = .ok (.getfield 37, 3) := by decide +kernel
theorem dX3_keyOfRow_7 : decode cX3_keyOfRow 7 = .ok (.if_icmp .gt 31, 3) := by decide +kernel
theorem dX3_keyOfRow_10 : decode cX3_keyOfRow 10 = .ok (.aload_n 0, 1) := by decide +kernel
theorem dX3_keyOfRow_11 : decode cX3_keyOfRow 11 = .ok (.getfield 16, 3) := by decide +kernel
theorem dX3_keyOfRow_14 : decode cX3_keyOfRow 14 = .ok (.iload_n 2, 1) := by decide +kernel
theorem dX3_keyOfRow_15 : decode cX3_keyOfRow 15 = .ok (.iaload, 1) := by decide +kernel
theorem dX3_keyOfRow_16 : decode cX3_keyOfRow 16 = .ok (.iload_n 1, 1) := by decide +kernel
theorem dX3_keyOfRow_17 : decode cX3_keyOfRow 17 = .ok (.if_icmp .ne 15, 3) := by decide +kernel
theorem dX3_keyOfRow_20 : decode cX3_keyOfRow 20 = .ok (.aload_n 0, 1) := by decide +kernel
theorem dX3_keyOfRow_21 : decode cX3_keyOfRow 21 = .ok (.iload_n 2, 1) := by decide +kernel
theorem dX3_keyOfRow_22 : decode cX3_keyOfRow 22 = .ok (.bipush 40, 2) := by decide +kernel
theorem dX3_keyOfRow_24 : decode cX3_keyOfRow 24 = .ok (.invokevirtual 61, 3) := by decide +kernel
theorem dX3_keyOfRow_27 : decode cX3_keyOfRow 27 = .ok (.ifCond .eq 5, 3) := by decide +kernel
theorem dX3_keyOfRow_30 : decode cX3_keyOfRow 30 = .ok (.iload_n 2, 1) := by decide +kernel
theorem dX3_keyOfRow_31 : decode cX3_keyOfRow 31 = .ok (.ireturn, 1) := by decide +kernel
theorem dX3_keyOfRow_32 : decode cX3_keyOfRow 32 = .ok (.iinc 2 1, 3) := by decide +kernel
theorem dX3_keyOfRow_35 : decode cX3_keyOfRow 35 = .ok (.goto (-33), 3) := by decide +kernel
theorem dX3_keyOfRow_38 : decode cX3_keyOfRow 38 = .ok (.iconst 0, 1) := by decide +kernel
theorem dX3_keyOfRow_39 : decode cX3_keyOfRow 39 = .ok (.ireturn, 1) := by decide +kernel
theorem dX3_agrees_0 : decode cX3_agrees 0 = .ok (.iconst 0, 1) := by decide +kernel
theorem dX3_agrees_1 : decode cX3_agrees 1 = .ok (.istore_n 3, 1) := by decide +kernel
theorem dX3_agrees_2 : decode cX3_agrees 2 = .ok (.iload_n 3, 1) := by decide +kernel
theorem dX3_agrees_3 : decode cX3_agrees 3 = .ok (.iload_n 2, 1) := by decide +kernel
theorem dX3_agrees_4 : decode cX3_agrees 4 = .ok (.if_icmp .ge 28, 3) := by decide +kernel
theorem dX3_agrees_7 : decode cX3_agrees 7 = .ok (.aload_n 0, 1) := by decide +kernel
theorem dX3_agrees_8 : decode cX3_agrees 8 = .ok (.getfield 13, 3) := by decide +kernel
theorem dX3_agrees_11 : decode cX3_agrees 11 = .ok (.iload_n 1, 1) := by decide +kernel
theorem dX3_agrees_12 : decode cX3_agrees 12 = .ok (.aaload, 1) := by decide +kernel
theorem dX3_agrees_13 : decode cX3_agrees 13 = .ok (.iload_n 3, 1) := by decide +kernel
theorem dX3_agrees_14 : decode cX3_agrees 14 = .ok (.iaload, 1) := by decide +kernel
theorem dX3_agrees_15 : decode cX3_agrees 15 = .ok (.aload_n 0, 1) := by decide +kernel
theorem dX3_agrees_16 : decode cX3_agrees 16 = .ok (.getfield 26, 3) := by decide +kernel
theorem dX3_agrees_19 : decode cX3_agrees 19 = .ok (.iload_n 3, 1) := by decide +kernel
theorem dX3_agrees_20 : decode cX3_agrees 20 = .ok (.iaload, 1) := by decide +kernel
theorem dX3_agrees_21 : decode cX3_agrees 21 = .ok (.if_icmp .eq 5, 3) := by decide +kernel
theorem dX3_agrees_24 : decode cX3_agrees 24 = .ok (.iconst 0, 1) := by decide +kernel
theorem dX3_agrees_25 : decode cX3_agrees 25 = .ok (.ireturn, 1) := by decide +kernel
theorem dX3_agrees_26 : decode cX3_agrees 26 = .ok (.iinc 3 1, 3) := by decide +kernel
theorem dX3_agrees_29 : decode cX3_agrees 29 = .ok (.goto (-27), 3) := by decide +kernel
theorem dX3_agrees_32 : decode cX3_agrees 32 = .ok (.iconst 1, 1) := by decide +kernel
theorem dX3_agrees_33 : decode cX3_agrees 33 = .ok (.ireturn, 1) := by decide +kernel
theorem dX3_give_0 : decode cX3_give 0 = .ok (.aload_n 0, 1) := by decide +kernel
theorem dX3_give_1 : decode cX3_give 1 = .ok (.dup, 1) := by decide +kernel
theorem dX3_give_2 : decode cX3_give 2 = .ok (.getfield 37, 3) := by decide +kernel
theorem dX3_give_5 : decode cX3_give 5 = .ok (.iconst 1, 1) := by decide +kernel
theorem dX3_give_6 : decode cX3_give 6 = .ok (.iadd, 1) := by decide +kernel
theorem dX3_give_7 : decode cX3_give 7 = .ok (.putfield 37, 3) := by decide +kernel
theorem dX3_give_10 : decode cX3_give 10 = .ok (.aload_n 0, 1) := by decide +kernel
theorem dX3_give_11 : decode cX3_give 11 = .ok (.getfield 16, 3) := by decide +kernel
theorem dX3_give_14 : decode cX3_give 14 = .ok (.aload_n 0, 1) := by decide +kernel
theorem dX3_give_15 : decode cX3_give 15 = .ok (.getfield 37, 3) := by decide +kernel
theorem dX3_give_18 : decode cX3_give 18 = .ok (.iload_n 1, 1) := by decide +kernel
theorem dX3_give_19 : decode cX3_give 19 = .ok (.iastore, 1) := by decide +kernel
theorem dX3_give_20 : decode cX3_give 20 = .ok (.aload_n 0, 1) := by decide +kernel
theorem dX3_give_21 : decode cX3_give 21 = .ok (.getfield 26, 3) := by decide +kernel
theorem dX3_give_24 : decode cX3_give 24 = .ok (.iconst 0, 1) := by decide +kernel
theorem dX3_give_25 : decode cX3_give 25 = .ok (.aload_n 0, 1) := by decide +kernel
theorem dX3_give_26 : decode cX3_give 26 = .ok (.getfield 13, 3) := by decide +kernel
theorem dX3_give_29 : decode cX3_give 29 = .ok (.aload_n 0, 1) := by decide +kernel
theorem dX3_give_30 : decode cX3_give 30 = .ok (.getfield 37, 3) := by decide +kernel
theorem dX3_give_33 : decode cX3_give 33 = .ok (.aaload, 1) := by decide +kernel
theorem dX3_give_34 : decode cX3_give 34 = .ok (.iconst 0, 1) := by decide +kernel
theorem dX3_give_35 : decode cX3_give 35 = .ok (.bipush 40, 2) := by decide +kernel
theorem dX3_give_37 : decode cX3_give 37 = .ok (.invokestatic 103, 3) := by decide +kernel
theorem dX3_give_40 : decode cX3_give 40 = .ok (.aload_n 0, 1) := by decide +kernel
theorem dX3_give_41 : decode cX3_give 41 = .ok (.getfield 37, 3) := by decide +kernel
theorem dX3_give_44 : decode cX3_give 44 = .ok (.ireturn, 1) := by decide +kernel
theorem dX4_init_0 : decode cX4_init 0 = .ok (.aload_n 0, 1) := by decide +kernel
theorem dX4_init_1 : decode cX4_init 1 = .ok (.invokespecial 3, 3) := by decide +kernel
theorem dX4_init_4 : decode cX4_init 4 = .ok (.aload_n 0, 1) := by decide +kernel
theorem dX4_init_5 : decode cX4_init 5 = .ok (.new 9, 3) := by decide +kernel
theorem dX4_init_8 : decode cX4_init 8 = .ok (.dup, 1) := by decide +kernel
theorem dX4_init_9 : decode cX4_init 9 = .ok (.bipush 12, 2) := by decide +kernel
theorem dX4_init_11 : decode cX4_init 11 = .ok (.invokespecial 11, 3) := by decide +kernel
theorem dX4_init_14 : decode cX4_init 14 = .ok (.putfield 14, 3) := by decide +kernel
theorem dX4_init_17 : decode cX4_init 17 = .ok (.aload_n 0, 1) := by decide +kernel
theorem dX4_init_18 : decode cX4_init 18 = .ok (.bipush 12, 2) := by decide +kernel
theorem dX4_init_20 : decode cX4_init 20 = .ok (.newarray .int, 2) := by decide +kernel
theorem dX4_init_22 : decode cX4_init 22 = .ok (.putfield 20, 3) := by decide +kernel
theorem dX4_init_25 : decode cX4_init 25 = .ok (.return_, 1) := by decide +kernel
theorem dX4_size_0 : decode cX4_size 0 = .ok (.aload_n 0, 1) := by decide +kernel
theorem dX4_size_1 : decode cX4_size 1 = .ok (.getfield 14, 3) := by decide +kernel
theorem dX4_size_4 : decode cX4_size 4 = .ok (.invokevirtual 24, 3) := by decide +kernel
theorem dX4_size_7 : decode cX4_size 7 = .ok (.ireturn, 1) := by decide +kernel
theorem dX4_isFull_0 : decode cX4_isFull 0 = .ok (.aload_n 0, 1) := by decide +kernel
theorem dX4_isFull_1 : decode cX4_isFull 1 = .ok (.getfield 14, 3) := by decide +kernel
theorem dX4_isFull_4 : decode cX4_isFull 4 = .ok (.invokevirtual 28, 3) := by decide +kernel
theorem dX4_isFull_7 : decode cX4_isFull 7 = .ok (.ireturn, 1) := by decide +kernel
theorem dX4_add_0 : decode cX4_add 0 = .ok (.aload_n 0, 1) := by decide +kernel
theorem dX4_add_1 : decode cX4_add 1 = .ok (.getfield 20, 3) := by decide +kernel
theorem dX4_add_4 : decode cX4_add 4 = .ok (.aload_n 0, 1) := by decide +kernel
theorem dX4_add_5 : decode cX4_add 5 = .ok (.getfield 14, 3) := by decide +kernel
theorem dX4_add_8 : decode cX4_add 8 = .ok (.invokevirtual 24, 3) := by decide +kernel
theorem dX4_add_11 : decode cX4_add 11 = .ok (.iload_n 3, 1) := by decide +kernel
theorem dX4_add_12 : decode cX4_add 12 = .ok (.iastore, 1) := by decide +kernel
theorem dX4_add_13 : decode cX4_add 13 = .ok (.aload_n 0, 1) := by decide +kernel
theorem dX4_add_14 : decode cX4_add 14 = .ok (.getfield 14, 3) := by decide +kernel
theorem dX4_add_17 : decode cX4_add 17 = .ok (.aload_n 1, 1) := by decide +kernel
theorem dX4_add_18 : decode cX4_add 18 = .ok (.iload_n 2, 1) := by decide +kernel
theorem dX4_add_19 : decode cX4_add 19 = .ok (.invokevirtual 32, 3) := by decide +kernel
theorem dX4_add_22 : decode cX4_add 22 = .ok (.return_, 1) := by decide +kernel
theorem dX4_meetFile_0 : decode cX4_meetFile 0 = .ok (.aload_n 0, 1) := by decide +kernel
theorem dX4_meetFile_1 : decode cX4_meetFile 1 = .ok (.getfield 14, 3) := by decide +kernel
theorem dX4_meetFile_4 : decode cX4_meetFile 4 = .ok (.iload_n 1, 1) := by decide +kernel
theorem dX4_meetFile_5 : decode cX4_meetFile 5 = .ok (.aload_n 2, 1) := by decide +kernel
theorem dX4_meetFile_6 : decode cX4_meetFile 6 = .ok (.invokevirtual 36, 3) := by decide +kernel
theorem dX4_meetFile_9 : decode cX4_meetFile 9 = .ok (.return_, 1) := by decide +kernel
theorem dX4_latestOwner_0 : decode cX4_latestOwner 0 = .ok (.aload_n 0, 1) := by decide +kernel
theorem dX4_latestOwner_1 : decode cX4_latestOwner 1 = .ok (.getfield 14, 3) := by decide +kernel
theorem dX4_latestOwner_4 : decode cX4_latestOwner 4 = .ok (.iload_n 1, 1) := by decide +kernel
theorem dX4_latestOwner_5 : decode cX4_latestOwner 5 = .ok (.invokevirtual 40, 3) := by decide +kernel
theorem dX4_latestOwner_8 : decode cX4_latestOwner 8 = .ok (.istore_n 2, 1) := by decide +kernel
theorem dX4_latestOwner_9 : decode cX4_latestOwner 9 = .ok (.iload_n 2, 1) := by decide +kernel
theorem dX4_latestOwner_10 : decode cX4_latestOwner 10 = .ok (.iconst (-1), 1) := by decide +kernel
theorem dX4_latestOwner_11 : decode cX4_latestOwner 11 = .ok (.if_icmp .ne 7, 3) := by decide +kernel
theorem dX4_latestOwner_14 : decode cX4_latestOwner 14 = .ok (.iconst (-1), 1) := by decide +kernel
theorem dX4_latestOwner_15 : decode cX4_latestOwner 15 = .ok (.goto 9, 3) := by decide +kernel
theorem dX4_latestOwner_18 : decode cX4_latestOwner 18 = .ok (.aload_n 0, 1) := by decide +kernel
theorem dX4_latestOwner_19 : decode cX4_latestOwner 19 = .ok (.getfield 20, 3) := by decide +kernel
theorem dX4_latestOwner_22 : decode cX4_latestOwner 22 = .ok (.iload_n 2, 1) := by decide +kernel
theorem dX4_latestOwner_23 : decode cX4_latestOwner 23 = .ok (.iaload, 1) := by decide +kernel
theorem dX4_latestOwner_24 : decode cX4_latestOwner 24 = .ok (.ireturn, 1) := by decide +kernel
theorem dX4_ownersOfAll_0 : decode cX4_ownersOfAll 0 = .ok (.iconst 0, 1) := by decide +kernel
theorem dX4_ownersOfAll_1 : decode cX4_ownersOfAll 1 = .ok (.istore_n 2, 1) := by decide +kernel
theorem dX4_ownersOfAll_2 : decode cX4_ownersOfAll 2 = .ok (.iconst 0, 1) := by decide +kernel
theorem dX4_ownersOfAll_3 : decode cX4_ownersOfAll 3 = .ok (.istore_n 3, 1) := by decide +kernel
theorem dX4_ownersOfAll_4 : decode cX4_ownersOfAll 4 = .ok (.iload_n 3, 1) := by decide +kernel
theorem dX4_ownersOfAll_5 : decode cX4_ownersOfAll 5 = .ok (.bipush 24, 2) := by decide +kernel
theorem dX4_ownersOfAll_7 : decode cX4_ownersOfAll 7 = .ok (.if_icmp .ge 37, 3) := by decide +kernel
theorem dX4_ownersOfAll_10 : decode cX4_ownersOfAll 10 = .ok (.aload_n 0, 1) := by decide +kernel
theorem dX4_ownersOfAll_11 : decode cX4_ownersOfAll 11 = .ok (.iload_n 3, 1) := by decide +kernel
theorem dX4_ownersOfAll_12 : decode cX4_ownersOfAll 12 = .ok (.invokevirtual 44, 3) := by decide +kernel
theorem dX4_ownersOfAll_15 : decode cX4_ownersOfAll 15 = .ok (.istore 4, 2) := by decide +kernel
theorem dX4_ownersOfAll_17 : decode cX4_ownersOfAll 17 = .ok (.iload_n 1, 1) := by decide +kernel
theorem dX4_ownersOfAll_18 : decode cX4_ownersOfAll 18 = .ok (.iload_n 3, 1) := by decide +kernel
theorem dX4_ownersOfAll_19 : decode cX4_ownersOfAll 19 = .ok (.invokestatic 47, 3) := by decide +kernel
theorem dX4_ownersOfAll_22 : decode cX4_ownersOfAll 22 = .ok (.ifCond .eq 16, 3) := by decide +kernel
theorem dX4_ownersOfAll_25 : decode cX4_ownersOfAll 25 = .ok (.iload 4, 2) := by decide +kernel
theorem dX4_ownersOfAll_27 : decode cX4_ownersOfAll 27 = .ok (.iconst (-1), 1) := by decide +kernel
theorem dX4_ownersOfAll_28 : decode cX4_ownersOfAll 28 = .ok (.if_icmp .eq 10, 3) := by decide +kernel
theorem dX4_ownersOfAll_31 : decode cX4_ownersOfAll 31 = .ok (.iload_n 2, 1) := by decide +kernel
theorem dX4_ownersOfAll_32 : decode cX4_ownersOfAll 32 = .ok (.iconst 1, 1) := by decide +kernel
theorem dX4_ownersOfAll_33 : decode cX4_ownersOfAll 33 = .ok (.iload 4, 2) := by decide +kernel
theorem dX4_ownersOfAll_35 : decode cX4_ownersOfAll 35 = .ok (.ishl, 1) := by decide +kernel
theorem dX4_ownersOfAll_36 : decode cX4_ownersOfAll 36 = .ok (.ior, 1) := by decide +kernel
theorem dX4_ownersOfAll_37 : decode cX4_ownersOfAll 37 = .ok (.istore_n 2, 1) := by decide +kernel
theorem dX4_ownersOfAll_38 : decode cX4_ownersOfAll 38 = .ok (.iinc 3 1, 3) := by decide +kernel
theorem dX4_ownersOfAll_41 : decode cX4_ownersOfAll 41 = .ok (.goto (-37), 3) := by decide +kernel
theorem dX4_ownersOfAll_44 : decode cX4_ownersOfAll 44 = .ok (.iload_n 2, 1) := by decide +kernel
theorem dX4_ownersOfAll_45 : decode cX4_ownersOfAll 45 = .ok (.ireturn, 1) := by decide +kernel
theorem dX5_init_0 : decode cX5_init 0 = .ok (.aload_n 0, 1) := by decide +kernel
theorem dX5_init_1 : decode cX5_init 1 = .ok (.invokespecial 3, 3) := by decide +kernel
theorem dX5_init_4 : decode cX5_init 4 = .ok (.aload_n 0, 1) := by decide +kernel
theorem dX5_init_5 : decode cX5_init 5 = .ok (.bipush 8, 2) := by decide +kernel
theorem dX5_init_7 : decode cX5_init 7 = .ok (.newarray .int, 2) := by decide +kernel
theorem dX5_init_9 : decode cX5_init 9 = .ok (.putfield 9, 3) := by decide +kernel
theorem dX5_init_12 : decode cX5_init 12 = .ok (.aload_n 0, 1) := by decide +kernel
theorem dX5_init_13 : decode cX5_init 13 = .ok (.bipush 16, 2) := by decide +kernel
theorem dX5_init_15 : decode cX5_init 15 = .ok (.newarray .int, 2) := by decide +kernel
theorem dX5_init_17 : decode cX5_init 17 = .ok (.putfield 15, 3) := by decide +kernel
theorem dX5_init_20 : decode cX5_init 20 = .ok (.return_, 1) := by decide +kernel
theorem dX5_over_0 : decode cX5_over 0 = .ok (.aload_n 0, 1) := by decide +kernel
theorem dX5_over_1 : decode cX5_over 1 = .ok (.getfield 9, 3) := by decide +kernel
theorem dX5_over_4 : decode cX5_over 4 = .ok (.iconst 0, 1) := by decide +kernel
theorem dX5_over_5 : decode cX5_over 5 = .ok (.invokestatic 18, 3) := by decide +kernel
theorem dX5_over_8 : decode cX5_over 8 = .ok (.aload_n 0, 1) := by decide +kernel
theorem dX5_over_9 : decode cX5_over 9 = .ok (.getfield 15, 3) := by decide +kernel
theorem dX5_over_12 : decode cX5_over 12 = .ok (.iconst (-1), 1) := by decide +kernel
theorem dX5_over_13 : decode cX5_over 13 = .ok (.invokestatic 18, 3) := by decide +kernel
theorem dX5_over_16 : decode cX5_over 16 = .ok (.iload_n 2, 1) := by decide +kernel
theorem dX5_over_17 : decode cX5_over 17 = .ok (.istore 4, 2) := by decide +kernel
theorem dX5_over_19 : decode cX5_over 19 = .ok (.iload_n 2, 1) := by decide +kernel
theorem dX5_over_20 : decode cX5_over 20 = .ok (.invokestatic 24, 3) := by decide +kernel
theorem dX5_over_23 : decode cX5_over 23 = .ok (.istore 5, 2) := by decide +kernel
theorem dX5_over_25 : decode cX5_over 25 = .ok (.iload 5, 2) := by decide +kernel
theorem dX5_over_27 : decode cX5_over 27 = .ok (.ifCond .le 61, 3) := by decide +kernel
theorem dX5_over_30 : decode cX5_over 30 = .ok (.aload_n 0, 1) := by decide +kernel
theorem dX5_over_31 : decode cX5_over 31 = .ok (.aload_n 1, 1) := by decide +kernel
theorem dX5_over_32 : decode cX5_over 32 = .ok (.iload 4, 2) := by decide +kernel
theorem dX5_over_34 : decode cX5_over 34 = .ok (.invokevirtual 30, 3) := by decide +kernel
theorem dX5_over_37 : decode cX5_over 37 = .ok (.istore 6, 2) := by decide +kernel
theorem dX5_over_39 : decode cX5_over 39 = .ok (.aload_n 0, 1) := by decide +kernel
theorem dX5_over_40 : decode cX5_over 40 = .ok (.iload_n 3, 1) := by decide +kernel
theorem dX5_over_41 : decode cX5_over 41 = .ok (.invokevirtual 34, 3) := by decide +kernel
theorem dX5_over_44 : decode cX5_over 44 = .ok (.istore 7, 2) := by decide +kernel
theorem dX5_over_46 : decode cX5_over 46 = .ok (.aload_n 0, 1) := by decide +kernel
theorem dX5_over_47 : decode cX5_over 47 = .ok (.getfield 15, 3) := by decide +kernel
theorem dX5_over_50 : decode cX5_over 50 = .ok (.iload 6, 2) := by decide +kernel
theorem dX5_over_52 : decode cX5_over 52 = .ok (.iload 7, 2) := by decide +kernel
theorem dX5_over_54 : decode cX5_over 54 = .ok (.iastore, 1) := by decide +kernel
theorem dX5_over_55 : decode cX5_over 55 = .ok (.aload_n 0, 1) := by decide +kernel
theorem dX5_over_56 : decode cX5_over 56 = .ok (.getfield 9, 3) := by decide +kernel
theorem dX5_over_59 : decode cX5_over 59 = .ok (.iload 7, 2) := by decide +kernel
theorem dX5_over_61 : decode cX5_over 61 = .ok (.dup2, 1) := by decide +kernel
theorem dX5_over_62 : decode cX5_over 62 = .ok (.iaload, 1) := by decide +kernel
theorem dX5_over_63 : decode cX5_over 63 = .ok (.aload_n 1, 1) := by decide +kernel
theorem dX5_over_64 : decode cX5_over 64 = .ok (.iload 6, 2) := by decide +kernel
theorem dX5_over_66 : decode cX5_over 66 = .ok (.invokevirtual 37, 3) := by decide +kernel
theorem dX5_over_69 : decode cX5_over 69 = .ok (.iadd, 1) := by decide +kernel
theorem dX5_over_70 : decode cX5_over 70 = .ok (.iastore, 1) := by decide +kernel
theorem dX5_over_71 : decode cX5_over 71 = .ok (.iload 4, 2) := by decide +kernel
theorem dX5_over_73 : decode cX5_over 73 = .ok (.iconst 1, 1) := by decide +kernel
theorem dX5_over_74 : decode cX5_over 74 = .ok (.iload 6, 2) := by decide +kernel
theorem dX5_over_76 : decode cX5_over 76 = .ok (.ishl, 1) := by decide +kernel
theorem dX5_over_77 : decode cX5_over 77 = .ok (.iconst (-1), 1) := by decide +kernel
theorem dX5_over_78 : decode cX5_over 78 = .ok (.ixor, 1) := by decide +kernel
theorem dX5_over_79 : decode cX5_over 79 = .ok (.iand, 1) := by decide +kernel
theorem dX5_over_80 : decode cX5_over 80 = .ok (.istore 4, 2) := by decide +kernel
theorem dX5_over_82 : decode cX5_over 82 = .ok (.iinc 5 (-1), 3) := by decide +kernel
theorem dX5_over_85 : decode cX5_over 85 = .ok (.goto (-60), 3) := by decide +kernel
theorem dX5_over_88 : decode cX5_over 88 = .ok (.return_, 1) := by decide +kernel
theorem dX5_placeOf_0 : decode cX5_placeOf 0 = .ok (.aload_n 0, 1) := by decide +kernel
theorem dX5_placeOf_1 : decode cX5_placeOf 1 = .ok (.getfield 15, 3) := by decide +kernel
theorem dX5_placeOf_4 : decode cX5_placeOf 4 = .ok (.iload_n 1, 1) := by decide +kernel
theorem dX5_placeOf_5 : decode cX5_placeOf 5 = .ok (.iaload, 1) := by decide +kernel
theorem dX5_placeOf_6 : decode cX5_placeOf 6 = .ok (.ireturn, 1) := by decide +kernel
theorem dX5_greatestLoad_0 : decode cX5_greatestLoad 0 = .ok (.iconst 0, 1) := by decide +kernel
theorem dX5_greatestLoad_1 : decode cX5_greatestLoad 1 = .ok (.istore_n 1, 1) := by decide +kernel
theorem dX5_greatestLoad_2 : decode cX5_greatestLoad 2 = .ok (.iconst 0, 1) := by decide +kernel
theorem dX5_greatestLoad_3 : decode cX5_greatestLoad 3 = .ok (.istore_n 2, 1) := by decide +kernel
theorem dX5_greatestLoad_4 : decode cX5_greatestLoad 4 = .ok (.iload_n 2, 1) := by decide +kernel
theorem dX5_greatestLoad_5 : decode cX5_greatestLoad 5 = .ok (.bipush 8, 2) := by decide +kernel
theorem dX5_greatestLoad_7 : decode cX5_greatestLoad 7 = .ok (.if_icmp .ge 20, 3) := by decide +kernel
theorem dX5_greatestLoad_10 : decode cX5_greatestLoad 10 = .ok (.iload_n 1, 1) := by decide +kernel
theorem dX5_greatestLoad_11 : decode cX5_greatestLoad 11 = .ok (.aload_n 0, 1) := by decide +kernel
theorem dX5_greatestLoad_12 : decode cX5_greatestLoad 12 = .ok (.getfield 9, 3) := by decide +kernel
theorem dX5_greatestLoad_15 : decode cX5_greatestLoad 15 = .ok (.iload_n 2, 1) := by decide +kernel
theorem dX5_greatestLoad_16 : decode cX5_greatestLoad 16 = .ok (.iaload, 1) := by decide +kernel
theorem dX5_greatestLoad_17 : decode cX5_greatestLoad 17 = .ok (.invokestatic 42, 3) := by decide +kernel
theorem dX5_greatestLoad_20 : decode cX5_greatestLoad 20 = .ok (.istore_n 1, 1) := by decide +kernel
theorem dX5_greatestLoad_21 : decode cX5_greatestLoad 21 = .ok (.iinc 2 1, 3) := by decide +kernel
theorem dX5_greatestLoad_24 : decode cX5_greatestLoad 24 = .ok (.goto (-20), 3) := by decide +kernel
theorem dX5_greatestLoad_27 : decode cX5_greatestLoad 27 = .ok (.iload_n 1, 1) := by decide +kernel
theorem dX5_greatestLoad_28 : decode cX5_greatestLoad 28 = .ok (.ireturn, 1) := by decide +kernel
theorem dX5_dearest_0 : decode cX5_dearest 0 = .ok (.iconst 0, 1) := by decide +kernel
theorem dX5_dearest_1 : decode cX5_dearest 1 = .ok (.istore_n 3, 1) := by decide +kernel
theorem dX5_dearest_2 : decode cX5_dearest 2 = .ok (.iconst 0, 1) := by decide +kernel
theorem dX5_dearest_3 : decode cX5_dearest 3 = .ok (.istore 4, 2) := by decide +kernel
theorem dX5_dearest_5 : decode cX5_dearest 5 = .ok (.iconst 0, 1) := by decide +kernel
theorem dX5_dearest_6 : decode cX5_dearest 6 = .ok (.istore 5, 2) := by decide +kernel
theorem dX5_dearest_8 : decode cX5_dearest 8 = .ok (.iload 5, 2) := by decide +kernel
theorem dX5_dearest_10 : decode cX5_dearest 10 = .ok (.aload_n 1, 1) := by decide +kernel
theorem dX5_dearest_11 : decode cX5_dearest 11 = .ok (.invokevirtual 48, 3) := by decide +kernel
theorem dX5_dearest_14 : decode cX5_dearest 14 = .ok (.if_icmp .ge 40, 3) := by decide +kernel
theorem dX5_dearest_17 : decode cX5_dearest 17 = .ok (.iload_n 2, 1) := by decide +kernel
theorem dX5_dearest_18 : decode cX5_dearest 18 = .ok (.iload 5, 2) := by decide +kernel
theorem dX5_dearest_20 : decode cX5_dearest 20 = .ok (.invokestatic 52, 3) := by decide +kernel
theorem dX5_dearest_23 : decode cX5_dearest 23 = .ok (.ifCond .eq 25, 3) := by decide +kernel
theorem dX5_dearest_26 : decode cX5_dearest 26 = .ok (.aload_n 1, 1) := by decide +kernel
theorem dX5_dearest_27 : decode cX5_dearest 27 = .ok (.iload 5, 2) := by decide +kernel
theorem dX5_dearest_29 : decode cX5_dearest 29 = .ok (.invokevirtual 37, 3) := by decide +kernel
theorem dX5_dearest_32 : decode cX5_dearest 32 = .ok (.iload 4, 2) := by decide +kernel
theorem dX5_dearest_34 : decode cX5_dearest 34 = .ok (.if_icmp .le 14, 3) := by decide +kernel
theorem dX5_dearest_37 : decode cX5_dearest 37 = .ok (.iload 5, 2) := by decide +kernel
theorem dX5_dearest_39 : decode cX5_dearest 39 = .ok (.istore_n 3, 1) := by decide +kernel
theorem dX5_dearest_40 : decode cX5_dearest 40 = .ok (.aload_n 1, 1) := by decide +kernel
theorem dX5_dearest_41 : decode cX5_dearest 41 = .ok (.iload 5, 2) := by decide +kernel
theorem dX5_dearest_43 : decode cX5_dearest 43 = .ok (.invokevirtual 37, 3) := by decide +kernel
theorem dX5_dearest_46 : decode cX5_dearest 46 = .ok (.istore 4, 2) := by decide +kernel
theorem dX5_dearest_48 : decode cX5_dearest 48 = .ok (.iinc 5 1, 3) := by decide +kernel
theorem dX5_dearest_51 : decode cX5_dearest 51 = .ok (.goto (-43), 3) := by decide +kernel
theorem dX5_dearest_54 : decode cX5_dearest 54 = .ok (.iload_n 3, 1) := by decide +kernel
theorem dX5_dearest_55 : decode cX5_dearest 55 = .ok (.ireturn, 1) := by decide +kernel
theorem dX5_lightest_0 : decode cX5_lightest 0 = .ok (.iconst 0, 1) := by decide +kernel
theorem dX5_lightest_1 : decode cX5_lightest 1 = .ok (.istore_n 2, 1) := by decide +kernel
theorem dX5_lightest_2 : decode cX5_lightest 2 = .ok (.iconst 1, 1) := by decide +kernel
theorem dX5_lightest_3 : decode cX5_lightest 3 = .ok (.istore_n 3, 1) := by decide +kernel
theorem dX5_lightest_4 : decode cX5_lightest 4 = .ok (.iload_n 3, 1) := by decide +kernel
theorem dX5_lightest_5 : decode cX5_lightest 5 = .ok (.iload_n 1, 1) := by decide +kernel
theorem dX5_lightest_6 : decode cX5_lightest 6 = .ok (.if_icmp .ge 26, 3) := by decide +kernel
theorem dX5_lightest_9 : decode cX5_lightest 9 = .ok (.aload_n 0, 1) := by decide +kernel
theorem dX5_lightest_10 : decode cX5_lightest 10 = .ok (.getfield 9, 3) := by decide +kernel
theorem dX5_lightest_13 : decode cX5_lightest 13 = .ok (.iload_n 3, 1) := by decide +kernel
theorem dX5_lightest_14 : decode cX5_lightest 14 = .ok (.iaload, 1) := by decide +kernel
theorem dX5_lightest_15 : decode cX5_lightest 15 = .ok (.aload_n 0, 1) := by decide +kernel
theorem dX5_lightest_16 : decode cX5_lightest 16 = .ok (.getfield 9, 3) := by decide +kernel
theorem dX5_lightest_19 : decode cX5_lightest 19 = .ok (.iload_n 2, 1) := by decide +kernel
theorem dX5_lightest_20 : decode cX5_lightest 20 = .ok (.iaload, 1) := by decide +kernel
theorem dX5_lightest_21 : decode cX5_lightest 21 = .ok (.if_icmp .ge 5, 3) := by decide +kernel
theorem dX5_lightest_24 : decode cX5_lightest 24 = .ok (.iload_n 3, 1) := by decide +kernel
theorem dX5_lightest_25 : decode cX5_lightest 25 = .ok (.istore_n 2, 1) := by decide +kernel
theorem dX5_lightest_26 : decode cX5_lightest 26 = .ok (.iinc 3 1, 3) := by decide +kernel
theorem dX5_lightest_29 : decode cX5_lightest 29 = .ok (.goto (-25), 3) := by decide +kernel
theorem dX5_lightest_32 : decode cX5_lightest 32 = .ok (.iload_n 2, 1) := by decide +kernel
theorem dX5_lightest_33 : decode cX5_lightest 33 = .ok (.ireturn, 1) := by decide +kernel
theorem dX6_init_0 : decode cX6_init 0 = .ok (.aload_n 0, 1) := by decide +kernel
theorem dX6_init_1 : decode cX6_init 1 = .ok (.invokespecial 3, 3) := by decide +kernel
theorem dX6_init_4 : decode cX6_init 4 = .ok (.aload_n 0, 1) := by decide +kernel
theorem dX6_init_5 : decode cX6_init 5 = .ok (.bipush 24, 2) := by decide +kernel
theorem dX6_init_7 : decode cX6_init 7 = .ok (.newarray .char, 2) := by decide +kernel
theorem dX6_init_9 : decode cX6_init 9 = .ok (.putfield 9, 3) := by decide +kernel
theorem dX6_init_12 : decode cX6_init 12 = .ok (.return_, 1) := by decide +kernel
theorem dX6_size_0 : decode cX6_size 0 = .ok (.aload_n 0, 1) := by decide +kernel
theorem dX6_size_1 : decode cX6_size 1 = .ok (.getfield 15, 3) := by decide +kernel
theorem dX6_size_4 : decode cX6_size 4 = .ok (.ireturn, 1) := by decide +kernel
theorem dX6_isFull_0 : decode cX6_isFull 0 = .ok (.aload_n 0, 1) := by decide +kernel
theorem dX6_isFull_1 : decode cX6_isFull 1 = .ok (.getfield 15, 3) := by decide +kernel
theorem dX6_isFull_4 : decode cX6_isFull 4 = .ok (.bipush 24, 2) := by decide +kernel
theorem dX6_isFull_6 : decode cX6_isFull 6 = .ok (.if_icmp .lt 7, 3) := by decide +kernel
theorem dX6_isFull_9 : decode cX6_isFull 9 = .ok (.iconst 1, 1) := by decide +kernel
theorem dX6_isFull_10 : decode cX6_isFull 10 = .ok (.goto 4, 3) := by decide +kernel
theorem dX6_isFull_13 : decode cX6_isFull 13 = .ok (.iconst 0, 1) := by decide +kernel
theorem dX6_isFull_14 : decode cX6_isFull 14 = .ok (.ireturn, 1) := by decide +kernel
theorem dX6_append_0 : decode cX6_append 0 = .ok (.aload_n 0, 1) := by decide +kernel
theorem dX6_append_1 : decode cX6_append 1 = .ok (.getfield 9, 3) := by decide +kernel
theorem dX6_append_4 : decode cX6_append 4 = .ok (.aload_n 0, 1) := by decide +kernel
theorem dX6_append_5 : decode cX6_append 5 = .ok (.getfield 15, 3) := by decide +kernel
theorem dX6_append_8 : decode cX6_append 8 = .ok (.iload_n 1, 1) := by decide +kernel
theorem dX6_append_9 : decode cX6_append 9 = .ok (.castore, 1) := by decide +kernel
theorem dX6_append_10 : decode cX6_append 10 = .ok (.aload_n 0, 1) := by decide +kernel
theorem dX6_append_11 : decode cX6_append 11 = .ok (.dup, 1) := by decide +kernel
theorem dX6_append_12 : decode cX6_append 12 = .ok (.getfield 15, 3) := by decide +kernel
theorem dX6_append_15 : decode cX6_append 15 = .ok (.iconst 1, 1) := by decide +kernel
theorem dX6_append_16 : decode cX6_append 16 = .ok (.iadd, 1) := by decide +kernel
theorem dX6_append_17 : decode cX6_append 17 = .ok (.putfield 15, 3) := by decide +kernel
theorem dX6_append_20 : decode cX6_append 20 = .ok (.return_, 1) := by decide +kernel
theorem dX6_empty_0 : decode cX6_empty 0 = .ok (.aload_n 0, 1) := by decide +kernel
theorem dX6_empty_1 : decode cX6_empty 1 = .ok (.iconst 0, 1) := by decide +kernel
theorem dX6_empty_2 : decode cX6_empty 2 = .ok (.putfield 15, 3) := by decide +kernel
theorem dX6_empty_5 : decode cX6_empty 5 = .ok (.return_, 1) := by decide +kernel
theorem dX6_copyFrom_0 : decode cX6_copyFrom 0 = .ok (.aload_n 0, 1) := by decide +kernel
theorem dX6_copyFrom_1 : decode cX6_copyFrom 1 = .ok (.aload_n 1, 1) := by decide +kernel
theorem dX6_copyFrom_2 : decode cX6_copyFrom 2 = .ok (.getfield 15, 3) := by decide +kernel
theorem dX6_copyFrom_5 : decode cX6_copyFrom 5 = .ok (.putfield 15, 3) := by decide +kernel
theorem dX6_copyFrom_8 : decode cX6_copyFrom 8 = .ok (.iconst 0, 1) := by decide +kernel
theorem dX6_copyFrom_9 : decode cX6_copyFrom 9 = .ok (.istore_n 2, 1) := by decide +kernel
theorem dX6_copyFrom_10 : decode cX6_copyFrom 10 = .ok (.iload_n 2, 1) := by decide +kernel
theorem dX6_copyFrom_11 : decode cX6_copyFrom 11 = .ok (.aload_n 0, 1) := by decide +kernel
theorem dX6_copyFrom_12 : decode cX6_copyFrom 12 = .ok (.getfield 15, 3) := by decide +kernel
theorem dX6_copyFrom_15 : decode cX6_copyFrom 15 = .ok (.if_icmp .ge 21, 3) := by decide +kernel
theorem dX6_copyFrom_18 : decode cX6_copyFrom 18 = .ok (.aload_n 0, 1) := by decide +kernel
theorem dX6_copyFrom_19 : decode cX6_copyFrom 19 = .ok (.getfield 9, 3) := by decide +kernel
theorem dX6_copyFrom_22 : decode cX6_copyFrom 22 = .ok (.iload_n 2, 1) := by decide +kernel
theorem dX6_copyFrom_23 : decode cX6_copyFrom 23 = .ok (.aload_n 1, 1) := by decide +kernel
theorem dX6_copyFrom_24 : decode cX6_copyFrom 24 = .ok (.getfield 9, 3) := by decide +kernel
theorem dX6_copyFrom_27 : decode cX6_copyFrom 27 = .ok (.iload_n 2, 1) := by decide +kernel
theorem dX6_copyFrom_28 : decode cX6_copyFrom 28 = .ok (.caload, 1) := by decide +kernel
theorem dX6_copyFrom_29 : decode cX6_copyFrom 29 = .ok (.castore, 1) := by decide +kernel
theorem dX6_copyFrom_30 : decode cX6_copyFrom 30 = .ok (.iinc 2 1, 3) := by decide +kernel
theorem dX6_copyFrom_33 : decode cX6_copyFrom 33 = .ok (.goto (-23), 3) := by decide +kernel
theorem dX6_copyFrom_36 : decode cX6_copyFrom 36 = .ok (.return_, 1) := by decide +kernel
theorem dX6_isSameAs_0 : decode cX6_isSameAs 0 = .ok (.aload_n 0, 1) := by decide +kernel
theorem dX6_isSameAs_1 : decode cX6_isSameAs 1 = .ok (.getfield 15, 3) := by decide +kernel
theorem dX6_isSameAs_4 : decode cX6_isSameAs 4 = .ok (.aload_n 1, 1) := by decide +kernel
theorem dX6_isSameAs_5 : decode cX6_isSameAs 5 = .ok (.getfield 15, 3) := by decide +kernel
theorem dX6_isSameAs_8 : decode cX6_isSameAs 8 = .ok (.if_icmp .eq 5, 3) := by decide +kernel
theorem dX6_isSameAs_11 : decode cX6_isSameAs 11 = .ok (.iconst 0, 1) := by decide +kernel
theorem dX6_isSameAs_12 : decode cX6_isSameAs 12 = .ok (.ireturn, 1) := by decide +kernel
theorem dX6_isSameAs_13 : decode cX6_isSameAs 13 = .ok (.iconst 0, 1) := by decide +kernel
theorem dX6_isSameAs_14 : decode cX6_isSameAs 14 = .ok (.istore_n 2, 1) := by decide +kernel
theorem dX6_isSameAs_15 : decode cX6_isSameAs 15 = .ok (.iload_n 2, 1) := by decide +kernel
theorem dX6_isSameAs_16 : decode cX6_isSameAs 16 = .ok (.aload_n 0, 1) := by decide +kernel
theorem dX6_isSameAs_17 : decode cX6_isSameAs 17 = .ok (.getfield 15, 3) := by decide +kernel
theorem dX6_isSameAs_20 : decode cX6_isSameAs 20 = .ok (.if_icmp .ge 26, 3) := by decide +kernel
theorem dX6_isSameAs_23 : decode cX6_isSameAs 23 = .ok (.aload_n 0, 1) := by decide +kernel
theorem dX6_isSameAs_24 : decode cX6_isSameAs 24 = .ok (.getfield 9, 3) := by decide +kernel
theorem dX6_isSameAs_27 : decode cX6_isSameAs 27 = .ok (.iload_n 2, 1) := by decide +kernel
theorem dX6_isSameAs_28 : decode cX6_isSameAs 28 = .ok (.caload, 1) := by decide +kernel
theorem dX6_isSameAs_29 : decode cX6_isSameAs 29 = .ok (.aload_n 1, 1) := by decide +kernel
theorem dX6_isSameAs_30 : decode cX6_isSameAs 30 = .ok (.getfield 9, 3) := by decide +kernel
theorem dX6_isSameAs_33 : decode cX6_isSameAs 33 = .ok (.iload_n 2, 1) := by decide +kernel
theorem dX6_isSameAs_34 : decode cX6_isSameAs 34 = .ok (.caload, 1) := by decide +kernel
theorem dX6_isSameAs_35 : decode cX6_isSameAs 35 = .ok (.if_icmp .eq 5, 3) := by decide +kernel
theorem dX6_isSameAs_38 : decode cX6_isSameAs 38 = .ok (.iconst 0, 1) := by decide +kernel
theorem dX6_isSameAs_39 : decode cX6_isSameAs 39 = .ok (.ireturn, 1) := by decide +kernel
theorem dX6_isSameAs_40 : decode cX6_isSameAs 40 = .ok (.iinc 2 1, 3) := by decide +kernel
theorem dX6_isSameAs_43 : decode cX6_isSameAs 43 = .ok (.goto (-28), 3) := by decide +kernel
theorem dX6_isSameAs_46 : decode cX6_isSameAs 46 = .ok (.iconst 1, 1) := by decide +kernel
theorem dX6_isSameAs_47 : decode cX6_isSameAs 47 = .ok (.ireturn, 1) := by decide +kernel
theorem dX6_hasPathForm_0 : decode cX6_hasPathForm 0 = .ok (.iconst 0, 1) := by decide +kernel
theorem dX6_hasPathForm_1 : decode cX6_hasPathForm 1 = .ok (.istore_n 1, 1) := by decide +kernel
theorem dX6_hasPathForm_2 : decode cX6_hasPathForm 2 = .ok (.iload_n 1, 1) := by decide +kernel
theorem dX6_hasPathForm_3 : decode cX6_hasPathForm 3 = .ok (.aload_n 0, 1) := by decide +kernel
theorem dX6_hasPathForm_4 : decode cX6_hasPathForm 4 = .ok (.getfield 15, 3) := by decide +kernel
theorem dX6_hasPathForm_7 : decode cX6_hasPathForm 7 = .ok (.if_icmp .ge 33, 3) := by decide +kernel
theorem dX6_hasPathForm_10 : decode cX6_hasPathForm 10 = .ok (.aload_n 0, 1) := by decide +kernel
theorem dX6_hasPathForm_11 : decode cX6_hasPathForm 11 = .ok (.getfield 9, 3) := by decide +kernel
theorem dX6_hasPathForm_14 : decode cX6_hasPathForm 14 = .ok (.iload_n 1, 1) := by decide +kernel
theorem dX6_hasPathForm_15 : decode cX6_hasPathForm 15 = .ok (.caload, 1) := by decide +kernel
theorem dX6_hasPathForm_16 : decode cX6_hasPathForm 16 = .ok (.bipush 42, 2) := by decide +kernel
theorem dX6_hasPathForm_18 : decode cX6_hasPathForm 18 = .ok (.if_icmp .eq 14, 3) := by decide +kernel
theorem dX6_hasPathForm_21 : decode cX6_hasPathForm 21 = .ok (.aload_n 0, 1) := by decide +kernel
theorem dX6_hasPathForm_22 : decode cX6_hasPathForm 22 = .ok (.getfield 9, 3) := by decide +kernel
theorem dX6_hasPathForm_25 : decode cX6_hasPathForm 25 = .ok (.iload_n 1, 1) := by decide +kernel
theorem dX6_hasPathForm_26 : decode cX6_hasPathForm 26 = .ok (.caload, 1) := by decide +kernel
theorem dX6_hasPathForm_27 : decode cX6_hasPathForm 27 = .ok (.bipush 63, 2) := by decide +kernel
theorem dX6_hasPathForm_29 : decode cX6_hasPathForm 29 = .ok (.if_icmp .ne 5, 3) := by decide +kernel
theorem dX6_hasPathForm_32 : decode cX6_hasPathForm 32 = .ok (.iconst 0, 1) := by decide +kernel
theorem dX6_hasPathForm_33 : decode cX6_hasPathForm 33 = .ok (.ireturn, 1) := by decide +kernel
theorem dX6_hasPathForm_34 : decode cX6_hasPathForm 34 = .ok (.iinc 1 1, 3) := by decide +kernel
theorem dX6_hasPathForm_37 : decode cX6_hasPathForm 37 = .ok (.goto (-35), 3) := by decide +kernel
theorem dX6_hasPathForm_40 : decode cX6_hasPathForm 40 = .ok (.aload_n 0, 1) := by decide +kernel
theorem dX6_hasPathForm_41 : decode cX6_hasPathForm 41 = .ok (.invokevirtual 19, 3) := by decide +kernel
theorem dX6_hasPathForm_44 : decode cX6_hasPathForm 44 = .ok (.ifCond .ne 7, 3) := by decide +kernel
theorem dX6_hasPathForm_47 : decode cX6_hasPathForm 47 = .ok (.iconst 1, 1) := by decide +kernel
theorem dX6_hasPathForm_48 : decode cX6_hasPathForm 48 = .ok (.goto 4, 3) := by decide +kernel
theorem dX6_hasPathForm_51 : decode cX6_hasPathForm 51 = .ok (.iconst 0, 1) := by decide +kernel
theorem dX6_hasPathForm_52 : decode cX6_hasPathForm 52 = .ok (.ireturn, 1) := by decide +kernel
theorem dX6_hasGlobForm_0 : decode cX6_hasGlobForm 0 = .ok (.iconst 0, 1) := by decide +kernel
theorem dX6_hasGlobForm_1 : decode cX6_hasGlobForm 1 = .ok (.istore_n 1, 1) := by decide +kernel
theorem dX6_hasGlobForm_2 : decode cX6_hasGlobForm 2 = .ok (.iload_n 1, 1) := by decide +kernel
theorem dX6_hasGlobForm_3 : decode cX6_hasGlobForm 3 = .ok (.aload_n 0, 1) := by decide +kernel
theorem dX6_hasGlobForm_4 : decode cX6_hasGlobForm 4 = .ok (.getfield 15, 3) := by decide +kernel
theorem dX6_hasGlobForm_7 : decode cX6_hasGlobForm 7 = .ok (.if_icmp .ge 43, 3) := by decide +kernel
theorem dX6_hasGlobForm_10 : decode cX6_hasGlobForm 10 = .ok (.aload_n 0, 1) := by decide +kernel
theorem dX6_hasGlobForm_11 : decode cX6_hasGlobForm 11 = .ok (.iload_n 1, 1) := by decide +kernel
theorem dX6_hasGlobForm_12 : decode cX6_hasGlobForm 12 = .ok (.invokevirtual 23, 3) := by decide +kernel
theorem dX6_hasGlobForm_15 : decode cX6_hasGlobForm 15 = .ok (.ifCond .eq 29, 3) := by decide +kernel
theorem dX6_hasGlobForm_18 : decode cX6_hasGlobForm 18 = .ok (.aload_n 0, 1) := by decide +kernel
theorem dX6_hasGlobForm_19 : decode cX6_hasGlobForm 19 = .ok (.iload_n 1, 1) := by decide +kernel
theorem dX6_hasGlobForm_20 : decode cX6_hasGlobForm 20 = .ok (.iconst 1, 1) := by decide +kernel
theorem dX6_hasGlobForm_21 : decode cX6_hasGlobForm 21 = .ok (.isub, 1) := by decide +kernel
theorem dX6_hasGlobForm_22 : decode cX6_hasGlobForm 22 = .ok (.invokevirtual 27, 3) := by decide +kernel
theorem dX6_hasGlobForm_25 : decode cX6_hasGlobForm 25 = .ok (.bipush 47, 2) := by decide +kernel
theorem dX6_hasGlobForm_27 : decode cX6_hasGlobForm 27 = .ok (.if_icmp .ne 15, 3) := by decide +kernel
theorem dX6_hasGlobForm_30 : decode cX6_hasGlobForm 30 = .ok (.aload_n 0, 1) := by decide +kernel
theorem dX6_hasGlobForm_31 : decode cX6_hasGlobForm 31 = .ok (.iload_n 1, 1) := by decide +kernel
theorem dX6_hasGlobForm_32 : decode cX6_hasGlobForm 32 = .ok (.iconst 2, 1) := by decide +kernel
theorem dX6_hasGlobForm_33 : decode cX6_hasGlobForm 33 = .ok (.iadd, 1) := by decide +kernel
theorem dX6_hasGlobForm_34 : decode cX6_hasGlobForm 34 = .ok (.invokevirtual 27, 3) := by decide +kernel
theorem dX6_hasGlobForm_37 : decode cX6_hasGlobForm 37 = .ok (.bipush 47, 2) := by decide +kernel
theorem dX6_hasGlobForm_39 : decode cX6_hasGlobForm 39 = .ok (.if_icmp .eq 5, 3) := by decide +kernel
theorem dX6_hasGlobForm_42 : decode cX6_hasGlobForm 42 = .ok (.iconst 0, 1) := by decide +kernel
theorem dX6_hasGlobForm_43 : decode cX6_hasGlobForm 43 = .ok (.ireturn, 1) := by decide +kernel
theorem dX6_hasGlobForm_44 : decode cX6_hasGlobForm 44 = .ok (.iinc 1 1, 3) := by decide +kernel
theorem dX6_hasGlobForm_47 : decode cX6_hasGlobForm 47 = .ok (.goto (-45), 3) := by decide +kernel
theorem dX6_hasGlobForm_50 : decode cX6_hasGlobForm 50 = .ok (.aload_n 0, 1) := by decide +kernel
theorem dX6_hasGlobForm_51 : decode cX6_hasGlobForm 51 = .ok (.invokevirtual 19, 3) := by decide +kernel
theorem dX6_hasGlobForm_54 : decode cX6_hasGlobForm 54 = .ok (.ifCond .ne 7, 3) := by decide +kernel
theorem dX6_hasGlobForm_57 : decode cX6_hasGlobForm 57 = .ok (.iconst 1, 1) := by decide +kernel
theorem dX6_hasGlobForm_58 : decode cX6_hasGlobForm 58 = .ok (.goto 4, 3) := by decide +kernel
theorem dX6_hasGlobForm_61 : decode cX6_hasGlobForm 61 = .ok (.iconst 0, 1) := by decide +kernel
theorem dX6_hasGlobForm_62 : decode cX6_hasGlobForm 62 = .ok (.ireturn, 1) := by decide +kernel
theorem dX6_covers_0 : decode cX6_covers 0 = .ok (.iconst 1, 1) := by decide +kernel
theorem dX6_covers_1 : decode cX6_covers 1 = .ok (.istore_n 2, 1) := by decide +kernel
theorem dX6_covers_2 : decode cX6_covers 2 = .ok (.iconst 0, 1) := by decide +kernel
theorem dX6_covers_3 : decode cX6_covers 3 = .ok (.istore_n 3, 1) := by decide +kernel
theorem dX6_covers_4 : decode cX6_covers 4 = .ok (.iload_n 3, 1) := by decide +kernel
theorem dX6_covers_5 : decode cX6_covers 5 = .ok (.aload_n 0, 1) := by decide +kernel
theorem dX6_covers_6 : decode cX6_covers 6 = .ok (.getfield 15, 3) := by decide +kernel
theorem dX6_covers_9 : decode cX6_covers 9 = .ok (.if_icmp .gt 59, 3) := by decide +kernel
theorem dX6_covers_12 : decode cX6_covers 12 = .ok (.aload_n 0, 1) := by decide +kernel
theorem dX6_covers_13 : decode cX6_covers 13 = .ok (.iload_n 3, 1) := by decide +kernel
theorem dX6_covers_14 : decode cX6_covers 14 = .ok (.invokevirtual 23, 3) := by decide +kernel
theorem dX6_covers_17 : decode cX6_covers 17 = .ok (.ifCond .eq 15, 3) := by decide +kernel
theorem dX6_covers_20 : decode cX6_covers 20 = .ok (.aload_n 1, 1) := by decide +kernel
theorem dX6_covers_21 : decode cX6_covers 21 = .ok (.iload_n 2, 1) := by decide +kernel
theorem dX6_covers_22 : decode cX6_covers 22 = .ok (.invokevirtual 31, 3) := by decide +kernel
theorem dX6_covers_25 : decode cX6_covers 25 = .ok (.istore_n 2, 1) := by decide +kernel
theorem dX6_covers_26 : decode cX6_covers 26 = .ok (.iinc 3 3, 3) := by decide +kernel
theorem dX6_covers_29 : decode cX6_covers 29 = .ok (.goto (-25), 3) := by decide +kernel
theorem dX6_covers_32 : decode cX6_covers 32 = .ok (.aload_n 0, 1) := by decide +kernel
theorem dX6_covers_33 : decode cX6_covers 33 = .ok (.iload_n 3, 1) := by decide +kernel
theorem dX6_covers_34 : decode cX6_covers 34 = .ok (.invokevirtual 27, 3) := by decide +kernel
theorem dX6_covers_37 : decode cX6_covers 37 = .ok (.istore 4, 2) := by decide +kernel
theorem dX6_covers_39 : decode cX6_covers 39 = .ok (.iload 4, 2) := by decide +kernel
theorem dX6_covers_41 : decode cX6_covers 41 = .ok (.bipush 42, 2) := by decide +kernel
theorem dX6_covers_43 : decode cX6_covers 43 = .ok (.if_icmp .ne 11, 3) := by decide +kernel
theorem dX6_covers_46 : decode cX6_covers 46 = .ok (.aload_n 1, 1) := by decide +kernel
theorem dX6_covers_47 : decode cX6_covers 47 = .ok (.iload_n 2, 1) := by decide +kernel
theorem dX6_covers_48 : decode cX6_covers 48 = .ok (.invokevirtual 35, 3) := by decide +kernel
theorem dX6_covers_51 : decode cX6_covers 51 = .ok (.goto 10, 3) := by decide +kernel
theorem dX6_covers_54 : decode cX6_covers 54 = .ok (.aload_n 1, 1) := by decide +kernel
theorem dX6_covers_55 : decode cX6_covers 55 = .ok (.iload_n 2, 1) := by decide +kernel
theorem dX6_covers_56 : decode cX6_covers 56 = .ok (.iload 4, 2) := by decide +kernel
theorem dX6_covers_58 : decode cX6_covers 58 = .ok (.invokevirtual 38, 3) := by decide +kernel
theorem dX6_covers_61 : decode cX6_covers 61 = .ok (.istore_n 2, 1) := by decide +kernel
theorem dX6_covers_62 : decode cX6_covers 62 = .ok (.iinc 3 1, 3) := by decide +kernel
theorem dX6_covers_65 : decode cX6_covers 65 = .ok (.goto (-61), 3) := by decide +kernel
theorem dX6_covers_68 : decode cX6_covers 68 = .ok (.iload_n 2, 1) := by decide +kernel
theorem dX6_covers_69 : decode cX6_covers 69 = .ok (.aload_n 1, 1) := by decide +kernel
theorem dX6_covers_70 : decode cX6_covers 70 = .ok (.getfield 15, 3) := by decide +kernel
theorem dX6_covers_73 : decode cX6_covers 73 = .ok (.iconst 1, 1) := by decide +kernel
theorem dX6_covers_74 : decode cX6_covers 74 = .ok (.iadd, 1) := by decide +kernel
theorem dX6_covers_75 : decode cX6_covers 75 = .ok (.invokestatic 42, 3) := by decide +kernel
theorem dX6_covers_78 : decode cX6_covers 78 = .ok (.ireturn, 1) := by decide +kernel
theorem dX6_signAt_0 : decode cX6_signAt 0 = .ok (.iload_n 1, 1) := by decide +kernel
theorem dX6_signAt_1 : decode cX6_signAt 1 = .ok (.ifCond .lt 20, 3) := by decide +kernel
theorem dX6_signAt_4 : decode cX6_signAt 4 = .ok (.iload_n 1, 1) := by decide +kernel
theorem dX6_signAt_5 : decode cX6_signAt 5 = .ok (.aload_n 0, 1) := by decide +kernel
theorem dX6_signAt_6 : decode cX6_signAt 6 = .ok (.getfield 15, 3) := by decide +kernel
theorem dX6_signAt_9 : decode cX6_signAt 9 = .ok (.if_icmp .ge 12, 3) := by decide +kernel
theorem dX6_signAt_12 : decode cX6_signAt 12 = .ok (.aload_n 0, 1) := by decide +kernel
theorem dX6_signAt_13 : decode cX6_signAt 13 = .ok (.getfield 9, 3) := by decide +kernel
theorem dX6_signAt_16 : decode cX6_signAt 16 = .ok (.iload_n 1, 1) := by decide +kernel
theorem dX6_signAt_17 : decode cX6_signAt 17 = .ok (.caload, 1) := by decide +kernel
theorem dX6_signAt_18 : decode cX6_signAt 18 = .ok (.goto 5, 3) := by decide +kernel
theorem dX6_signAt_21 : decode cX6_signAt 21 = .ok (.bipush 47, 2) := by decide +kernel
theorem dX6_signAt_23 : decode cX6_signAt 23 = .ok (.ireturn, 1) := by decide +kernel
theorem dX6_isDoubleStar_0 : decode cX6_isDoubleStar 0 = .ok (.aload_n 0, 1) := by decide +kernel
theorem dX6_isDoubleStar_1 : decode cX6_isDoubleStar 1 = .ok (.iload_n 1, 1) := by decide +kernel
theorem dX6_isDoubleStar_2 : decode cX6_isDoubleStar 2 = .ok (.invokevirtual 27, 3) := by decide +kernel
theorem dX6_isDoubleStar_5 : decode cX6_isDoubleStar 5 = .ok (.bipush 42, 2) := by decide +kernel
theorem dX6_isDoubleStar_7 : decode cX6_isDoubleStar 7 = .ok (.if_icmp .ne 19, 3) := by decide +kernel
theorem dX6_isDoubleStar_10 : decode cX6_isDoubleStar 10 = .ok (.aload_n 0, 1) := by decide +kernel
theorem dX6_isDoubleStar_11 : decode cX6_isDoubleStar 11 = .ok (.iload_n 1, 1) := by decide +kernel
theorem dX6_isDoubleStar_12 : decode cX6_isDoubleStar 12 = .ok (.iconst 1, 1) := by decide +kernel
theorem dX6_isDoubleStar_13 : decode cX6_isDoubleStar 13 = .ok (.iadd, 1) := by decide +kernel
theorem dX6_isDoubleStar_14 : decode cX6_isDoubleStar 14 = .ok (.invokevirtual 27, 3) := by decide +kernel
theorem dX6_isDoubleStar_17 : decode cX6_isDoubleStar 17 = .ok (.bipush 42, 2) := by decide +kernel
theorem dX6_isDoubleStar_19 : decode cX6_isDoubleStar 19 = .ok (.if_icmp .ne 7, 3) := by decide +kernel
theorem dX6_isDoubleStar_22 : decode cX6_isDoubleStar 22 = .ok (.iconst 1, 1) := by decide +kernel
theorem dX6_isDoubleStar_23 : decode cX6_isDoubleStar 23 = .ok (.goto 4, 3) := by decide +kernel
theorem dX6_isDoubleStar_26 : decode cX6_isDoubleStar 26 = .ok (.iconst 0, 1) := by decide +kernel
theorem dX6_isDoubleStar_27 : decode cX6_isDoubleStar 27 = .ok (.ireturn, 1) := by decide +kernel
theorem dX6_hasEmptySegment_0 : decode cX6_hasEmptySegment 0 = .ok (.iconst 0, 1) := by decide +kernel
theorem dX6_hasEmptySegment_1 : decode cX6_hasEmptySegment 1 = .ok (.istore_n 1, 1) := by decide +kernel
theorem dX6_hasEmptySegment_2 : decode cX6_hasEmptySegment 2 = .ok (.iload_n 1, 1) := by decide +kernel
theorem dX6_hasEmptySegment_3 : decode cX6_hasEmptySegment 3 = .ok (.aload_n 0, 1) := by decide +kernel
theorem dX6_hasEmptySegment_4 : decode cX6_hasEmptySegment 4 = .ok (.getfield 15, 3) := by decide +kernel
theorem dX6_hasEmptySegment_7 : decode cX6_hasEmptySegment 7 = .ok (.if_icmp .gt 33, 3) := by decide +kernel
theorem dX6_hasEmptySegment_10 : decode cX6_hasEmptySegment 10 = .ok (.aload_n 0, 1) := by decide +kernel
theorem dX6_hasEmptySegment_11 : decode cX6_hasEmptySegment 11 = .ok (.iload_n 1, 1) := by decide +kernel
theorem dX6_hasEmptySegment_12 : decode cX6_hasEmptySegment 12 = .ok (.iconst 1, 1) := by decide +kernel
theorem dX6_hasEmptySegment_13 : decode cX6_hasEmptySegment 13 = .ok (.isub, 1) := by decide +kernel
theorem dX6_hasEmptySegment_14 : decode cX6_hasEmptySegment 14 = .ok (.invokevirtual 27, 3) := by decide +kernel
theorem dX6_hasEmptySegment_17 : decode cX6_hasEmptySegment 17 = .ok (.bipush 47, 2) := by decide +kernel
theorem dX6_hasEmptySegment_19 : decode cX6_hasEmptySegment 19 = .ok (.if_icmp .ne 15, 3) := by decide +kernel
theorem dX6_hasEmptySegment_22 : decode cX6_hasEmptySegment 22 = .ok (.aload_n 0, 1) := by decide +kernel
theorem dX6_hasEmptySegment_23 : decode cX6_hasEmptySegment 23 = .ok (.iload_n 1, 1) := by decide +kernel
theorem dX6_hasEmptySegment_24 : decode cX6_hasEmptySegment 24 = .ok (.invokevirtual 27, 3) := by decide +kernel
theorem dX6_hasEmptySegment_27 : decode cX6_hasEmptySegment 27 = .ok (.bipush 47, 2) := by decide +kernel
theorem dX6_hasEmptySegment_29 : decode cX6_hasEmptySegment 29 = .ok (.if_icmp .ne 5, 3) := by decide +kernel
theorem dX6_hasEmptySegment_32 : decode cX6_hasEmptySegment 32 = .ok (.iconst 1, 1) := by decide +kernel
theorem dX6_hasEmptySegment_33 : decode cX6_hasEmptySegment 33 = .ok (.ireturn, 1) := by decide +kernel
theorem dX6_hasEmptySegment_34 : decode cX6_hasEmptySegment 34 = .ok (.iinc 1 1, 3) := by decide +kernel
theorem dX6_hasEmptySegment_37 : decode cX6_hasEmptySegment 37 = .ok (.goto (-35), 3) := by decide +kernel
theorem dX6_hasEmptySegment_40 : decode cX6_hasEmptySegment 40 = .ok (.iconst 0, 1) := by decide +kernel
theorem dX6_hasEmptySegment_41 : decode cX6_hasEmptySegment 41 = .ok (.ireturn, 1) := by decide +kernel
theorem dX6_startsFrom_0 : decode cX6_startsFrom 0 = .ok (.iconst 0, 1) := by decide +kernel
theorem dX6_startsFrom_1 : decode cX6_startsFrom 1 = .ok (.istore_n 2, 1) := by decide +kernel
theorem dX6_startsFrom_2 : decode cX6_startsFrom 2 = .ok (.iconst 0, 1) := by decide +kernel
theorem dX6_startsFrom_3 : decode cX6_startsFrom 3 = .ok (.istore_n 3, 1) := by decide +kernel
theorem dX6_startsFrom_4 : decode cX6_startsFrom 4 = .ok (.iconst 0, 1) := by decide +kernel
theorem dX6_startsFrom_5 : decode cX6_startsFrom 5 = .ok (.istore 4, 2) := by decide +kernel
theorem dX6_startsFrom_7 : decode cX6_startsFrom 7 = .ok (.iload 4, 2) := by decide +kernel
theorem dX6_startsFrom_9 : decode cX6_startsFrom 9 = .ok (.aload_n 0, 1) := by decide +kernel
theorem dX6_startsFrom_10 : decode cX6_startsFrom 10 = .ok (.getfield 15, 3) := by decide +kernel
theorem dX6_startsFrom_13 : decode cX6_startsFrom 13 = .ok (.iconst 1, 1) := by decide +kernel
theorem dX6_startsFrom_14 : decode cX6_startsFrom 14 = .ok (.iadd, 1) := by decide +kernel
theorem dX6_startsFrom_15 : decode cX6_startsFrom 15 = .ok (.if_icmp .gt 52, 3) := by decide +kernel
theorem dX6_startsFrom_18 : decode cX6_startsFrom 18 = .ok (.iload_n 3, 1) := by decide +kernel
theorem dX6_startsFrom_19 : decode cX6_startsFrom 19 = .ok (.ifCond .ne 12, 3) := by decide +kernel
theorem dX6_startsFrom_22 : decode cX6_startsFrom 22 = .ok (.iload_n 1, 1) := by decide +kernel
theorem dX6_startsFrom_23 : decode cX6_startsFrom 23 = .ok (.iload 4, 2) := by decide +kernel
theorem dX6_startsFrom_25 : decode cX6_startsFrom 25 = .ok (.invokestatic 42, 3) := by decide +kernel
theorem dX6_startsFrom_28 : decode cX6_startsFrom 28 = .ok (.ifCond .eq 7, 3) := by decide +kernel
theorem dX6_startsFrom_31 : decode cX6_startsFrom 31 = .ok (.iconst 1, 1) := by decide +kernel
theorem dX6_startsFrom_32 : decode cX6_startsFrom 32 = .ok (.goto 4, 3) := by decide +kernel
theorem dX6_startsFrom_35 : decode cX6_startsFrom 35 = .ok (.iconst 0, 1) := by decide +kernel
theorem dX6_startsFrom_36 : decode cX6_startsFrom 36 = .ok (.istore_n 3, 1) := by decide +kernel
theorem dX6_startsFrom_37 : decode cX6_startsFrom 37 = .ok (.iload_n 3, 1) := by decide +kernel
theorem dX6_startsFrom_38 : decode cX6_startsFrom 38 = .ok (.ifCond .eq 23, 3) := by decide +kernel
theorem dX6_startsFrom_41 : decode cX6_startsFrom 41 = .ok (.aload_n 0, 1) := by decide +kernel
theorem dX6_startsFrom_42 : decode cX6_startsFrom 42 = .ok (.iload 4, 2) := by decide +kernel
theorem dX6_startsFrom_44 : decode cX6_startsFrom 44 = .ok (.iconst 1, 1) := by decide +kernel
theorem dX6_startsFrom_45 : decode cX6_startsFrom 45 = .ok (.isub, 1) := by decide +kernel
theorem dX6_startsFrom_46 : decode cX6_startsFrom 46 = .ok (.invokevirtual 27, 3) := by decide +kernel
theorem dX6_startsFrom_49 : decode cX6_startsFrom 49 = .ok (.bipush 47, 2) := by decide +kernel
theorem dX6_startsFrom_51 : decode cX6_startsFrom 51 = .ok (.if_icmp .ne 10, 3) := by decide +kernel
theorem dX6_startsFrom_54 : decode cX6_startsFrom 54 = .ok (.iload_n 2, 1) := by decide +kernel
theorem dX6_startsFrom_55 : decode cX6_startsFrom 55 = .ok (.iconst 1, 1) := by decide +kernel
theorem dX6_startsFrom_56 : decode cX6_startsFrom 56 = .ok (.iload 4, 2) := by decide +kernel
theorem dX6_startsFrom_58 : decode cX6_startsFrom 58 = .ok (.ishl, 1) := by decide +kernel
theorem dX6_startsFrom_59 : decode cX6_startsFrom 59 = .ok (.ior, 1) := by decide +kernel
theorem dX6_startsFrom_60 : decode cX6_startsFrom 60 = .ok (.istore_n 2, 1) := by decide +kernel
theorem dX6_startsFrom_61 : decode cX6_startsFrom 61 = .ok (.iinc 4 1, 3) := by decide +kernel
theorem dX6_startsFrom_64 : decode cX6_startsFrom 64 = .ok (.goto (-57), 3) := by decide +kernel
theorem dX6_startsFrom_67 : decode cX6_startsFrom 67 = .ok (.iload_n 2, 1) := by decide +kernel
theorem dX6_startsFrom_68 : decode cX6_startsFrom 68 = .ok (.ireturn, 1) := by decide +kernel
theorem dX6_overLetters_0 : decode cX6_overLetters 0 = .ok (.iload_n 1, 1) := by decide +kernel
theorem dX6_overLetters_1 : decode cX6_overLetters 1 = .ok (.istore_n 2, 1) := by decide +kernel
theorem dX6_overLetters_2 : decode cX6_overLetters 2 = .ok (.iconst 0, 1) := by decide +kernel
theorem dX6_overLetters_3 : decode cX6_overLetters 3 = .ok (.istore_n 3, 1) := by decide +kernel
theorem dX6_overLetters_4 : decode cX6_overLetters 4 = .ok (.iload_n 3, 1) := by decide +kernel
theorem dX6_overLetters_5 : decode cX6_overLetters 5 = .ok (.aload_n 0, 1) := by decide +kernel
theorem dX6_overLetters_6 : decode cX6_overLetters 6 = .ok (.getfield 15, 3) := by decide +kernel
theorem dX6_overLetters_9 : decode cX6_overLetters 9 = .ok (.if_icmp .ge 36, 3) := by decide +kernel
theorem dX6_overLetters_12 : decode cX6_overLetters 12 = .ok (.iload_n 2, 1) := by decide +kernel
theorem dX6_overLetters_13 : decode cX6_overLetters 13 = .ok (.iload_n 3, 1) := by decide +kernel
theorem dX6_overLetters_14 : decode cX6_overLetters 14 = .ok (.invokestatic 42, 3) := by decide +kernel
theorem dX6_overLetters_17 : decode cX6_overLetters 17 = .ok (.ifCond .eq 22, 3) := by decide +kernel
theorem dX6_overLetters_20 : decode cX6_overLetters 20 = .ok (.aload_n 0, 1) := by decide +kernel
theorem dX6_overLetters_21 : decode cX6_overLetters 21 = .ok (.getfield 9, 3) := by decide +kernel
theorem dX6_overLetters_24 : decode cX6_overLetters 24 = .ok (.iload_n 3, 1) := by decide +kernel
theorem dX6_overLetters_25 : decode cX6_overLetters 25 = .ok (.caload, 1) := by decide +kernel
theorem dX6_overLetters_26 : decode cX6_overLetters 26 = .ok (.bipush 47, 2) := by decide +kernel
theorem dX6_overLetters_28 : decode cX6_overLetters 28 = .ok (.if_icmp .eq 11, 3) := by decide +kernel
theorem dX6_overLetters_31 : decode cX6_overLetters 31 = .ok (.iload_n 2, 1) := by decide +kernel
theorem dX6_overLetters_32 : decode cX6_overLetters 32 = .ok (.iconst 1, 1) := by decide +kernel
theorem dX6_overLetters_33 : decode cX6_overLetters 33 = .ok (.iload_n 3, 1) := by decide +kernel
theorem dX6_overLetters_34 : decode cX6_overLetters 34 = .ok (.iconst 1, 1) := by decide +kernel
theorem dX6_overLetters_35 : decode cX6_overLetters 35 = .ok (.iadd, 1) := by decide +kernel
theorem dX6_overLetters_36 : decode cX6_overLetters 36 = .ok (.ishl, 1) := by decide +kernel
theorem dX6_overLetters_37 : decode cX6_overLetters 37 = .ok (.ior, 1) := by decide +kernel
theorem dX6_overLetters_38 : decode cX6_overLetters 38 = .ok (.istore_n 2, 1) := by decide +kernel
theorem dX6_overLetters_39 : decode cX6_overLetters 39 = .ok (.iinc 3 1, 3) := by decide +kernel
theorem dX6_overLetters_42 : decode cX6_overLetters 42 = .ok (.goto (-38), 3) := by decide +kernel
theorem dX6_overLetters_45 : decode cX6_overLetters 45 = .ok (.iload_n 2, 1) := by decide +kernel
theorem dX6_overLetters_46 : decode cX6_overLetters 46 = .ok (.ireturn, 1) := by decide +kernel
theorem dX6_overSign_0 : decode cX6_overSign 0 = .ok (.iconst 0, 1) := by decide +kernel
theorem dX6_overSign_1 : decode cX6_overSign 1 = .ok (.istore_n 3, 1) := by decide +kernel
theorem dX6_overSign_2 : decode cX6_overSign 2 = .ok (.iconst 0, 1) := by decide +kernel
theorem dX6_overSign_3 : decode cX6_overSign 3 = .ok (.istore 4, 2) := by decide +kernel
theorem dX6_overSign_5 : decode cX6_overSign 5 = .ok (.iload 4, 2) := by decide +kernel
theorem dX6_overSign_7 : decode cX6_overSign 7 = .ok (.aload_n 0, 1) := by decide +kernel
theorem dX6_overSign_8 : decode cX6_overSign 8 = .ok (.getfield 15, 3) := by decide +kernel
theorem dX6_overSign_11 : decode cX6_overSign 11 = .ok (.if_icmp .gt 74, 3) := by decide +kernel
theorem dX6_overSign_14 : decode cX6_overSign 14 = .ok (.iload_n 2, 1) := by decide +kernel
theorem dX6_overSign_15 : decode cX6_overSign 15 = .ok (.bipush 63, 2) := by decide +kernel
theorem dX6_overSign_17 : decode cX6_overSign 17 = .ok (.if_icmp .ne 22, 3) := by decide +kernel
theorem dX6_overSign_20 : decode cX6_overSign 20 = .ok (.aload_n 0, 1) := by decide +kernel
theorem dX6_overSign_21 : decode cX6_overSign 21 = .ok (.iload 4, 2) := by decide +kernel
theorem dX6_overSign_23 : decode cX6_overSign 23 = .ok (.invokevirtual 27, 3) := by decide +kernel
theorem dX6_overSign_26 : decode cX6_overSign 26 = .ok (.bipush 47, 2) := by decide +kernel
theorem dX6_overSign_28 : decode cX6_overSign 28 = .ok (.if_icmp .eq 7, 3) := by decide +kernel
theorem dX6_overSign_31 : decode cX6_overSign 31 = .ok (.iconst 1, 1) := by decide +kernel
theorem dX6_overSign_32 : decode cX6_overSign 32 = .ok (.goto 22, 3) := by decide +kernel
theorem dX6_overSign_35 : decode cX6_overSign 35 = .ok (.iconst 0, 1) := by decide +kernel
theorem dX6_overSign_36 : decode cX6_overSign 36 = .ok (.goto 18, 3) := by decide +kernel
theorem dX6_overSign_39 : decode cX6_overSign 39 = .ok (.aload_n 0, 1) := by decide +kernel
theorem dX6_overSign_40 : decode cX6_overSign 40 = .ok (.iload 4, 2) := by decide +kernel
theorem dX6_overSign_42 : decode cX6_overSign 42 = .ok (.invokevirtual 27, 3) := by decide +kernel
theorem dX6_overSign_45 : decode cX6_overSign 45 = .ok (.iload_n 2, 1) := by decide +kernel
theorem dX6_overSign_46 : decode cX6_overSign 46 = .ok (.if_icmp .ne 7, 3) := by decide +kernel
theorem dX6_overSign_49 : decode cX6_overSign 49 = .ok (.iconst 1, 1) := by decide +kernel
theorem dX6_overSign_50 : decode cX6_overSign 50 = .ok (.goto 4, 3) := by decide +kernel
theorem dX6_overSign_53 : decode cX6_overSign 53 = .ok (.iconst 0, 1) := by decide +kernel
theorem dX6_overSign_54 : decode cX6_overSign 54 = .ok (.istore 5, 2) := by decide +kernel
theorem dX6_overSign_56 : decode cX6_overSign 56 = .ok (.iload 5, 2) := by decide +kernel
theorem dX6_overSign_58 : decode cX6_overSign 58 = .ok (.ifCond .eq 21, 3) := by decide +kernel
theorem dX6_overSign_61 : decode cX6_overSign 61 = .ok (.iload_n 1, 1) := by decide +kernel
theorem dX6_overSign_62 : decode cX6_overSign 62 = .ok (.iload 4, 2) := by decide +kernel
theorem dX6_overSign_64 : decode cX6_overSign 64 = .ok (.invokestatic 42, 3) := by decide +kernel
theorem dX6_overSign_67 : decode cX6_overSign 67 = .ok (.ifCond .eq 12, 3) := by decide +kernel
theorem dX6_overSign_70 : decode cX6_overSign 70 = .ok (.iload_n 3, 1) := by decide +kernel
theorem dX6_overSign_71 : decode cX6_overSign 71 = .ok (.iconst 1, 1) := by decide +kernel
theorem dX6_overSign_72 : decode cX6_overSign 72 = .ok (.iload 4, 2) := by decide +kernel
theorem dX6_overSign_74 : decode cX6_overSign 74 = .ok (.iconst 1, 1) := by decide +kernel
theorem dX6_overSign_75 : decode cX6_overSign 75 = .ok (.iadd, 1) := by decide +kernel
theorem dX6_overSign_76 : decode cX6_overSign 76 = .ok (.ishl, 1) := by decide +kernel
theorem dX6_overSign_77 : decode cX6_overSign 77 = .ok (.ior, 1) := by decide +kernel
theorem dX6_overSign_78 : decode cX6_overSign 78 = .ok (.istore_n 3, 1) := by decide +kernel
theorem dX6_overSign_79 : decode cX6_overSign 79 = .ok (.iinc 4 1, 3) := by decide +kernel
theorem dX6_overSign_82 : decode cX6_overSign 82 = .ok (.goto (-77), 3) := by decide +kernel
theorem dX6_overSign_85 : decode cX6_overSign 85 = .ok (.iload_n 3, 1) := by decide +kernel
theorem dX6_overSign_86 : decode cX6_overSign 86 = .ok (.ireturn, 1) := by decide +kernel
theorem dX7_init_0 : decode cX7_init 0 = .ok (.aload_n 0, 1) := by decide +kernel
theorem dX7_init_1 : decode cX7_init 1 = .ok (.invokespecial 1, 3) := by decide +kernel
theorem dX7_init_4 : decode cX7_init 4 = .ok (.aload_n 0, 1) := by decide +kernel
theorem dX7_init_5 : decode cX7_init 5 = .ok (.new 7, 3) := by decide +kernel
theorem dX7_init_8 : decode cX7_init 8 = .ok (.dup, 1) := by decide +kernel
theorem dX7_init_9 : decode cX7_init 9 = .ok (.invokespecial 9, 3) := by decide +kernel
theorem dX7_init_12 : decode cX7_init 12 = .ok (.putfield 10, 3) := by decide +kernel
theorem dX7_init_15 : decode cX7_init 15 = .ok (.aload_n 0, 1) := by decide +kernel
theorem dX7_init_16 : decode cX7_init 16 = .ok (.new 16, 3) := by decide +kernel
theorem dX7_init_19 : decode cX7_init 19 = .ok (.dup, 1) := by decide +kernel
theorem dX7_init_20 : decode cX7_init 20 = .ok (.invokespecial 18, 3) := by decide +kernel
theorem dX7_init_23 : decode cX7_init 23 = .ok (.putfield 19, 3) := by decide +kernel
theorem dX7_init_26 : decode cX7_init 26 = .ok (.aload_n 0, 1) := by decide +kernel
theorem dX7_init_27 : decode cX7_init 27 = .ok (.new 23, 3) := by decide +kernel
theorem dX7_init_30 : decode cX7_init 30 = .ok (.dup, 1) := by decide +kernel
theorem dX7_init_31 : decode cX7_init 31 = .ok (.invokespecial 25, 3) := by decide +kernel
theorem dX7_init_34 : decode cX7_init 34 = .ok (.putfield 26, 3) := by decide +kernel
theorem dX7_init_37 : decode cX7_init 37 = .ok (.aload_n 0, 1) := by decide +kernel
theorem dX7_init_38 : decode cX7_init 38 = .ok (.new 30, 3) := by decide +kernel
theorem dX7_init_41 : decode cX7_init 41 = .ok (.dup, 1) := by decide +kernel
theorem dX7_init_42 : decode cX7_init 42 = .ok (.aload_n 0, 1) := by decide +kernel
theorem dX7_init_43 : decode cX7_init 43 = .ok (.getfield 19, 3) := by decide +kernel
theorem dX7_init_46 : decode cX7_init 46 = .ok (.aload_n 0, 1) := by decide +kernel
theorem dX7_init_47 : decode cX7_init 47 = .ok (.getfield 26, 3) := by decide +kernel
theorem dX7_init_50 : decode cX7_init 50 = .ok (.invokespecial 32, 3) := by decide +kernel
theorem dX7_init_53 : decode cX7_init 53 = .ok (.putfield 35, 3) := by decide +kernel
theorem dX7_init_56 : decode cX7_init 56 = .ok (.aload_n 0, 1) := by decide +kernel
theorem dX7_init_57 : decode cX7_init 57 = .ok (.new 39, 3) := by decide +kernel
theorem dX7_init_60 : decode cX7_init 60 = .ok (.dup, 1) := by decide +kernel
theorem dX7_init_61 : decode cX7_init 61 = .ok (.invokespecial 41, 3) := by decide +kernel
theorem dX7_init_64 : decode cX7_init 64 = .ok (.putfield 42, 3) := by decide +kernel
theorem dX7_init_67 : decode cX7_init 67 = .ok (.aload_n 0, 1) := by decide +kernel
theorem dX7_init_68 : decode cX7_init 68 = .ok (.new 46, 3) := by decide +kernel
theorem dX7_init_71 : decode cX7_init 71 = .ok (.dup, 1) := by decide +kernel
theorem dX7_init_72 : decode cX7_init 72 = .ok (.invokespecial 48, 3) := by decide +kernel
theorem dX7_init_75 : decode cX7_init 75 = .ok (.putfield 49, 3) := by decide +kernel
theorem dX7_init_78 : decode cX7_init 78 = .ok (.return_, 1) := by decide +kernel
theorem dX7_type_0 : decode cX7_type 0 = .ok (.iload_n 1, 1) := by decide +kernel
theorem dX7_type_1 : decode cX7_type 1 = .ok (.invokestatic 53, 3) := by decide +kernel
theorem dX7_type_4 : decode cX7_type 4 = .ok (.ifCond .ne 13, 3) := by decide +kernel
theorem dX7_type_7 : decode cX7_type 7 = .ok (.new 57, 3) := by decide +kernel
theorem dX7_type_10 : decode cX7_type 10 = .ok (.dup, 1) := by decide +kernel
theorem dX7_type_11 : decode cX7_type 11 = .ok (.ldc 59, 2) := by decide +kernel
theorem dX7_type_13 : decode cX7_type 13 = .ok (.invokespecial 61, 3) := by decide +kernel
theorem dX7_type_16 : decode cX7_type 16 = .ok (.athrow, 1) := by decide +kernel
theorem dX7_type_17 : decode cX7_type 17 = .ok (.aload_n 0, 1) := by decide +kernel
theorem dX7_type_18 : decode cX7_type 18 = .ok (.getfield 10, 3) := by decide +kernel
theorem dX7_type_21 : decode cX7_type 21 = .ok (.invokevirtual 64, 3) := by decide +kernel
theorem dX7_type_24 : decode cX7_type 24 = .ok (.ifCond .eq 13, 3) := by decide +kernel
theorem dX7_type_27 : decode cX7_type 27 = .ok (.new 68, 3) := by decide +kernel
theorem dX7_type_30 : decode cX7_type 30 = .ok (.dup, 1) := by decide +kernel
theorem dX7_type_31 : decode cX7_type 31 = .ok (.ldc 70, 2) := by decide +kernel
theorem dX7_type_33 : decode cX7_type 33 = .ok (.invokespecial 72, 3) := by decide +kernel
theorem dX7_type_36 : decode cX7_type 36 = .ok (.athrow, 1) := by decide +kernel
theorem dX7_type_37 : decode cX7_type 37 = .ok (.aload_n 0, 1) := by decide +kernel
theorem dX7_type_38 : decode cX7_type 38 = .ok (.getfield 10, 3) := by decide +kernel
theorem dX7_type_41 : decode cX7_type 41 = .ok (.iload_n 1, 1) := by decide +kernel
theorem dX7_type_42 : decode cX7_type 42 = .ok (.invokevirtual 73, 3) := by decide +kernel
theorem dX7_type_45 : decode cX7_type 45 = .ok (.aload_n 0, 1) := by decide +kernel
theorem dX7_type_46 : decode cX7_type 46 = .ok (.getfield 10, 3) := by decide +kernel
theorem dX7_type_49 : decode cX7_type 49 = .ok (.invokevirtual 77, 3) := by decide +kernel
theorem dX7_type_52 : decode cX7_type 52 = .ok (.ireturn, 1) := by decide +kernel
theorem dX7_clearText_0 : decode cX7_clearText 0 = .ok (.aload_n 0, 1) := by decide +kernel
theorem dX7_clearText_1 : decode cX7_clearText 1 = .ok (.getfield 10, 3) := by decide +kernel
theorem dX7_clearText_4 : decode cX7_clearText 4 = .ok (.invokevirtual 77, 3) := by decide +kernel
theorem dX7_clearText_7 : decode cX7_clearText 7 = .ok (.istore_n 1, 1) := by decide +kernel
theorem dX7_clearText_8 : decode cX7_clearText 8 = .ok (.aload_n 0, 1) := by decide +kernel
theorem dX7_clearText_9 : decode cX7_clearText 9 = .ok (.getfield 10, 3) := by decide +kernel
theorem dX7_clearText_12 : decode cX7_clearText 12 = .ok (.invokevirtual 81, 3) := by decide +kernel
theorem dX7_clearText_15 : decode cX7_clearText 15 = .ok (.iload_n 1, 1) := by decide +kernel
theorem dX7_clearText_16 : decode cX7_clearText 16 = .ok (.ireturn, 1) := by decide +kernel
theorem dX7_isPath_0 : decode cX7_isPath 0 = .ok (.aload_n 0, 1) := by decide +kernel
theorem dX7_isPath_1 : decode cX7_isPath 1 = .ok (.getfield 10, 3) := by decide +kernel
theorem dX7_isPath_4 : decode cX7_isPath 4 = .ok (.invokevirtual 84, 3) := by decide +kernel
theorem dX7_isPath_7 : decode cX7_isPath 7 = .ok (.ireturn, 1) := by decide +kernel
theorem dX7_isGlob_0 : decode cX7_isGlob 0 = .ok (.aload_n 0, 1) := by decide +kernel
theorem dX7_isGlob_1 : decode cX7_isGlob 1 = .ok (.getfield 10, 3) := by decide +kernel
theorem dX7_isGlob_4 : decode cX7_isGlob 4 = .ok (.invokevirtual 87, 3) := by decide +kernel
theorem dX7_isGlob_7 : decode cX7_isGlob 7 = .ok (.ireturn, 1) := by decide +kernel
theorem dX7_addFile_0 : decode cX7_addFile 0 = .ok (.aload_n 0, 1) := by decide +kernel
theorem dX7_addFile_1 : decode cX7_addFile 1 = .ok (.iload_n 1, 1) := by decide +kernel
theorem dX7_addFile_2 : decode cX7_addFile 2 = .ok (.invokevirtual 90, 3) := by decide +kernel
theorem dX7_addFile_5 : decode cX7_addFile 5 = .ok (.aload_n 0, 1) := by decide +kernel
theorem dX7_addFile_6 : decode cX7_addFile 6 = .ok (.getfield 10, 3) := by decide +kernel
theorem dX7_addFile_9 : decode cX7_addFile 9 = .ok (.invokevirtual 84, 3) := by decide +kernel
theorem dX7_addFile_12 : decode cX7_addFile 12 = .ok (.ifCond .ne 13, 3) := by decide +kernel
theorem dX7_addFile_15 : decode cX7_addFile 15 = .ok (.new 57, 3) := by decide +kernel
theorem dX7_addFile_18 : decode cX7_addFile 18 = .ok (.dup, 1) := by decide +kernel
theorem dX7_addFile_19 : decode cX7_addFile 19 = .ok (.ldc 94, 2) := by decide +kernel
theorem dX7_addFile_21 : decode cX7_addFile 21 = .ok (.invokespecial 61, 3) := by decide +kernel
theorem dX7_addFile_24 : decode cX7_addFile 24 = .ok (.athrow, 1) := by decide +kernel
theorem dX7_addFile_25 : decode cX7_addFile 25 = .ok (.aload_n 0, 1) := by decide +kernel
theorem dX7_addFile_26 : decode cX7_addFile 26 = .ok (.getfield 19, 3) := by decide +kernel
theorem dX7_addFile_29 : decode cX7_addFile 29 = .ok (.aload_n 0, 1) := by decide +kernel
theorem dX7_addFile_30 : decode cX7_addFile 30 = .ok (.getfield 10, 3) := by decide +kernel
theorem dX7_addFile_33 : decode cX7_addFile 33 = .ok (.invokevirtual 96, 3) := by decide +kernel
theorem dX7_addFile_36 : decode cX7_addFile 36 = .ok (.istore_n 2, 1) := by decide +kernel
theorem dX7_addFile_37 : decode cX7_addFile 37 = .ok (.aload_n 0, 1) := by decide +kernel
theorem dX7_addFile_38 : decode cX7_addFile 38 = .ok (.getfield 19, 3) := by decide +kernel
theorem dX7_addFile_41 : decode cX7_addFile 41 = .ok (.iload_n 2, 1) := by decide +kernel
theorem dX7_addFile_42 : decode cX7_addFile 42 = .ok (.invokevirtual 100, 3) := by decide +kernel
theorem dX7_addFile_45 : decode cX7_addFile 45 = .ok (.ifCond .eq 13, 3) := by decide +kernel
theorem dX7_addFile_48 : decode cX7_addFile 48 = .ok (.new 68, 3) := by decide +kernel
theorem dX7_addFile_51 : decode cX7_addFile 51 = .ok (.dup, 1) := by decide +kernel
theorem dX7_addFile_52 : decode cX7_addFile 52 = .ok (.ldc 104, 2) := by decide +kernel
theorem dX7_addFile_54 : decode cX7_addFile 54 = .ok (.invokespecial 72, 3) := by decide +kernel
theorem dX7_addFile_57 : decode cX7_addFile 57 = .ok (.athrow, 1) := by decide +kernel
theorem dX7_addFile_58 : decode cX7_addFile 58 = .ok (.iload_n 2, 1) := by decide +kernel
theorem dX7_addFile_59 : decode cX7_addFile 59 = .ok (.iconst (-1), 1) := by decide +kernel
theorem dX7_addFile_60 : decode cX7_addFile 60 = .ok (.if_icmp .ne 23, 3) := by decide +kernel
theorem dX7_addFile_63 : decode cX7_addFile 63 = .ok (.aload_n 0, 1) := by decide +kernel
theorem dX7_addFile_64 : decode cX7_addFile 64 = .ok (.getfield 19, 3) := by decide +kernel
theorem dX7_addFile_67 : decode cX7_addFile 67 = .ok (.invokevirtual 106, 3) := by decide +kernel
theorem dX7_addFile_70 : decode cX7_addFile 70 = .ok (.ifCond .eq 13, 3) := by decide +kernel
theorem dX7_addFile_73 : decode cX7_addFile 73 = .ok (.new 68, 3) := by decide +kernel
theorem dX7_addFile_76 : decode cX7_addFile 76 = .ok (.dup, 1) := by decide +kernel
theorem dX7_addFile_77 : decode cX7_addFile 77 = .ok (.ldc 107, 2) := by decide +kernel
theorem dX7_addFile_79 : decode cX7_addFile 79 = .ok (.invokespecial 72, 3) := by decide +kernel
theorem dX7_addFile_82 : decode cX7_addFile 82 = .ok (.athrow, 1) := by decide +kernel
theorem dX7_addFile_83 : decode cX7_addFile 83 = .ok (.iload_n 2, 1) := by decide +kernel
theorem dX7_addFile_84 : decode cX7_addFile 84 = .ok (.iconst (-1), 1) := by decide +kernel
theorem dX7_addFile_85 : decode cX7_addFile 85 = .ok (.if_icmp .ne 8, 3) := by decide +kernel
theorem dX7_addFile_88 : decode cX7_addFile 88 = .ok (.aload_n 0, 1) := by decide +kernel
theorem dX7_addFile_89 : decode cX7_addFile 89 = .ok (.invokevirtual 109, 3) := by decide +kernel
theorem dX7_addFile_92 : decode cX7_addFile 92 = .ok (.istore_n 2, 1) := by decide +kernel
theorem dX7_addFile_93 : decode cX7_addFile 93 = .ok (.aload_n 0, 1) := by decide +kernel
theorem dX7_addFile_94 : decode cX7_addFile 94 = .ok (.getfield 19, 3) := by decide +kernel
theorem dX7_addFile_97 : decode cX7_addFile 97 = .ok (.iload_n 2, 1) := by decide +kernel
theorem dX7_addFile_98 : decode cX7_addFile 98 = .ok (.iload_n 1, 1) := by decide +kernel
theorem dX7_addFile_99 : decode cX7_addFile 99 = .ok (.invokevirtual 112, 3) := by decide +kernel
theorem dX7_addFile_102 : decode cX7_addFile 102 = .ok (.iload_n 2, 1) := by decide +kernel
theorem dX7_addFile_103 : decode cX7_addFile 103 = .ok (.ireturn, 1) := by decide +kernel
theorem dX7_findFile_0 : decode cX7_findFile 0 = .ok (.aload_n 0, 1) := by decide +kernel
theorem dX7_findFile_1 : decode cX7_findFile 1 = .ok (.getfield 19, 3) := by decide +kernel
theorem dX7_findFile_4 : decode cX7_findFile 4 = .ok (.aload_n 0, 1) := by decide +kernel
theorem dX7_findFile_5 : decode cX7_findFile 5 = .ok (.getfield 10, 3) := by decide +kernel
theorem dX7_findFile_8 : decode cX7_findFile 8 = .ok (.invokevirtual 96, 3) := by decide +kernel
theorem dX7_findFile_11 : decode cX7_findFile 11 = .ok (.ireturn, 1) := by decide +kernel
theorem dX7_edit_0 : decode cX7_edit 0 = .ok (.aload_n 0, 1) := by decide +kernel
theorem dX7_edit_1 : decode cX7_edit 1 = .ok (.iload_n 1, 1) := by decide +kernel
theorem dX7_edit_2 : decode cX7_edit 2 = .ok (.invokevirtual 116, 3) := by decide +kernel
theorem dX7_edit_5 : decode cX7_edit 5 = .ok (.aload_n 0, 1) := by decide +kernel
theorem dX7_edit_6 : decode cX7_edit 6 = .ok (.iload_n 2, 1) := by decide +kernel
theorem dX7_edit_7 : decode cX7_edit 7 = .ok (.invokevirtual 90, 3) := by decide +kernel
theorem dX7_edit_10 : decode cX7_edit 10 = .ok (.aload_n 0, 1) := by decide +kernel
theorem dX7_edit_11 : decode cX7_edit 11 = .ok (.getfield 19, 3) := by decide +kernel
theorem dX7_edit_14 : decode cX7_edit 14 = .ok (.iload_n 1, 1) := by decide +kernel
theorem dX7_edit_15 : decode cX7_edit 15 = .ok (.invokevirtual 119, 3) := by decide +kernel
theorem dX7_edit_18 : decode cX7_edit 18 = .ok (.istore_n 3, 1) := by decide +kernel
theorem dX7_edit_19 : decode cX7_edit 19 = .ok (.aload_n 0, 1) := by decide +kernel
theorem dX7_edit_20 : decode cX7_edit 20 = .ok (.getfield 19, 3) := by decide +kernel
theorem dX7_edit_23 : decode cX7_edit 23 = .ok (.iload_n 1, 1) := by decide +kernel
theorem dX7_edit_24 : decode cX7_edit 24 = .ok (.iload_n 2, 1) := by decide +kernel
theorem dX7_edit_25 : decode cX7_edit 25 = .ok (.invokevirtual 112, 3) := by decide +kernel
theorem dX7_edit_28 : decode cX7_edit 28 = .ok (.iload_n 3, 1) := by decide +kernel
theorem dX7_edit_29 : decode cX7_edit 29 = .ok (.ireturn, 1) := by decide +kernel
theorem dX7_delete_0 : decode cX7_delete 0 = .ok (.aload_n 0, 1) := by decide +kernel
theorem dX7_delete_1 : decode cX7_delete 1 = .ok (.iload_n 1, 1) := by decide +kernel
theorem dX7_delete_2 : decode cX7_delete 2 = .ok (.invokevirtual 116, 3) := by decide +kernel
theorem dX7_delete_5 : decode cX7_delete 5 = .ok (.aload_n 0, 1) := by decide +kernel
theorem dX7_delete_6 : decode cX7_delete 6 = .ok (.getfield 19, 3) := by decide +kernel
theorem dX7_delete_9 : decode cX7_delete 9 = .ok (.iload_n 1, 1) := by decide +kernel
theorem dX7_delete_10 : decode cX7_delete 10 = .ok (.invokevirtual 123, 3) := by decide +kernel
theorem dX7_delete_13 : decode cX7_delete 13 = .ok (.aload_n 0, 1) := by decide +kernel
theorem dX7_delete_14 : decode cX7_delete 14 = .ok (.getfield 19, 3) := by decide +kernel
theorem dX7_delete_17 : decode cX7_delete 17 = .ok (.iload_n 1, 1) := by decide +kernel
theorem dX7_delete_18 : decode cX7_delete 18 = .ok (.invokevirtual 119, 3) := by decide +kernel
theorem dX7_delete_21 : decode cX7_delete 21 = .ok (.ireturn, 1) := by decide +kernel
theorem dX7_files_0 : decode cX7_files 0 = .ok (.aload_n 0, 1) := by decide +kernel
theorem dX7_files_1 : decode cX7_files 1 = .ok (.getfield 19, 3) := by decide +kernel
theorem dX7_files_4 : decode cX7_files 4 = .ok (.invokevirtual 126, 3) := by decide +kernel
theorem dX7_files_7 : decode cX7_files 7 = .ok (.ireturn, 1) := by decide +kernel
theorem dX7_matches_0 : decode cX7_matches 0 = .ok (.aload_n 0, 1) := by decide +kernel
theorem dX7_matches_1 : decode cX7_matches 1 = .ok (.iload_n 1, 1) := by decide +kernel
theorem dX7_matches_2 : decode cX7_matches 2 = .ok (.invokevirtual 129, 3) := by decide +kernel
theorem dX7_matches_5 : decode cX7_matches 5 = .ok (.aload_n 0, 1) := by decide +kernel
theorem dX7_matches_6 : decode cX7_matches 6 = .ok (.getfield 10, 3) := by decide +kernel
theorem dX7_matches_9 : decode cX7_matches 9 = .ok (.invokevirtual 87, 3) := by decide +kernel
theorem dX7_matches_12 : decode cX7_matches 12 = .ok (.ifCond .ne 13, 3) := by decide +kernel
theorem dX7_matches_15 : decode cX7_matches 15 = .ok (.new 68, 3) := by decide +kernel
theorem dX7_matches_18 : decode cX7_matches 18 = .ok (.dup, 1) := by decide +kernel
theorem dX7_matches_19 : decode cX7_matches 19 = .ok (.ldc 132, 2) := by decide +kernel
theorem dX7_matches_21 : decode cX7_matches 21 = .ok (.invokespecial 72, 3) := by decide +kernel
theorem dX7_matches_24 : decode cX7_matches 24 = .ok (.athrow, 1) := by decide +kernel
theorem dX7_matches_25 : decode cX7_matches 25 = .ok (.aload_n 0, 1) := by decide +kernel
theorem dX7_matches_26 : decode cX7_matches 26 = .ok (.getfield 10, 3) := by decide +kernel
theorem dX7_matches_29 : decode cX7_matches 29 = .ok (.aload_n 0, 1) := by decide +kernel
theorem dX7_matches_30 : decode cX7_matches 30 = .ok (.getfield 19, 3) := by decide +kernel
theorem dX7_matches_33 : decode cX7_matches 33 = .ok (.iload_n 1, 1) := by decide +kernel
theorem dX7_matches_34 : decode cX7_matches 34 = .ok (.invokevirtual 134, 3) := by decide +kernel
theorem dX7_matches_37 : decode cX7_matches 37 = .ok (.invokevirtual 138, 3) := by decide +kernel
theorem dX7_matches_40 : decode cX7_matches 40 = .ok (.ireturn, 1) := by decide +kernel
theorem dX7_addTarget_0 : decode cX7_addTarget 0 = .ok (.iload_n 1, 1) := by decide +kernel
theorem dX7_addTarget_1 : decode cX7_addTarget 1 = .ok (.iconst 1, 1) := by decide +kernel
theorem dX7_addTarget_2 : decode cX7_addTarget 2 = .ok (.if_icmp .lt 10, 3) := by decide +kernel
theorem dX7_addTarget_5 : decode cX7_addTarget 5 = .ok (.iload_n 1, 1) := by decide +kernel
theorem dX7_addTarget_6 : decode cX7_addTarget 6 = .ok (.sipush 1000, 3) := by decide +kernel
theorem dX7_addTarget_9 : decode cX7_addTarget 9 = .ok (.if_icmp .le 13, 3) := by decide +kernel
theorem dX7_addTarget_12 : decode cX7_addTarget 12 = .ok (.new 57, 3) := by decide +kernel
theorem dX7_addTarget_15 : decode cX7_addTarget 15 = .ok (.dup, 1) := by decide +kernel
theorem dX7_addTarget_16 : decode cX7_addTarget 16 = .ok (.ldc 142, 2) := by decide +kernel
theorem dX7_addTarget_18 : decode cX7_addTarget 18 = .ok (.invokespecial 61, 3) := by decide +kernel
theorem dX7_addTarget_21 : decode cX7_addTarget 21 = .ok (.athrow, 1) := by decide +kernel
theorem dX7_addTarget_22 : decode cX7_addTarget 22 = .ok (.aload_n 0, 1) := by decide +kernel
theorem dX7_addTarget_23 : decode cX7_addTarget 23 = .ok (.getfield 26, 3) := by decide +kernel
theorem dX7_addTarget_26 : decode cX7_addTarget 26 = .ok (.invokevirtual 144, 3) := by decide +kernel
theorem dX7_addTarget_29 : decode cX7_addTarget 29 = .ok (.ifCond .eq 13, 3) := by decide +kernel
theorem dX7_addTarget_32 : decode cX7_addTarget 32 = .ok (.new 68, 3) := by decide +kernel
theorem dX7_addTarget_35 : decode cX7_addTarget 35 = .ok (.dup, 1) := by decide +kernel
theorem dX7_addTarget_36 : decode cX7_addTarget 36 = .ok (.ldc 145, 2) := by decide +kernel
theorem dX7_addTarget_38 : decode cX7_addTarget 38 = .ok (.invokespecial 72, 3) := by decide +kernel
theorem dX7_addTarget_41 : decode cX7_addTarget 41 = .ok (.athrow, 1) := by decide +kernel
theorem dX7_addTarget_42 : decode cX7_addTarget 42 = .ok (.aload_n 0, 1) := by decide +kernel
theorem dX7_addTarget_43 : decode cX7_addTarget 43 = .ok (.getfield 26, 3) := by decide +kernel
theorem dX7_addTarget_46 : decode cX7_addTarget 46 = .ok (.iload_n 1, 1) := by decide +kernel
theorem dX7_addTarget_47 : decode cX7_addTarget 47 = .ok (.invokevirtual 147, 3) := by decide +kernel
theorem dX7_addTarget_50 : decode cX7_addTarget 50 = .ok (.ireturn, 1) := by decide +kernel
theorem dX7_addGlob_0 : decode cX7_addGlob 0 = .ok (.aload_n 0, 1) := by decide +kernel
theorem dX7_addGlob_1 : decode cX7_addGlob 1 = .ok (.iload_n 1, 1) := by decide +kernel
theorem dX7_addGlob_2 : decode cX7_addGlob 2 = .ok (.invokevirtual 150, 3) := by decide +kernel
theorem dX7_addGlob_5 : decode cX7_addGlob 5 = .ok (.aload_n 0, 1) := by decide +kernel
theorem dX7_addGlob_6 : decode cX7_addGlob 6 = .ok (.invokevirtual 153, 3) := by decide +kernel
theorem dX7_addGlob_9 : decode cX7_addGlob 9 = .ok (.aload_n 0, 1) := by decide +kernel
theorem dX7_addGlob_10 : decode cX7_addGlob 10 = .ok (.getfield 26, 3) := by decide +kernel
theorem dX7_addGlob_13 : decode cX7_addGlob 13 = .ok (.iload_n 1, 1) := by decide +kernel
theorem dX7_addGlob_14 : decode cX7_addGlob 14 = .ok (.invokevirtual 156, 3) := by decide +kernel
theorem dX7_addGlob_17 : decode cX7_addGlob 17 = .ok (.astore_n 2, 1) := by decide +kernel
theorem dX7_addGlob_18 : decode cX7_addGlob 18 = .ok (.aload_n 2, 1) := by decide +kernel
theorem dX7_addGlob_19 : decode cX7_addGlob 19 = .ok (.invokevirtual 160, 3) := by decide +kernel
theorem dX7_addGlob_22 : decode cX7_addGlob 22 = .ok (.ifCond .eq 13, 3) := by decide +kernel
theorem dX7_addGlob_25 : decode cX7_addGlob 25 = .ok (.new 68, 3) := by decide +kernel
theorem dX7_addGlob_28 : decode cX7_addGlob 28 = .ok (.dup, 1) := by decide +kernel
theorem dX7_addGlob_29 : decode cX7_addGlob 29 = .ok (.ldc 163, 2) := by decide +kernel
theorem dX7_addGlob_31 : decode cX7_addGlob 31 = .ok (.invokespecial 72, 3) := by decide +kernel
theorem dX7_addGlob_34 : decode cX7_addGlob 34 = .ok (.athrow, 1) := by decide +kernel
theorem dX7_addGlob_35 : decode cX7_addGlob 35 = .ok (.aload_n 2, 1) := by decide +kernel
theorem dX7_addGlob_36 : decode cX7_addGlob 36 = .ok (.aload_n 0, 1) := by decide +kernel
theorem dX7_addGlob_37 : decode cX7_addGlob 37 = .ok (.getfield 10, 3) := by decide +kernel
theorem dX7_addGlob_40 : decode cX7_addGlob 40 = .ok (.aload_n 0, 1) := by decide +kernel
theorem dX7_addGlob_41 : decode cX7_addGlob 41 = .ok (.getfield 19, 3) := by decide +kernel
theorem dX7_addGlob_44 : decode cX7_addGlob 44 = .ok (.aload_n 0, 1) := by decide +kernel
theorem dX7_addGlob_45 : decode cX7_addGlob 45 = .ok (.getfield 10, 3) := by decide +kernel
theorem dX7_addGlob_48 : decode cX7_addGlob 48 = .ok (.invokevirtual 165, 3) := by decide +kernel
theorem dX7_addGlob_51 : decode cX7_addGlob 51 = .ok (.invokevirtual 168, 3) := by decide +kernel
theorem dX7_addGlob_54 : decode cX7_addGlob 54 = .ok (.aload_n 2, 1) := by decide +kernel
theorem dX7_addGlob_55 : decode cX7_addGlob 55 = .ok (.invokevirtual 171, 3) := by decide +kernel
theorem dX7_addGlob_58 : decode cX7_addGlob 58 = .ok (.aload_n 0, 1) := by decide +kernel
theorem dX7_addGlob_59 : decode cX7_addGlob 59 = .ok (.getfield 19, 3) := by decide +kernel
theorem dX7_addGlob_62 : decode cX7_addGlob 62 = .ok (.invokevirtual 126, 3) := by decide +kernel
theorem dX7_addGlob_65 : decode cX7_addGlob 65 = .ok (.iand, 1) := by decide +kernel
theorem dX7_addGlob_66 : decode cX7_addGlob 66 = .ok (.invokestatic 174, 3) := by decide +kernel
theorem dX7_addGlob_69 : decode cX7_addGlob 69 = .ok (.ireturn, 1) := by decide +kernel
theorem dX7_depend_0 : decode cX7_depend 0 = .ok (.aload_n 0, 1) := by decide +kernel
theorem dX7_depend_1 : decode cX7_depend 1 = .ok (.iload_n 1, 1) := by decide +kernel
theorem dX7_depend_2 : decode cX7_depend 2 = .ok (.invokevirtual 150, 3) := by decide +kernel
theorem dX7_depend_5 : decode cX7_depend 5 = .ok (.aload_n 0, 1) := by decide +kernel
theorem dX7_depend_6 : decode cX7_depend 6 = .ok (.iload_n 2, 1) := by decide +kernel
theorem dX7_depend_7 : decode cX7_depend 7 = .ok (.invokevirtual 150, 3) := by decide +kernel
theorem dX7_depend_10 : decode cX7_depend 10 = .ok (.aload_n 0, 1) := by decide +kernel
theorem dX7_depend_11 : decode cX7_depend 11 = .ok (.getfield 26, 3) := by decide +kernel
theorem dX7_depend_14 : decode cX7_depend 14 = .ok (.iload_n 1, 1) := by decide +kernel
theorem dX7_depend_15 : decode cX7_depend 15 = .ok (.invokevirtual 179, 3) := by decide +kernel
theorem dX7_depend_18 : decode cX7_depend 18 = .ok (.iload_n 2, 1) := by decide +kernel
theorem dX7_depend_19 : decode cX7_depend 19 = .ok (.invokestatic 182, 3) := by decide +kernel
theorem dX7_depend_22 : decode cX7_depend 22 = .ok (.ifCond .eq 13, 3) := by decide +kernel
theorem dX7_depend_25 : decode cX7_depend 25 = .ok (.new 68, 3) := by decide +kernel
theorem dX7_depend_28 : decode cX7_depend 28 = .ok (.dup, 1) := by decide +kernel
theorem dX7_depend_29 : decode cX7_depend 29 = .ok (.ldc 186, 2) := by decide +kernel
theorem dX7_depend_31 : decode cX7_depend 31 = .ok (.invokespecial 72, 3) := by decide +kernel
theorem dX7_depend_34 : decode cX7_depend 34 = .ok (.athrow, 1) := by decide +kernel
theorem dX7_depend_35 : decode cX7_depend 35 = .ok (.aload_n 0, 1) := by decide +kernel
theorem dX7_depend_36 : decode cX7_depend 36 = .ok (.getfield 26, 3) := by decide +kernel
theorem dX7_depend_39 : decode cX7_depend 39 = .ok (.iconst 1, 1) := by decide +kernel
theorem dX7_depend_40 : decode cX7_depend 40 = .ok (.iload_n 1, 1) := by decide +kernel
theorem dX7_depend_41 : decode cX7_depend 41 = .ok (.ishl, 1) := by decide +kernel
theorem dX7_depend_42 : decode cX7_depend 42 = .ok (.invokevirtual 188, 3) := by decide +kernel
theorem dX7_depend_45 : decode cX7_depend 45 = .ok (.iload_n 2, 1) := by decide +kernel
theorem dX7_depend_46 : decode cX7_depend 46 = .ok (.invokestatic 182, 3) := by decide +kernel
theorem dX7_depend_49 : decode cX7_depend 49 = .ok (.ifCond .eq 13, 3) := by decide +kernel
theorem dX7_depend_52 : decode cX7_depend 52 = .ok (.new 68, 3) := by decide +kernel
theorem dX7_depend_55 : decode cX7_depend 55 = .ok (.dup, 1) := by decide +kernel
theorem dX7_depend_56 : decode cX7_depend 56 = .ok (.ldc 191, 2) := by decide +kernel
theorem dX7_depend_58 : decode cX7_depend 58 = .ok (.invokespecial 72, 3) := by decide +kernel
theorem dX7_depend_61 : decode cX7_depend 61 = .ok (.athrow, 1) := by decide +kernel
theorem dX7_depend_62 : decode cX7_depend 62 = .ok (.aload_n 0, 1) := by decide +kernel
theorem dX7_depend_63 : decode cX7_depend 63 = .ok (.getfield 26, 3) := by decide +kernel
theorem dX7_depend_66 : decode cX7_depend 66 = .ok (.iload_n 1, 1) := by decide +kernel
theorem dX7_depend_67 : decode cX7_depend 67 = .ok (.iload_n 2, 1) := by decide +kernel
theorem dX7_depend_68 : decode cX7_depend 68 = .ok (.invokevirtual 193, 3) := by decide +kernel
theorem dX7_depend_71 : decode cX7_depend 71 = .ok (.aload_n 0, 1) := by decide +kernel
theorem dX7_depend_72 : decode cX7_depend 72 = .ok (.getfield 26, 3) := by decide +kernel
theorem dX7_depend_75 : decode cX7_depend 75 = .ok (.iload_n 1, 1) := by decide +kernel
theorem dX7_depend_76 : decode cX7_depend 76 = .ok (.invokevirtual 179, 3) := by decide +kernel
theorem dX7_depend_79 : decode cX7_depend 79 = .ok (.invokestatic 174, 3) := by decide +kernel
theorem dX7_depend_82 : decode cX7_depend 82 = .ok (.ireturn, 1) := by decide +kernel
theorem dX7_targets_0 : decode cX7_targets 0 = .ok (.aload_n 0, 1) := by decide +kernel
theorem dX7_targets_1 : decode cX7_targets 1 = .ok (.getfield 26, 3) := by decide +kernel
theorem dX7_targets_4 : decode cX7_targets 4 = .ok (.invokevirtual 196, 3) := by decide +kernel
theorem dX7_targets_7 : decode cX7_targets 7 = .ok (.ireturn, 1) := by decide +kernel
theorem dX7_inputs_0 : decode cX7_inputs 0 = .ok (.aload_n 0, 1) := by decide +kernel
theorem dX7_inputs_1 : decode cX7_inputs 1 = .ok (.iload_n 1, 1) := by decide +kernel
theorem dX7_inputs_2 : decode cX7_inputs 2 = .ok (.invokevirtual 150, 3) := by decide +kernel
theorem dX7_inputs_5 : decode cX7_inputs 5 = .ok (.aload_n 0, 1) := by decide +kernel
theorem dX7_inputs_6 : decode cX7_inputs 6 = .ok (.getfield 26, 3) := by decide +kernel
theorem dX7_inputs_9 : decode cX7_inputs 9 = .ok (.iload_n 1, 1) := by decide +kernel
theorem dX7_inputs_10 : decode cX7_inputs 10 = .ok (.invokevirtual 156, 3) := by decide +kernel
theorem dX7_inputs_13 : decode cX7_inputs 13 = .ok (.invokevirtual 171, 3) := by decide +kernel
theorem dX7_inputs_16 : decode cX7_inputs 16 = .ok (.aload_n 0, 1) := by decide +kernel
theorem dX7_inputs_17 : decode cX7_inputs 17 = .ok (.getfield 19, 3) := by decide +kernel
theorem dX7_inputs_20 : decode cX7_inputs 20 = .ok (.invokevirtual 126, 3) := by decide +kernel
theorem dX7_inputs_23 : decode cX7_inputs 23 = .ok (.iand, 1) := by decide +kernel
theorem dX7_inputs_24 : decode cX7_inputs 24 = .ok (.ireturn, 1) := by decide +kernel
theorem dX7_above_0 : decode cX7_above 0 = .ok (.aload_n 0, 1) := by decide +kernel
theorem dX7_above_1 : decode cX7_above 1 = .ok (.iload_n 1, 1) := by decide +kernel
theorem dX7_above_2 : decode cX7_above 2 = .ok (.invokevirtual 150, 3) := by decide +kernel
theorem dX7_above_5 : decode cX7_above 5 = .ok (.iconst 1, 1) := by decide +kernel
theorem dX7_above_6 : decode cX7_above 6 = .ok (.iload_n 1, 1) := by decide +kernel
theorem dX7_above_7 : decode cX7_above 7 = .ok (.ishl, 1) := by decide +kernel
theorem dX7_above_8 : decode cX7_above 8 = .ok (.istore_n 2, 1) := by decide +kernel
theorem dX7_above_9 : decode cX7_above 9 = .ok (.aload_n 0, 1) := by decide +kernel
theorem dX7_above_10 : decode cX7_above 10 = .ok (.getfield 26, 3) := by decide +kernel
theorem dX7_above_13 : decode cX7_above 13 = .ok (.iload_n 2, 1) := by decide +kernel
theorem dX7_above_14 : decode cX7_above 14 = .ok (.invokevirtual 188, 3) := by decide +kernel
theorem dX7_above_17 : decode cX7_above 17 = .ok (.iload_n 2, 1) := by decide +kernel
theorem dX7_above_18 : decode cX7_above 18 = .ok (.iconst (-1), 1) := by decide +kernel
theorem dX7_above_19 : decode cX7_above 19 = .ok (.ixor, 1) := by decide +kernel
theorem dX7_above_20 : decode cX7_above 20 = .ok (.iand, 1) := by decide +kernel
theorem dX7_above_21 : decode cX7_above 21 = .ok (.ireturn, 1) := by decide +kernel
theorem dX7_orderAt_0 : decode cX7_orderAt 0 = .ok (.iload_n 1, 1) := by decide +kernel
theorem dX7_orderAt_1 : decode cX7_orderAt 1 = .ok (.ifCond .lt 14, 3) := by decide +kernel
theorem dX7_orderAt_4 : decode cX7_orderAt 4 = .ok (.iload_n 1, 1) := by decide +kernel
theorem dX7_orderAt_5 : decode cX7_orderAt 5 = .ok (.aload_n 0, 1) := by decide +kernel
theorem dX7_orderAt_6 : decode cX7_orderAt 6 = .ok (.getfield 26, 3) := by decide +kernel
theorem dX7_orderAt_9 : decode cX7_orderAt 9 = .ok (.invokevirtual 196, 3) := by decide +kernel
theorem dX7_orderAt_12 : decode cX7_orderAt 12 = .ok (.if_icmp .lt 13, 3) := by decide +kernel
theorem dX7_orderAt_15 : decode cX7_orderAt 15 = .ok (.new 197, 3) := by decide +kernel
theorem dX7_orderAt_18 : decode cX7_orderAt 18 = .ok (.dup, 1) := by decide +kernel
theorem dX7_orderAt_19 : decode cX7_orderAt 19 = .ok (.ldc 199, 2) := by decide +kernel
theorem dX7_orderAt_21 : decode cX7_orderAt 21 = .ok (.invokespecial 201, 3) := by decide +kernel
theorem dX7_orderAt_24 : decode cX7_orderAt 24 = .ok (.athrow, 1) := by decide +kernel
theorem dX7_orderAt_25 : decode cX7_orderAt 25 = .ok (.aload_n 0, 1) := by decide +kernel
theorem dX7_orderAt_26 : decode cX7_orderAt 26 = .ok (.getfield 26, 3) := by decide +kernel
theorem dX7_orderAt_29 : decode cX7_orderAt 29 = .ok (.invokevirtual 202, 3) := by decide +kernel
theorem dX7_orderAt_32 : decode cX7_orderAt 32 = .ok (.aload_n 0, 1) := by decide +kernel
theorem dX7_orderAt_33 : decode cX7_orderAt 33 = .ok (.getfield 26, 3) := by decide +kernel
theorem dX7_orderAt_36 : decode cX7_orderAt 36 = .ok (.iload_n 1, 1) := by decide +kernel
theorem dX7_orderAt_37 : decode cX7_orderAt 37 = .ok (.invokevirtual 205, 3) := by decide +kernel
theorem dX7_orderAt_40 : decode cX7_orderAt 40 = .ok (.ireturn, 1) := by decide +kernel
theorem dX7_affectedBy_0 : decode cX7_affectedBy 0 = .ok (.aload_n 0, 1) := by decide +kernel
theorem dX7_affectedBy_1 : decode cX7_affectedBy 1 = .ok (.iload_n 1, 1) := by decide +kernel
theorem dX7_affectedBy_2 : decode cX7_affectedBy 2 = .ok (.invokevirtual 129, 3) := by decide +kernel
theorem dX7_affectedBy_5 : decode cX7_affectedBy 5 = .ok (.aload_n 0, 1) := by decide +kernel
theorem dX7_affectedBy_6 : decode cX7_affectedBy 6 = .ok (.getfield 26, 3) := by decide +kernel
theorem dX7_affectedBy_9 : decode cX7_affectedBy 9 = .ok (.aload_n 0, 1) := by decide +kernel
theorem dX7_affectedBy_10 : decode cX7_affectedBy 10 = .ok (.getfield 26, 3) := by decide +kernel
theorem dX7_affectedBy_13 : decode cX7_affectedBy 13 = .ok (.iload_n 1, 1) := by decide +kernel
theorem dX7_affectedBy_14 : decode cX7_affectedBy 14 = .ok (.invokevirtual 208, 3) := by decide +kernel
theorem dX7_affectedBy_17 : decode cX7_affectedBy 17 = .ok (.invokevirtual 188, 3) := by decide +kernel
theorem dX7_affectedBy_20 : decode cX7_affectedBy 20 = .ok (.ireturn, 1) := by decide +kernel
theorem dX7_affectedByGoingDown_0 : decode cX7_affectedByGoingDown 0 = .ok (.aload_n 0, 1) := by decide +kernel
theorem dX7_affectedByGoingDown_1 : decode cX7_affectedByGoingDown 1 = .ok (.iload_n 1, 1) := by decide +kernel
theorem dX7_affectedByGoingDown_2 : decode cX7_affectedByGoingDown 2 = .ok (.invokevirtual 129, 3) := by decide +kernel
theorem dX7_affectedByGoingDown_5 : decode cX7_affectedByGoingDown 5 = .ok (.aload_n 0, 1) := by decide +kernel
theorem dX7_affectedByGoingDown_6 : decode cX7_affectedByGoingDown 6 = .ok (.getfield 26, 3) := by decide +kernel
theorem dX7_affectedByGoingDown_9 : decode cX7_affectedByGoingDown 9 = .ok (.aload_n 0, 1) := by decide +kernel
theorem dX7_affectedByGoingDown_10 : decode cX7_affectedByGoingDown 10 = .ok (.getfield 26, 3) := by decide +kernel
theorem dX7_affectedByGoingDown_13 : decode cX7_affectedByGoingDown 13 = .ok (.iload_n 1, 1) := by decide +kernel
theorem dX7_affectedByGoingDown_14 : decode cX7_affectedByGoingDown 14 = .ok (.invokevirtual 208, 3) := by decide +kernel
theorem dX7_affectedByGoingDown_17 : decode cX7_affectedByGoingDown 17 = .ok (.invokevirtual 211, 3) := by decide +kernel
theorem dX7_affectedByGoingDown_20 : decode cX7_affectedByGoingDown 20 = .ok (.ireturn, 1) := by decide +kernel
theorem dX7_keyOf_0 : decode cX7_keyOf 0 = .ok (.aload_n 0, 1) := by decide +kernel
theorem dX7_keyOf_1 : decode cX7_keyOf 1 = .ok (.iload_n 1, 1) := by decide +kernel
theorem dX7_keyOf_2 : decode cX7_keyOf 2 = .ok (.invokevirtual 150, 3) := by decide +kernel
theorem dX7_keyOf_5 : decode cX7_keyOf 5 = .ok (.aload_n 0, 1) := by decide +kernel
theorem dX7_keyOf_6 : decode cX7_keyOf 6 = .ok (.getfield 35, 3) := by decide +kernel
theorem dX7_keyOf_9 : decode cX7_keyOf 9 = .ok (.invokevirtual 214, 3) := by decide +kernel
theorem dX7_keyOf_12 : decode cX7_keyOf 12 = .ok (.aload_n 0, 1) := by decide +kernel
theorem dX7_keyOf_13 : decode cX7_keyOf 13 = .ok (.getfield 35, 3) := by decide +kernel
theorem dX7_keyOf_16 : decode cX7_keyOf 16 = .ok (.iload_n 1, 1) := by decide +kernel
theorem dX7_keyOf_17 : decode cX7_keyOf 17 = .ok (.invokevirtual 217, 3) := by decide +kernel
theorem dX7_keyOf_20 : decode cX7_keyOf 20 = .ok (.ireturn, 1) := by decide +kernel
theorem dX7_needed_0 : decode cX7_needed 0 = .ok (.aload_n 0, 1) := by decide +kernel
theorem dX7_needed_1 : decode cX7_needed 1 = .ok (.getfield 35, 3) := by decide +kernel
theorem dX7_needed_4 : decode cX7_needed 4 = .ok (.invokevirtual 214, 3) := by decide +kernel
theorem dX7_needed_7 : decode cX7_needed 7 = .ok (.aload_n 0, 1) := by decide +kernel
theorem dX7_needed_8 : decode cX7_needed 8 = .ok (.getfield 35, 3) := by decide +kernel
theorem dX7_needed_11 : decode cX7_needed 11 = .ok (.invokevirtual 220, 3) := by decide +kernel
theorem dX7_needed_14 : decode cX7_needed 14 = .ok (.ireturn, 1) := by decide +kernel
theorem dX7_whyRun_0 : decode cX7_whyRun 0 = .ok (.aload_n 0, 1) := by decide +kernel
theorem dX7_whyRun_1 : decode cX7_whyRun 1 = .ok (.iload_n 1, 1) := by decide +kernel
theorem dX7_whyRun_2 : decode cX7_whyRun 2 = .ok (.invokevirtual 150, 3) := by decide +kernel
theorem dX7_whyRun_5 : decode cX7_whyRun 5 = .ok (.aload_n 0, 1) := by decide +kernel
theorem dX7_whyRun_6 : decode cX7_whyRun 6 = .ok (.getfield 35, 3) := by decide +kernel
theorem dX7_whyRun_9 : decode cX7_whyRun 9 = .ok (.invokevirtual 214, 3) := by decide +kernel
theorem dX7_whyRun_12 : decode cX7_whyRun 12 = .ok (.aload_n 0, 1) := by decide +kernel
theorem dX7_whyRun_13 : decode cX7_whyRun 13 = .ok (.getfield 35, 3) := by decide +kernel
theorem dX7_whyRun_16 : decode cX7_whyRun 16 = .ok (.iload_n 1, 1) := by decide +kernel
theorem dX7_whyRun_17 : decode cX7_whyRun 17 = .ok (.invokevirtual 217, 3) := by decide +kernel
theorem dX7_whyRun_20 : decode cX7_whyRun 20 = .ok (.ifCond .eq 5, 3) := by decide +kernel
theorem dX7_whyRun_23 : decode cX7_whyRun 23 = .ok (.iconst 0, 1) := by decide +kernel
theorem dX7_whyRun_24 : decode cX7_whyRun 24 = .ok (.ireturn, 1) := by decide +kernel
theorem dX7_whyRun_25 : decode cX7_whyRun 25 = .ok (.aload_n 0, 1) := by decide +kernel
theorem dX7_whyRun_26 : decode cX7_whyRun 26 = .ok (.getfield 35, 3) := by decide +kernel
theorem dX7_whyRun_29 : decode cX7_whyRun 29 = .ok (.iload_n 1, 1) := by decide +kernel
theorem dX7_whyRun_30 : decode cX7_whyRun 30 = .ok (.invokevirtual 223, 3) := by decide +kernel
theorem dX7_whyRun_33 : decode cX7_whyRun 33 = .ok (.ifCond .ne 5, 3) := by decide +kernel
theorem dX7_whyRun_36 : decode cX7_whyRun 36 = .ok (.iconst 1, 1) := by decide +kernel
theorem dX7_whyRun_37 : decode cX7_whyRun 37 = .ok (.ireturn, 1) := by decide +kernel
theorem dX7_whyRun_38 : decode cX7_whyRun 38 = .ok (.aload_n 0, 1) := by decide +kernel
theorem dX7_whyRun_39 : decode cX7_whyRun 39 = .ok (.getfield 35, 3) := by decide +kernel
theorem dX7_whyRun_42 : decode cX7_whyRun 42 = .ok (.iload_n 1, 1) := by decide +kernel
theorem dX7_whyRun_43 : decode cX7_whyRun 43 = .ok (.invokevirtual 226, 3) := by decide +kernel
theorem dX7_whyRun_46 : decode cX7_whyRun 46 = .ok (.ifCond .eq 7, 3) := by decide +kernel
theorem dX7_whyRun_49 : decode cX7_whyRun 49 = .ok (.iconst 3, 1) := by decide +kernel
theorem dX7_whyRun_50 : decode cX7_whyRun 50 = .ok (.goto 4, 3) := by decide +kernel
theorem dX7_whyRun_53 : decode cX7_whyRun 53 = .ok (.iconst 2, 1) := by decide +kernel
theorem dX7_whyRun_54 : decode cX7_whyRun 54 = .ok (.ireturn, 1) := by decide +kernel
theorem dX7_run_0 : decode cX7_run 0 = .ok (.aload_n 0, 1) := by decide +kernel
theorem dX7_run_1 : decode cX7_run 1 = .ok (.iload_n 1, 1) := by decide +kernel
theorem dX7_run_2 : decode cX7_run 2 = .ok (.invokevirtual 150, 3) := by decide +kernel
theorem dX7_run_5 : decode cX7_run 5 = .ok (.aload_n 0, 1) := by decide +kernel
theorem dX7_run_6 : decode cX7_run 6 = .ok (.getfield 35, 3) := by decide +kernel
theorem dX7_run_9 : decode cX7_run 9 = .ok (.invokevirtual 214, 3) := by decide +kernel
theorem dX7_run_12 : decode cX7_run 12 = .ok (.aload_n 0, 1) := by decide +kernel
theorem dX7_run_13 : decode cX7_run 13 = .ok (.getfield 26, 3) := by decide +kernel
theorem dX7_run_16 : decode cX7_run 16 = .ok (.iload_n 1, 1) := by decide +kernel
theorem dX7_run_17 : decode cX7_run 17 = .ok (.invokevirtual 179, 3) := by decide +kernel
theorem dX7_run_20 : decode cX7_run 20 = .ok (.aload_n 0, 1) := by decide +kernel
theorem dX7_run_21 : decode cX7_run 21 = .ok (.getfield 35, 3) := by decide +kernel
theorem dX7_run_24 : decode cX7_run 24 = .ok (.invokevirtual 220, 3) := by decide +kernel
theorem dX7_run_27 : decode cX7_run 27 = .ok (.iand, 1) := by decide +kernel
theorem dX7_run_28 : decode cX7_run 28 = .ok (.ifCond .eq 13, 3) := by decide +kernel
theorem dX7_run_31 : decode cX7_run 31 = .ok (.new 68, 3) := by decide +kernel
theorem dX7_run_34 : decode cX7_run 34 = .ok (.dup, 1) := by decide +kernel
theorem dX7_run_35 : decode cX7_run 35 = .ok (.ldc 229, 2) := by decide +kernel
theorem dX7_run_37 : decode cX7_run 37 = .ok (.invokespecial 72, 3) := by decide +kernel
theorem dX7_run_40 : decode cX7_run 40 = .ok (.athrow, 1) := by decide +kernel
theorem dX7_run_41 : decode cX7_run 41 = .ok (.aload_n 0, 1) := by decide +kernel
theorem dX7_run_42 : decode cX7_run 42 = .ok (.getfield 35, 3) := by decide +kernel
theorem dX7_run_45 : decode cX7_run 45 = .ok (.iload_n 1, 1) := by decide +kernel
theorem dX7_run_46 : decode cX7_run 46 = .ok (.invokevirtual 217, 3) := by decide +kernel
theorem dX7_run_49 : decode cX7_run 49 = .ok (.ifCond .ne 26, 3) := by decide +kernel
theorem dX7_run_52 : decode cX7_run 52 = .ok (.aload_n 0, 1) := by decide +kernel
theorem dX7_run_53 : decode cX7_run 53 = .ok (.getfield 35, 3) := by decide +kernel
theorem dX7_run_56 : decode cX7_run 56 = .ok (.invokevirtual 231, 3) := by decide +kernel
theorem dX7_run_59 : decode cX7_run 59 = .ok (.sipush 200, 3) := by decide +kernel
theorem dX7_run_62 : decode cX7_run 62 = .ok (.if_icmp .lt 13, 3) := by decide +kernel
theorem dX7_run_65 : decode cX7_run 65 = .ok (.new 68, 3) := by decide +kernel
theorem dX7_run_68 : decode cX7_run 68 = .ok (.dup, 1) := by decide +kernel
theorem dX7_run_69 : decode cX7_run 69 = .ok (.ldc 234, 2) := by decide +kernel
theorem dX7_run_71 : decode cX7_run 71 = .ok (.invokespecial 72, 3) := by decide +kernel
theorem dX7_run_74 : decode cX7_run 74 = .ok (.athrow, 1) := by decide +kernel
theorem dX7_run_75 : decode cX7_run 75 = .ok (.aload_n 0, 1) := by decide +kernel
theorem dX7_run_76 : decode cX7_run 76 = .ok (.getfield 35, 3) := by decide +kernel
theorem dX7_run_79 : decode cX7_run 79 = .ok (.iload_n 1, 1) := by decide +kernel
theorem dX7_run_80 : decode cX7_run 80 = .ok (.invokevirtual 236, 3) := by decide +kernel
theorem dX7_run_83 : decode cX7_run 83 = .ok (.ireturn, 1) := by decide +kernel
theorem dX7_runAll_0 : decode cX7_runAll 0 = .ok (.aload_n 0, 1) := by decide +kernel
theorem dX7_runAll_1 : decode cX7_runAll 1 = .ok (.getfield 35, 3) := by decide +kernel
theorem dX7_runAll_4 : decode cX7_runAll 4 = .ok (.invokevirtual 214, 3) := by decide +kernel
theorem dX7_runAll_7 : decode cX7_runAll 7 = .ok (.aload_n 0, 1) := by decide +kernel
theorem dX7_runAll_8 : decode cX7_runAll 8 = .ok (.getfield 35, 3) := by decide +kernel
theorem dX7_runAll_11 : decode cX7_runAll 11 = .ok (.invokevirtual 220, 3) := by decide +kernel
theorem dX7_runAll_14 : decode cX7_runAll 14 = .ok (.invokestatic 174, 3) := by decide +kernel
theorem dX7_runAll_17 : decode cX7_runAll 17 = .ok (.istore_n 1, 1) := by decide +kernel
theorem dX7_runAll_18 : decode cX7_runAll 18 = .ok (.aload_n 0, 1) := by decide +kernel
theorem dX7_runAll_19 : decode cX7_runAll 19 = .ok (.getfield 35, 3) := by decide +kernel
theorem dX7_runAll_22 : decode cX7_runAll 22 = .ok (.invokevirtual 231, 3) := by decide +kernel
theorem dX7_runAll_25 : decode cX7_runAll 25 = .ok (.iload_n 1, 1) := by decide +kernel
theorem dX7_runAll_26 : decode cX7_runAll 26 = .ok (.iadd, 1) := by decide +kernel
theorem dX7_runAll_27 : decode cX7_runAll 27 = .ok (.sipush 200, 3) := by decide +kernel
theorem dX7_runAll_30 : decode cX7_runAll 30 = .ok (.if_icmp .le 13, 3) := by decide +kernel
theorem dX7_runAll_33 : decode cX7_runAll 33 = .ok (.new 68, 3) := by decide +kernel
theorem dX7_runAll_36 : decode cX7_runAll 36 = .ok (.dup, 1) := by decide +kernel
theorem dX7_runAll_37 : decode cX7_runAll 37 = .ok (.ldc 239, 2) := by decide +kernel
theorem dX7_runAll_39 : decode cX7_runAll 39 = .ok (.invokespecial 72, 3) := by decide +kernel
theorem dX7_runAll_42 : decode cX7_runAll 42 = .ok (.athrow, 1) := by decide +kernel
theorem dX7_runAll_43 : decode cX7_runAll 43 = .ok (.aload_n 0, 1) := by decide +kernel
theorem dX7_runAll_44 : decode cX7_runAll 44 = .ok (.getfield 35, 3) := by decide +kernel
theorem dX7_runAll_47 : decode cX7_runAll 47 = .ok (.invokevirtual 241, 3) := by decide +kernel
theorem dX7_runAll_50 : decode cX7_runAll 50 = .ok (.iload_n 1, 1) := by decide +kernel
theorem dX7_runAll_51 : decode cX7_runAll 51 = .ok (.ireturn, 1) := by decide +kernel
theorem dX7_keys_0 : decode cX7_keys 0 = .ok (.aload_n 0, 1) := by decide +kernel
theorem dX7_keys_1 : decode cX7_keys 1 = .ok (.getfield 35, 3) := by decide +kernel
theorem dX7_keys_4 : decode cX7_keys 4 = .ok (.invokevirtual 231, 3) := by decide +kernel
theorem dX7_keys_7 : decode cX7_keys 7 = .ok (.ireturn, 1) := by decide +kernel
theorem dX7_shardOf_0 : decode cX7_shardOf 0 = .ok (.aload_n 0, 1) := by decide +kernel
theorem dX7_shardOf_1 : decode cX7_shardOf 1 = .ok (.iload_n 1, 1) := by decide +kernel
theorem dX7_shardOf_2 : decode cX7_shardOf 2 = .ok (.invokevirtual 150, 3) := by decide +kernel
theorem dX7_shardOf_5 : decode cX7_shardOf 5 = .ok (.aload_n 0, 1) := by decide +kernel
theorem dX7_shardOf_6 : decode cX7_shardOf 6 = .ok (.iload_n 2, 1) := by decide +kernel
theorem dX7_shardOf_7 : decode cX7_shardOf 7 = .ok (.invokevirtual 244, 3) := by decide +kernel
theorem dX7_shardOf_10 : decode cX7_shardOf 10 = .ok (.aload_n 0, 1) := by decide +kernel
theorem dX7_shardOf_11 : decode cX7_shardOf 11 = .ok (.getfield 35, 3) := by decide +kernel
theorem dX7_shardOf_14 : decode cX7_shardOf 14 = .ok (.invokevirtual 214, 3) := by decide +kernel
theorem dX7_shardOf_17 : decode cX7_shardOf 17 = .ok (.aload_n 0, 1) := by decide +kernel
theorem dX7_shardOf_18 : decode cX7_shardOf 18 = .ok (.getfield 42, 3) := by decide +kernel
theorem dX7_shardOf_21 : decode cX7_shardOf 21 = .ok (.aload_n 0, 1) := by decide +kernel
theorem dX7_shardOf_22 : decode cX7_shardOf 22 = .ok (.getfield 26, 3) := by decide +kernel
theorem dX7_shardOf_25 : decode cX7_shardOf 25 = .ok (.aload_n 0, 1) := by decide +kernel
theorem dX7_shardOf_26 : decode cX7_shardOf 26 = .ok (.getfield 35, 3) := by decide +kernel
theorem dX7_shardOf_29 : decode cX7_shardOf 29 = .ok (.invokevirtual 220, 3) := by decide +kernel
theorem dX7_shardOf_32 : decode cX7_shardOf 32 = .ok (.iload_n 2, 1) := by decide +kernel
theorem dX7_shardOf_33 : decode cX7_shardOf 33 = .ok (.invokevirtual 247, 3) := by decide +kernel
theorem dX7_shardOf_36 : decode cX7_shardOf 36 = .ok (.aload_n 0, 1) := by decide +kernel
theorem dX7_shardOf_37 : decode cX7_shardOf 37 = .ok (.getfield 42, 3) := by decide +kernel
theorem dX7_shardOf_40 : decode cX7_shardOf 40 = .ok (.iload_n 1, 1) := by decide +kernel
theorem dX7_shardOf_41 : decode cX7_shardOf 41 = .ok (.invokevirtual 251, 3) := by decide +kernel
theorem dX7_shardOf_44 : decode cX7_shardOf 44 = .ok (.ireturn, 1) := by decide +kernel
theorem dX7_longestShard_0 : decode cX7_longestShard 0 = .ok (.aload_n 0, 1) := by decide +kernel
theorem dX7_longestShard_1 : decode cX7_longestShard 1 = .ok (.iload_n 1, 1) := by decide +kernel
theorem dX7_longestShard_2 : decode cX7_longestShard 2 = .ok (.invokevirtual 244, 3) := by decide +kernel
theorem dX7_longestShard_5 : decode cX7_longestShard 5 = .ok (.aload_n 0, 1) := by decide +kernel
theorem dX7_longestShard_6 : decode cX7_longestShard 6 = .ok (.getfield 35, 3) := by decide +kernel
theorem dX7_longestShard_9 : decode cX7_longestShard 9 = .ok (.invokevirtual 214, 3) := by decide +kernel
theorem dX7_longestShard_12 : decode cX7_longestShard 12 = .ok (.aload_n 0, 1) := by decide +kernel
theorem dX7_longestShard_13 : decode cX7_longestShard 13 = .ok (.getfield 42, 3) := by decide +kernel
theorem dX7_longestShard_16 : decode cX7_longestShard 16 = .ok (.aload_n 0, 1) := by decide +kernel
theorem dX7_longestShard_17 : decode cX7_longestShard 17 = .ok (.getfield 26, 3) := by decide +kernel
theorem dX7_longestShard_20 : decode cX7_longestShard 20 = .ok (.aload_n 0, 1) := by decide +kernel
theorem dX7_longestShard_21 : decode cX7_longestShard 21 = .ok (.getfield 35, 3) := by decide +kernel
theorem dX7_longestShard_24 : decode cX7_longestShard 24 = .ok (.invokevirtual 220, 3) := by decide +kernel
theorem dX7_longestShard_27 : decode cX7_longestShard 27 = .ok (.iload_n 1, 1) := by decide +kernel
theorem dX7_longestShard_28 : decode cX7_longestShard 28 = .ok (.invokevirtual 247, 3) := by decide +kernel
theorem dX7_longestShard_31 : decode cX7_longestShard 31 = .ok (.aload_n 0, 1) := by decide +kernel
theorem dX7_longestShard_32 : decode cX7_longestShard 32 = .ok (.getfield 42, 3) := by decide +kernel
theorem dX7_longestShard_35 : decode cX7_longestShard 35 = .ok (.invokevirtual 254, 3) := by decide +kernel
theorem dX7_longestShard_38 : decode cX7_longestShard 38 = .ok (.ireturn, 1) := by decide +kernel
theorem dX7_shardsFor_0 : decode cX7_shardsFor 0 = .ok (.iload_n 1, 1) := by decide +kernel
theorem dX7_shardsFor_1 : decode cX7_shardsFor 1 = .ok (.iconst 1, 1) := by decide +kernel
theorem dX7_shardsFor_2 : decode cX7_shardsFor 2 = .ok (.if_icmp .lt 10, 3) := by decide +kernel
theorem dX7_shardsFor_5 : decode cX7_shardsFor 5 = .ok (.iload_n 1, 1) := by decide +kernel
theorem dX7_shardsFor_6 : decode cX7_shardsFor 6 = .ok (.sipush 16000, 3) := by decide +kernel
theorem dX7_shardsFor_9 : decode cX7_shardsFor 9 = .ok (.if_icmp .le 14, 3) := by decide +kernel
theorem dX7_shardsFor_12 : decode cX7_shardsFor 12 = .ok (.new 57, 3) := by decide +kernel
theorem dX7_shardsFor_15 : decode cX7_shardsFor 15 = .ok (.dup, 1) := by decide +kernel
theorem dX7_shardsFor_16 : decode cX7_shardsFor 16 = .ok (.ldc_w 257, 3) := by decide +kernel
theorem dX7_shardsFor_19 : decode cX7_shardsFor 19 = .ok (.invokespecial 61, 3) := by decide +kernel
theorem dX7_shardsFor_22 : decode cX7_shardsFor 22 = .ok (.athrow, 1) := by decide +kernel
theorem dX7_shardsFor_23 : decode cX7_shardsFor 23 = .ok (.aload_n 0, 1) := by decide +kernel
theorem dX7_shardsFor_24 : decode cX7_shardsFor 24 = .ok (.getfield 35, 3) := by decide +kernel
theorem dX7_shardsFor_27 : decode cX7_shardsFor 27 = .ok (.invokevirtual 214, 3) := by decide +kernel
theorem dX7_shardsFor_30 : decode cX7_shardsFor 30 = .ok (.iconst 1, 1) := by decide +kernel
theorem dX7_shardsFor_31 : decode cX7_shardsFor 31 = .ok (.istore_n 2, 1) := by decide +kernel
theorem dX7_shardsFor_32 : decode cX7_shardsFor 32 = .ok (.iload_n 2, 1) := by decide +kernel
theorem dX7_shardsFor_33 : decode cX7_shardsFor 33 = .ok (.bipush 8, 2) := by decide +kernel
theorem dX7_shardsFor_35 : decode cX7_shardsFor 35 = .ok (.if_icmp .gt 41, 3) := by decide +kernel
theorem dX7_shardsFor_38 : decode cX7_shardsFor 38 = .ok (.aload_n 0, 1) := by decide +kernel
theorem dX7_shardsFor_39 : decode cX7_shardsFor 39 = .ok (.getfield 42, 3) := by decide +kernel
theorem dX7_shardsFor_42 : decode cX7_shardsFor 42 = .ok (.aload_n 0, 1) := by decide +kernel
theorem dX7_shardsFor_43 : decode cX7_shardsFor 43 = .ok (.getfield 26, 3) := by decide +kernel
theorem dX7_shardsFor_46 : decode cX7_shardsFor 46 = .ok (.aload_n 0, 1) := by decide +kernel
theorem dX7_shardsFor_47 : decode cX7_shardsFor 47 = .ok (.getfield 35, 3) := by decide +kernel
theorem dX7_shardsFor_50 : decode cX7_shardsFor 50 = .ok (.invokevirtual 220, 3) := by decide +kernel
theorem dX7_shardsFor_53 : decode cX7_shardsFor 53 = .ok (.iload_n 2, 1) := by decide +kernel
theorem dX7_shardsFor_54 : decode cX7_shardsFor 54 = .ok (.invokevirtual 247, 3) := by decide +kernel
theorem dX7_shardsFor_57 : decode cX7_shardsFor 57 = .ok (.aload_n 0, 1) := by decide +kernel
theorem dX7_shardsFor_58 : decode cX7_shardsFor 58 = .ok (.getfield 42, 3) := by decide +kernel
theorem dX7_shardsFor_61 : decode cX7_shardsFor 61 = .ok (.invokevirtual 254, 3) := by decide +kernel
theorem dX7_shardsFor_64 : decode cX7_shardsFor 64 = .ok (.iload_n 1, 1) := by decide +kernel
theorem dX7_shardsFor_65 : decode cX7_shardsFor 65 = .ok (.if_icmp .gt 5, 3) := by decide +kernel
theorem dX7_shardsFor_68 : decode cX7_shardsFor 68 = .ok (.iload_n 2, 1) := by decide +kernel
theorem dX7_shardsFor_69 : decode cX7_shardsFor 69 = .ok (.ireturn, 1) := by decide +kernel
theorem dX7_shardsFor_70 : decode cX7_shardsFor 70 = .ok (.iinc 2 1, 3) := by decide +kernel
theorem dX7_shardsFor_73 : decode cX7_shardsFor 73 = .ok (.goto (-41), 3) := by decide +kernel
theorem dX7_shardsFor_76 : decode cX7_shardsFor 76 = .ok (.iconst (-1), 1) := by decide +kernel
theorem dX7_shardsFor_77 : decode cX7_shardsFor 77 = .ok (.ireturn, 1) := by decide +kernel
theorem dX7_addRule_0 : decode cX7_addRule 0 = .ok (.iload_n 1, 1) := by decide +kernel
theorem dX7_addRule_1 : decode cX7_addRule 1 = .ok (.ifCond .lt 9, 3) := by decide +kernel
theorem dX7_addRule_4 : decode cX7_addRule 4 = .ok (.iload_n 1, 1) := by decide +kernel
theorem dX7_addRule_5 : decode cX7_addRule 5 = .ok (.bipush 7, 2) := by decide +kernel
theorem dX7_addRule_7 : decode cX7_addRule 7 = .ok (.if_icmp .le 14, 3) := by decide +kernel
theorem dX7_addRule_10 : decode cX7_addRule 10 = .ok (.new 197, 3) := by decide +kernel
theorem dX7_addRule_13 : decode cX7_addRule 13 = .ok (.dup, 1) := by decide +kernel
theorem dX7_addRule_14 : decode cX7_addRule 14 = .ok (.ldc_w 259, 3) := by decide +kernel
theorem dX7_addRule_17 : decode cX7_addRule 17 = .ok (.invokespecial 201, 3) := by decide +kernel
theorem dX7_addRule_20 : decode cX7_addRule 20 = .ok (.athrow, 1) := by decide +kernel
theorem dX7_addRule_21 : decode cX7_addRule 21 = .ok (.aload_n 0, 1) := by decide +kernel
theorem dX7_addRule_22 : decode cX7_addRule 22 = .ok (.invokevirtual 153, 3) := by decide +kernel
theorem dX7_addRule_25 : decode cX7_addRule 25 = .ok (.aload_n 0, 1) := by decide +kernel
theorem dX7_addRule_26 : decode cX7_addRule 26 = .ok (.getfield 49, 3) := by decide +kernel
theorem dX7_addRule_29 : decode cX7_addRule 29 = .ok (.invokevirtual 261, 3) := by decide +kernel
theorem dX7_addRule_32 : decode cX7_addRule 32 = .ok (.ifCond .eq 14, 3) := by decide +kernel
theorem dX7_addRule_35 : decode cX7_addRule 35 = .ok (.new 68, 3) := by decide +kernel
theorem dX7_addRule_38 : decode cX7_addRule 38 = .ok (.dup, 1) := by decide +kernel
theorem dX7_addRule_39 : decode cX7_addRule 39 = .ok (.ldc_w 262, 3) := by decide +kernel
theorem dX7_addRule_42 : decode cX7_addRule 42 = .ok (.invokespecial 72, 3) := by decide +kernel
theorem dX7_addRule_45 : decode cX7_addRule 45 = .ok (.athrow, 1) := by decide +kernel
theorem dX7_addRule_46 : decode cX7_addRule 46 = .ok (.aload_n 0, 1) := by decide +kernel
theorem dX7_addRule_47 : decode cX7_addRule 47 = .ok (.getfield 49, 3) := by decide +kernel
theorem dX7_addRule_50 : decode cX7_addRule 50 = .ok (.aload_n 0, 1) := by decide +kernel
theorem dX7_addRule_51 : decode cX7_addRule 51 = .ok (.getfield 10, 3) := by decide +kernel
theorem dX7_addRule_54 : decode cX7_addRule 54 = .ok (.aload_n 0, 1) := by decide +kernel
theorem dX7_addRule_55 : decode cX7_addRule 55 = .ok (.getfield 19, 3) := by decide +kernel
theorem dX7_addRule_58 : decode cX7_addRule 58 = .ok (.aload_n 0, 1) := by decide +kernel
theorem dX7_addRule_59 : decode cX7_addRule 59 = .ok (.getfield 10, 3) := by decide +kernel
theorem dX7_addRule_62 : decode cX7_addRule 62 = .ok (.invokevirtual 165, 3) := by decide +kernel
theorem dX7_addRule_65 : decode cX7_addRule 65 = .ok (.iload_n 1, 1) := by decide +kernel
theorem dX7_addRule_66 : decode cX7_addRule 66 = .ok (.invokevirtual 264, 3) := by decide +kernel
theorem dX7_addRule_69 : decode cX7_addRule 69 = .ok (.aload_n 0, 1) := by decide +kernel
theorem dX7_addRule_70 : decode cX7_addRule 70 = .ok (.getfield 49, 3) := by decide +kernel
theorem dX7_addRule_73 : decode cX7_addRule 73 = .ok (.invokevirtual 267, 3) := by decide +kernel
theorem dX7_addRule_76 : decode cX7_addRule 76 = .ok (.ireturn, 1) := by decide +kernel
theorem dX7_ownerOf_0 : decode cX7_ownerOf 0 = .ok (.aload_n 0, 1) := by decide +kernel
theorem dX7_ownerOf_1 : decode cX7_ownerOf 1 = .ok (.iload_n 1, 1) := by decide +kernel
theorem dX7_ownerOf_2 : decode cX7_ownerOf 2 = .ok (.invokevirtual 129, 3) := by decide +kernel
theorem dX7_ownerOf_5 : decode cX7_ownerOf 5 = .ok (.aload_n 0, 1) := by decide +kernel
theorem dX7_ownerOf_6 : decode cX7_ownerOf 6 = .ok (.getfield 49, 3) := by decide +kernel
theorem dX7_ownerOf_9 : decode cX7_ownerOf 9 = .ok (.iload_n 1, 1) := by decide +kernel
theorem dX7_ownerOf_10 : decode cX7_ownerOf 10 = .ok (.invokevirtual 268, 3) := by decide +kernel
theorem dX7_ownerOf_13 : decode cX7_ownerOf 13 = .ok (.ireturn, 1) := by decide +kernel
theorem dX7_mark_0 : decode cX7_mark 0 = .ok (.aload_n 0, 1) := by decide +kernel
theorem dX7_mark_1 : decode cX7_mark 1 = .ok (.getfield 19, 3) := by decide +kernel
theorem dX7_mark_4 : decode cX7_mark 4 = .ok (.invokevirtual 271, 3) := by decide +kernel
theorem dX7_mark_7 : decode cX7_mark 7 = .ok (.aload_n 0, 1) := by decide +kernel
theorem dX7_mark_8 : decode cX7_mark 8 = .ok (.getfield 19, 3) := by decide +kernel
theorem dX7_mark_11 : decode cX7_mark 11 = .ok (.invokevirtual 126, 3) := by decide +kernel
theorem dX7_mark_14 : decode cX7_mark 14 = .ok (.invokestatic 174, 3) := by decide +kernel
theorem dX7_mark_17 : decode cX7_mark 17 = .ok (.ireturn, 1) := by decide +kernel
theorem dX7_changed_0 : decode cX7_changed 0 = .ok (.aload_n 0, 1) := by decide +kernel
theorem dX7_changed_1 : decode cX7_changed 1 = .ok (.getfield 19, 3) := by decide +kernel
theorem dX7_changed_4 : decode cX7_changed 4 = .ok (.invokevirtual 274, 3) := by decide +kernel
theorem dX7_changed_7 : decode cX7_changed 7 = .ok (.ireturn, 1) := by decide +kernel
theorem dX7_reviewers_0 : decode cX7_reviewers 0 = .ok (.aload_n 0, 1) := by decide +kernel
theorem dX7_reviewers_1 : decode cX7_reviewers 1 = .ok (.getfield 49, 3) := by decide +kernel
theorem dX7_reviewers_4 : decode cX7_reviewers 4 = .ok (.aload_n 0, 1) := by decide +kernel
theorem dX7_reviewers_5 : decode cX7_reviewers 5 = .ok (.getfield 19, 3) := by decide +kernel
theorem dX7_reviewers_8 : decode cX7_reviewers 8 = .ok (.invokevirtual 274, 3) := by decide +kernel
theorem dX7_reviewers_11 : decode cX7_reviewers 11 = .ok (.invokevirtual 277, 3) := by decide +kernel
theorem dX7_reviewers_14 : decode cX7_reviewers 14 = .ok (.ireturn, 1) := by decide +kernel
theorem dX7_requireContent_0 : decode cX7_requireContent 0 = .ok (.iload_n 1, 1) := by decide +kernel
theorem dX7_requireContent_1 : decode cX7_requireContent 1 = .ok (.ifCond .lt 10, 3) := by decide +kernel
theorem dX7_requireContent_4 : decode cX7_requireContent 4 = .ok (.iload_n 1, 1) := by decide +kernel
theorem dX7_requireContent_5 : decode cX7_requireContent 5 = .ok (.sipush 9999, 3) := by decide +kernel
theorem dX7_requireContent_8 : decode cX7_requireContent 8 = .ok (.if_icmp .le 14, 3) := by decide +kernel
theorem dX7_requireContent_11 : decode cX7_requireContent 11 = .ok (.new 57, 3) := by decide +kernel
theorem dX7_requireContent_14 : decode cX7_requireContent 14 = .ok (.dup, 1) := by decide +kernel
theorem dX7_requireContent_15 : decode cX7_requireContent 15 = .ok (.ldc_w 280, 3) := by decide +kernel
theorem dX7_requireContent_18 : decode cX7_requireContent 18 = .ok (.invokespecial 61, 3) := by decide +kernel
theorem dX7_requireContent_21 : decode cX7_requireContent 21 = .ok (.athrow, 1) := by decide +kernel
theorem dX7_requireContent_22 : decode cX7_requireContent 22 = .ok (.return_, 1) := by decide +kernel
theorem dX7_requireFile_0 : decode cX7_requireFile 0 = .ok (.aload_n 0, 1) := by decide +kernel
theorem dX7_requireFile_1 : decode cX7_requireFile 1 = .ok (.getfield 19, 3) := by decide +kernel
theorem dX7_requireFile_4 : decode cX7_requireFile 4 = .ok (.iload_n 1, 1) := by decide +kernel
theorem dX7_requireFile_5 : decode cX7_requireFile 5 = .ok (.invokevirtual 282, 3) := by decide +kernel
theorem dX7_requireFile_8 : decode cX7_requireFile 8 = .ok (.ifCond .ne 14, 3) := by decide +kernel
theorem dX7_requireFile_11 : decode cX7_requireFile 11 = .ok (.new 197, 3) := by decide +kernel
theorem dX7_requireFile_14 : decode cX7_requireFile 14 = .ok (.dup, 1) := by decide +kernel
theorem dX7_requireFile_15 : decode cX7_requireFile 15 = .ok (.ldc_w 285, 3) := by decide +kernel
theorem dX7_requireFile_18 : decode cX7_requireFile 18 = .ok (.invokespecial 201, 3) := by decide +kernel
theorem dX7_requireFile_21 : decode cX7_requireFile 21 = .ok (.athrow, 1) := by decide +kernel
theorem dX7_requireFile_22 : decode cX7_requireFile 22 = .ok (.return_, 1) := by decide +kernel
theorem dX7_requireFileThere_0 : decode cX7_requireFileThere 0 = .ok (.aload_n 0, 1) := by decide +kernel
theorem dX7_requireFileThere_1 : decode cX7_requireFileThere 1 = .ok (.getfield 19, 3) := by decide +kernel
theorem dX7_requireFileThere_4 : decode cX7_requireFileThere 4 = .ok (.iload_n 1, 1) := by decide +kernel
theorem dX7_requireFileThere_5 : decode cX7_requireFileThere 5 = .ok (.invokevirtual 100, 3) := by decide +kernel
theorem dX7_requireFileThere_8 : decode cX7_requireFileThere 8 = .ok (.ifCond .ne 14, 3) := by decide +kernel
theorem dX7_requireFileThere_11 : decode cX7_requireFileThere 11 = .ok (.new 197, 3) := by decide +kernel
theorem dX7_requireFileThere_14 : decode cX7_requireFileThere 14 = .ok (.dup, 1) := by decide +kernel
theorem dX7_requireFileThere_15 : decode cX7_requireFileThere 15 = .ok (.ldc_w 287, 3) := by decide +kernel
theorem dX7_requireFileThere_18 : decode cX7_requireFileThere 18 = .ok (.invokespecial 201, 3) := by decide +kernel
theorem dX7_requireFileThere_21 : decode cX7_requireFileThere 21 = .ok (.athrow, 1) := by decide +kernel
theorem dX7_requireFileThere_22 : decode cX7_requireFileThere 22 = .ok (.return_, 1) := by decide +kernel
theorem dX7_requireTarget_0 : decode cX7_requireTarget 0 = .ok (.aload_n 0, 1) := by decide +kernel
theorem dX7_requireTarget_1 : decode cX7_requireTarget 1 = .ok (.getfield 26, 3) := by decide +kernel
theorem dX7_requireTarget_4 : decode cX7_requireTarget 4 = .ok (.iload_n 1, 1) := by decide +kernel
theorem dX7_requireTarget_5 : decode cX7_requireTarget 5 = .ok (.invokevirtual 289, 3) := by decide +kernel
theorem dX7_requireTarget_8 : decode cX7_requireTarget 8 = .ok (.ifCond .ne 14, 3) := by decide +kernel
theorem dX7_requireTarget_11 : decode cX7_requireTarget 11 = .ok (.new 197, 3) := by decide +kernel
theorem dX7_requireTarget_14 : decode cX7_requireTarget 14 = .ok (.dup, 1) := by decide +kernel
theorem dX7_requireTarget_15 : decode cX7_requireTarget 15 = .ok (.ldc_w 290, 3) := by decide +kernel
theorem dX7_requireTarget_18 : decode cX7_requireTarget 18 = .ok (.invokespecial 201, 3) := by decide +kernel
theorem dX7_requireTarget_21 : decode cX7_requireTarget 21 = .ok (.athrow, 1) := by decide +kernel
theorem dX7_requireTarget_22 : decode cX7_requireTarget 22 = .ok (.return_, 1) := by decide +kernel
theorem dX7_requireGlob_0 : decode cX7_requireGlob 0 = .ok (.aload_n 0, 1) := by decide +kernel
theorem dX7_requireGlob_1 : decode cX7_requireGlob 1 = .ok (.getfield 10, 3) := by decide +kernel
theorem dX7_requireGlob_4 : decode cX7_requireGlob 4 = .ok (.invokevirtual 87, 3) := by decide +kernel
theorem dX7_requireGlob_7 : decode cX7_requireGlob 7 = .ok (.ifCond .ne 13, 3) := by decide +kernel
theorem dX7_requireGlob_10 : decode cX7_requireGlob 10 = .ok (.new 57, 3) := by decide +kernel
theorem dX7_requireGlob_13 : decode cX7_requireGlob 13 = .ok (.dup, 1) := by decide +kernel
theorem dX7_requireGlob_14 : decode cX7_requireGlob 14 = .ok (.ldc 132, 2) := by decide +kernel
theorem dX7_requireGlob_16 : decode cX7_requireGlob 16 = .ok (.invokespecial 61, 3) := by decide +kernel
theorem dX7_requireGlob_19 : decode cX7_requireGlob 19 = .ok (.athrow, 1) := by decide +kernel
theorem dX7_requireGlob_20 : decode cX7_requireGlob 20 = .ok (.return_, 1) := by decide +kernel
theorem dX7_requireShards_0 : decode cX7_requireShards 0 = .ok (.iload_n 1, 1) := by decide +kernel
theorem dX7_requireShards_1 : decode cX7_requireShards 1 = .ok (.iconst 1, 1) := by decide +kernel
theorem dX7_requireShards_2 : decode cX7_requireShards 2 = .ok (.if_icmp .lt 9, 3) := by decide +kernel
theorem dX7_requireShards_5 : decode cX7_requireShards 5 = .ok (.iload_n 1, 1) := by decide +kernel
theorem dX7_requireShards_6 : decode cX7_requireShards 6 = .ok (.bipush 8, 2) := by decide +kernel
theorem dX7_requireShards_8 : decode cX7_requireShards 8 = .ok (.if_icmp .le 14, 3) := by decide +kernel
theorem dX7_requireShards_11 : decode cX7_requireShards 11 = .ok (.new 57, 3) := by decide +kernel
theorem dX7_requireShards_14 : decode cX7_requireShards 14 = .ok (.dup, 1) := by decide +kernel
theorem dX7_requireShards_15 : decode cX7_requireShards 15 = .ok (.ldc_w 292, 3) := by decide +kernel
theorem dX7_requireShards_18 : decode cX7_requireShards 18 = .ok (.invokespecial 61, 3) := by decide +kernel
theorem dX7_requireShards_21 : decode cX7_requireShards 21 = .ok (.athrow, 1) := by decide +kernel
theorem dX7_requireShards_22 : decode cX7_requireShards 22 = .ok (.return_, 1) := by decide +kernel
theorem dX7_numberNewPath_0 : decode cX7_numberNewPath 0 = .ok (.aload_n 0, 1) := by decide +kernel
theorem dX7_numberNewPath_1 : decode cX7_numberNewPath 1 = .ok (.getfield 19, 3) := by decide +kernel
theorem dX7_numberNewPath_4 : decode cX7_numberNewPath 4 = .ok (.aload_n 0, 1) := by decide +kernel
theorem dX7_numberNewPath_5 : decode cX7_numberNewPath 5 = .ok (.getfield 10, 3) := by decide +kernel
theorem dX7_numberNewPath_8 : decode cX7_numberNewPath 8 = .ok (.invokevirtual 294, 3) := by decide +kernel
theorem dX7_numberNewPath_11 : decode cX7_numberNewPath 11 = .ok (.istore_n 1, 1) := by decide +kernel
theorem dX7_numberNewPath_12 : decode cX7_numberNewPath 12 = .ok (.aload_n 0, 1) := by decide +kernel
theorem dX7_numberNewPath_13 : decode cX7_numberNewPath 13 = .ok (.getfield 26, 3) := by decide +kernel
theorem dX7_numberNewPath_16 : decode cX7_numberNewPath 16 = .ok (.iload_n 1, 1) := by decide +kernel
theorem dX7_numberNewPath_17 : decode cX7_numberNewPath 17 = .ok (.aload_n 0, 1) := by decide +kernel
theorem dX7_numberNewPath_18 : decode cX7_numberNewPath 18 = .ok (.getfield 10, 3) := by decide +kernel
theorem dX7_numberNewPath_21 : decode cX7_numberNewPath 21 = .ok (.invokevirtual 297, 3) := by decide +kernel
theorem dX7_numberNewPath_24 : decode cX7_numberNewPath 24 = .ok (.aload_n 0, 1) := by decide +kernel
theorem dX7_numberNewPath_25 : decode cX7_numberNewPath 25 = .ok (.getfield 49, 3) := by decide +kernel
theorem dX7_numberNewPath_28 : decode cX7_numberNewPath 28 = .ok (.iload_n 1, 1) := by decide +kernel
theorem dX7_numberNewPath_29 : decode cX7_numberNewPath 29 = .ok (.aload_n 0, 1) := by decide +kernel
theorem dX7_numberNewPath_30 : decode cX7_numberNewPath 30 = .ok (.getfield 10, 3) := by decide +kernel
theorem dX7_numberNewPath_33 : decode cX7_numberNewPath 33 = .ok (.invokevirtual 301, 3) := by decide +kernel
theorem dX7_numberNewPath_36 : decode cX7_numberNewPath 36 = .ok (.iload_n 1, 1) := by decide +kernel
theorem dX7_numberNewPath_37 : decode cX7_numberNewPath 37 = .ok (.ireturn, 1) := by decide +kernel
theorem dX7_isSign_0 : decode cX7_isSign 0 = .ok (.iload_n 0, 1) := by decide +kernel
theorem dX7_isSign_1 : decode cX7_isSign 1 = .ok (.bipush 97, 2) := by decide +kernel
theorem dX7_isSign_3 : decode cX7_isSign 3 = .ok (.if_icmp .lt 9, 3) := by decide +kernel
theorem dX7_isSign_6 : decode cX7_isSign 6 = .ok (.iload_n 0, 1) := by decide +kernel
theorem dX7_isSign_7 : decode cX7_isSign 7 = .ok (.bipush 122, 2) := by decide +kernel
theorem dX7_isSign_9 : decode cX7_isSign 9 = .ok (.if_icmp .le 21, 3) := by decide +kernel
theorem dX7_isSign_12 : decode cX7_isSign 12 = .ok (.iload_n 0, 1) := by decide +kernel
theorem dX7_isSign_13 : decode cX7_isSign 13 = .ok (.bipush 47, 2) := by decide +kernel
theorem dX7_isSign_15 : decode cX7_isSign 15 = .ok (.if_icmp .eq 15, 3) := by decide +kernel
theorem dX7_isSign_18 : decode cX7_isSign 18 = .ok (.iload_n 0, 1) := by decide +kernel
theorem dX7_isSign_19 : decode cX7_isSign 19 = .ok (.bipush 42, 2) := by decide +kernel
theorem dX7_isSign_21 : decode cX7_isSign 21 = .ok (.if_icmp .eq 9, 3) := by decide +kernel
theorem dX7_isSign_24 : decode cX7_isSign 24 = .ok (.iload_n 0, 1) := by decide +kernel
theorem dX7_isSign_25 : decode cX7_isSign 25 = .ok (.bipush 63, 2) := by decide +kernel
theorem dX7_isSign_27 : decode cX7_isSign 27 = .ok (.if_icmp .ne 7, 3) := by decide +kernel
theorem dX7_isSign_30 : decode cX7_isSign 30 = .ok (.iconst 1, 1) := by decide +kernel
theorem dX7_isSign_31 : decode cX7_isSign 31 = .ok (.goto 4, 3) := by decide +kernel
theorem dX7_isSign_34 : decode cX7_isSign 34 = .ok (.iconst 0, 1) := by decide +kernel
theorem dX7_isSign_35 : decode cX7_isSign 35 = .ok (.ireturn, 1) := by decide +kernel
theorem dX7_holds_0 : decode cX7_holds 0 = .ok (.iload_n 0, 1) := by decide +kernel
theorem dX7_holds_1 : decode cX7_holds 1 = .ok (.iload_n 1, 1) := by decide +kernel
theorem dX7_holds_2 : decode cX7_holds 2 = .ok (.ishr, 1) := by decide +kernel
theorem dX7_holds_3 : decode cX7_holds 3 = .ok (.iconst 1, 1) := by decide +kernel
theorem dX7_holds_4 : decode cX7_holds 4 = .ok (.iand, 1) := by decide +kernel
theorem dX7_holds_5 : decode cX7_holds 5 = .ok (.iconst 1, 1) := by decide +kernel
theorem dX7_holds_6 : decode cX7_holds 6 = .ok (.if_icmp .ne 7, 3) := by decide +kernel
theorem dX7_holds_9 : decode cX7_holds 9 = .ok (.iconst 1, 1) := by decide +kernel
theorem dX7_holds_10 : decode cX7_holds 10 = .ok (.goto 4, 3) := by decide +kernel
theorem dX7_holds_13 : decode cX7_holds 13 = .ok (.iconst 0, 1) := by decide +kernel
theorem dX7_holds_14 : decode cX7_holds 14 = .ok (.ireturn, 1) := by decide +kernel
theorem dJ6_bitCount_0f7a4_0 : decode cJ6_bitCount_0f7a4 0 = .ok (.iload_n 0, 1) := by decide +kernel
theorem dJ6_bitCount_0f7a4_1 : decode cJ6_bitCount_0f7a4 1 = .ok (.iload_n 0, 1) := by decide +kernel
theorem dJ6_bitCount_0f7a4_2 : decode cJ6_bitCount_0f7a4 2 = .ok (.iconst 1, 1) := by decide +kernel
theorem dJ6_bitCount_0f7a4_3 : decode cJ6_bitCount_0f7a4 3 = .ok (.iushr, 1) := by decide +kernel
theorem dJ6_bitCount_0f7a4_4 : decode cJ6_bitCount_0f7a4 4 = .ok (.ldc_w 265, 3) := by decide +kernel
theorem dJ6_bitCount_0f7a4_7 : decode cJ6_bitCount_0f7a4 7 = .ok (.iand, 1) := by decide +kernel
theorem dJ6_bitCount_0f7a4_8 : decode cJ6_bitCount_0f7a4 8 = .ok (.isub, 1) := by decide +kernel
theorem dJ6_bitCount_0f7a4_9 : decode cJ6_bitCount_0f7a4 9 = .ok (.istore_n 0, 1) := by decide +kernel
theorem dJ6_bitCount_0f7a4_10 : decode cJ6_bitCount_0f7a4 10 = .ok (.iload_n 0, 1) := by decide +kernel
theorem dJ6_bitCount_0f7a4_11 : decode cJ6_bitCount_0f7a4 11 = .ok (.ldc_w 266, 3) := by decide +kernel
theorem dJ6_bitCount_0f7a4_14 : decode cJ6_bitCount_0f7a4 14 = .ok (.iand, 1) := by decide +kernel
theorem dJ6_bitCount_0f7a4_15 : decode cJ6_bitCount_0f7a4 15 = .ok (.iload_n 0, 1) := by decide +kernel
theorem dJ6_bitCount_0f7a4_16 : decode cJ6_bitCount_0f7a4 16 = .ok (.iconst 2, 1) := by decide +kernel
theorem dJ6_bitCount_0f7a4_17 : decode cJ6_bitCount_0f7a4 17 = .ok (.iushr, 1) := by decide +kernel
theorem dJ6_bitCount_0f7a4_18 : decode cJ6_bitCount_0f7a4 18 = .ok (.ldc_w 266, 3) := by decide +kernel
theorem dJ6_bitCount_0f7a4_21 : decode cJ6_bitCount_0f7a4 21 = .ok (.iand, 1) := by decide +kernel
theorem dJ6_bitCount_0f7a4_22 : decode cJ6_bitCount_0f7a4 22 = .ok (.iadd, 1) := by decide +kernel
theorem dJ6_bitCount_0f7a4_23 : decode cJ6_bitCount_0f7a4 23 = .ok (.istore_n 0, 1) := by decide +kernel
theorem dJ6_bitCount_0f7a4_24 : decode cJ6_bitCount_0f7a4 24 = .ok (.iload_n 0, 1) := by decide +kernel
theorem dJ6_bitCount_0f7a4_25 : decode cJ6_bitCount_0f7a4 25 = .ok (.iload_n 0, 1) := by decide +kernel
theorem dJ6_bitCount_0f7a4_26 : decode cJ6_bitCount_0f7a4 26 = .ok (.iconst 4, 1) := by decide +kernel
theorem dJ6_bitCount_0f7a4_27 : decode cJ6_bitCount_0f7a4 27 = .ok (.iushr, 1) := by decide +kernel
theorem dJ6_bitCount_0f7a4_28 : decode cJ6_bitCount_0f7a4 28 = .ok (.iadd, 1) := by decide +kernel
theorem dJ6_bitCount_0f7a4_29 : decode cJ6_bitCount_0f7a4 29 = .ok (.ldc_w 267, 3) := by decide +kernel
theorem dJ6_bitCount_0f7a4_32 : decode cJ6_bitCount_0f7a4 32 = .ok (.iand, 1) := by decide +kernel
theorem dJ6_bitCount_0f7a4_33 : decode cJ6_bitCount_0f7a4 33 = .ok (.istore_n 0, 1) := by decide +kernel
theorem dJ6_bitCount_0f7a4_34 : decode cJ6_bitCount_0f7a4 34 = .ok (.iload_n 0, 1) := by decide +kernel
theorem dJ6_bitCount_0f7a4_35 : decode cJ6_bitCount_0f7a4 35 = .ok (.iload_n 0, 1) := by decide +kernel
theorem dJ6_bitCount_0f7a4_36 : decode cJ6_bitCount_0f7a4 36 = .ok (.bipush 8, 2) := by decide +kernel
theorem dJ6_bitCount_0f7a4_38 : decode cJ6_bitCount_0f7a4 38 = .ok (.iushr, 1) := by decide +kernel
theorem dJ6_bitCount_0f7a4_39 : decode cJ6_bitCount_0f7a4 39 = .ok (.iadd, 1) := by decide +kernel
theorem dJ6_bitCount_0f7a4_40 : decode cJ6_bitCount_0f7a4 40 = .ok (.istore_n 0, 1) := by decide +kernel
theorem dJ6_bitCount_0f7a4_41 : decode cJ6_bitCount_0f7a4 41 = .ok (.iload_n 0, 1) := by decide +kernel
theorem dJ6_bitCount_0f7a4_42 : decode cJ6_bitCount_0f7a4 42 = .ok (.iload_n 0, 1) := by decide +kernel
theorem dJ6_bitCount_0f7a4_43 : decode cJ6_bitCount_0f7a4 43 = .ok (.bipush 16, 2) := by decide +kernel
theorem dJ6_bitCount_0f7a4_45 : decode cJ6_bitCount_0f7a4 45 = .ok (.iushr, 1) := by decide +kernel
theorem dJ6_bitCount_0f7a4_46 : decode cJ6_bitCount_0f7a4 46 = .ok (.iadd, 1) := by decide +kernel
theorem dJ6_bitCount_0f7a4_47 : decode cJ6_bitCount_0f7a4 47 = .ok (.istore_n 0, 1) := by decide +kernel
theorem dJ6_bitCount_0f7a4_48 : decode cJ6_bitCount_0f7a4 48 = .ok (.iload_n 0, 1) := by decide +kernel
theorem dJ6_bitCount_0f7a4_49 : decode cJ6_bitCount_0f7a4 49 = .ok (.bipush 63, 2) := by decide +kernel
theorem dJ6_bitCount_0f7a4_51 : decode cJ6_bitCount_0f7a4 51 = .ok (.iand, 1) := by decide +kernel
theorem dJ6_bitCount_0f7a4_52 : decode cJ6_bitCount_0f7a4 52 = .ok (.ireturn, 1) := by decide +kernel
theorem dJ9_max_7cf53_0 : decode cJ9_max_7cf53 0 = .ok (.iload_n 0, 1) := by decide +kernel
theorem dJ9_max_7cf53_1 : decode cJ9_max_7cf53 1 = .ok (.iload_n 1, 1) := by decide +kernel
theorem dJ9_max_7cf53_2 : decode cJ9_max_7cf53 2 = .ok (.if_icmp .lt 7, 3) := by decide +kernel
theorem dJ9_max_7cf53_5 : decode cJ9_max_7cf53 5 = .ok (.iload_n 0, 1) := by decide +kernel
theorem dJ9_max_7cf53_6 : decode cJ9_max_7cf53 6 = .ok (.goto 4, 3) := by decide +kernel
theorem dJ9_max_7cf53_9 : decode cJ9_max_7cf53 9 = .ok (.iload_n 1, 1) := by decide +kernel
theorem dJ9_max_7cf53_10 : decode cJ9_max_7cf53 10 = .ok (.ireturn, 1) := by decide +kernel
theorem dJ7_fill_53178_0 : decode cJ7_fill_53178 0 = .ok (.iconst 0, 1) := by decide +kernel
theorem dJ7_fill_53178_1 : decode cJ7_fill_53178 1 = .ok (.istore_n 2, 1) := by decide +kernel
theorem dJ7_fill_53178_2 : decode cJ7_fill_53178 2 = .ok (.aload_n 0, 1) := by decide +kernel
theorem dJ7_fill_53178_3 : decode cJ7_fill_53178 3 = .ok (.arraylength, 1) := by decide +kernel
theorem dJ7_fill_53178_4 : decode cJ7_fill_53178 4 = .ok (.istore_n 3, 1) := by decide +kernel
theorem dJ7_fill_53178_5 : decode cJ7_fill_53178 5 = .ok (.iload_n 2, 1) := by decide +kernel
theorem dJ7_fill_53178_6 : decode cJ7_fill_53178 6 = .ok (.iload_n 3, 1) := by decide +kernel
theorem dJ7_fill_53178_7 : decode cJ7_fill_53178 7 = .ok (.if_icmp .ge 13, 3) := by decide +kernel
theorem dJ7_fill_53178_10 : decode cJ7_fill_53178 10 = .ok (.aload_n 0, 1) := by decide +kernel
theorem dJ7_fill_53178_11 : decode cJ7_fill_53178 11 = .ok (.iload_n 2, 1) := by decide +kernel
theorem dJ7_fill_53178_12 : decode cJ7_fill_53178 12 = .ok (.iload_n 1, 1) := by decide +kernel
theorem dJ7_fill_53178_13 : decode cJ7_fill_53178 13 = .ok (.iastore, 1) := by decide +kernel
theorem dJ7_fill_53178_14 : decode cJ7_fill_53178 14 = .ok (.iinc 2 1, 3) := by decide +kernel
theorem dJ7_fill_53178_17 : decode cJ7_fill_53178 17 = .ok (.goto (-12), 3) := by decide +kernel
theorem dJ7_fill_53178_20 : decode cJ7_fill_53178 20 = .ok (.return_, 1) := by decide +kernel
end
section
theorem dX8_init_0 : decode cX8_init 0 = .ok (.aload_n 0, 1) := by decide +kernel
theorem dX8_init_1 : decode cX8_init 1 = .ok (.invokespecial 1, 3) := by decide +kernel
theorem dX8_init_4 : decode cX8_init 4 = .ok (.aload_n 0, 1) := by decide +kernel
theorem dX8_init_5 : decode cX8_init 5 = .ok (.sipush 1848, 3) := by decide +kernel
theorem dX8_init_8 : decode cX8_init 8 = .ok (.newarray .int, 2) := by decide +kernel
theorem dX8_init_10 : decode cX8_init 10 = .ok (.putfield 7, 3) := by decide +kernel
theorem dX8_init_13 : decode cX8_init 13 = .ok (.aload_n 0, 1) := by decide +kernel
theorem dX8_init_14 : decode cX8_init 14 = .ok (.bipush 77, 2) := by decide +kernel
theorem dX8_init_16 : decode cX8_init 16 = .ok (.newarray .int, 2) := by decide +kernel
theorem dX8_init_18 : decode cX8_init 18 = .ok (.putfield 13, 3) := by decide +kernel
theorem dX8_init_21 : decode cX8_init 21 = .ok (.aload_n 0, 1) := by decide +kernel
theorem dX8_init_22 : decode cX8_init 22 = .ok (.sipush 576, 3) := by decide +kernel
theorem dX8_init_25 : decode cX8_init 25 = .ok (.newarray .int, 2) := by decide +kernel
theorem dX8_init_27 : decode cX8_init 27 = .ok (.putfield 16, 3) := by decide +kernel
theorem dX8_init_30 : decode cX8_init 30 = .ok (.aload_n 0, 1) := by decide +kernel
theorem dX8_init_31 : decode cX8_init 31 = .ok (.bipush 24, 2) := by decide +kernel
theorem dX8_init_33 : decode cX8_init 33 = .ok (.newarray .int, 2) := by decide +kernel
theorem dX8_init_35 : decode cX8_init 35 = .ok (.putfield 19, 3) := by decide +kernel
theorem dX8_init_38 : decode cX8_init 38 = .ok (.aload_n 0, 1) := by decide +kernel
theorem dX8_init_39 : decode cX8_init 39 = .ok (.bipush 24, 2) := by decide +kernel
theorem dX8_init_41 : decode cX8_init 41 = .ok (.newarray .boolean, 2) := by decide +kernel
theorem dX8_init_43 : decode cX8_init 43 = .ok (.putfield 22, 3) := by decide +kernel
theorem dX8_init_46 : decode cX8_init 46 = .ok (.aload_n 0, 1) := by decide +kernel
theorem dX8_init_47 : decode cX8_init 47 = .ok (.bipush 24, 2) := by decide +kernel
theorem dX8_init_49 : decode cX8_init 49 = .ok (.newarray .int, 2) := by decide +kernel
theorem dX8_init_51 : decode cX8_init 51 = .ok (.putfield 26, 3) := by decide +kernel
theorem dX8_init_54 : decode cX8_init 54 = .ok (.aload_n 0, 1) := by decide +kernel
theorem dX8_init_55 : decode cX8_init 55 = .ok (.bipush 24, 2) := by decide +kernel
theorem dX8_init_57 : decode cX8_init 57 = .ok (.newarray .boolean, 2) := by decide +kernel
theorem dX8_init_59 : decode cX8_init 59 = .ok (.putfield 29, 3) := by decide +kernel
theorem dX8_init_62 : decode cX8_init 62 = .ok (.aload_n 0, 1) := by decide +kernel
theorem dX8_init_63 : decode cX8_init 63 = .ok (.bipush 24, 2) := by decide +kernel
theorem dX8_init_65 : decode cX8_init 65 = .ok (.newarray .int, 2) := by decide +kernel
theorem dX8_init_67 : decode cX8_init 67 = .ok (.putfield 32, 3) := by decide +kernel
theorem dX8_init_70 : decode cX8_init 70 = .ok (.aload_n 0, 1) := by decide +kernel
theorem dX8_init_71 : decode cX8_init 71 = .ok (.bipush 16, 2) := by decide +kernel
theorem dX8_init_73 : decode cX8_init 73 = .ok (.newarray .int, 2) := by decide +kernel
theorem dX8_init_75 : decode cX8_init 75 = .ok (.putfield 35, 3) := by decide +kernel
theorem dX8_init_78 : decode cX8_init 78 = .ok (.aload_n 0, 1) := by decide +kernel
theorem dX8_init_79 : decode cX8_init 79 = .ok (.bipush 16, 2) := by decide +kernel
theorem dX8_init_81 : decode cX8_init 81 = .ok (.newarray .int, 2) := by decide +kernel
theorem dX8_init_83 : decode cX8_init 83 = .ok (.putfield 38, 3) := by decide +kernel
theorem dX8_init_86 : decode cX8_init 86 = .ok (.aload_n 0, 1) := by decide +kernel
theorem dX8_init_87 : decode cX8_init 87 = .ok (.bipush 16, 2) := by decide +kernel
theorem dX8_init_89 : decode cX8_init 89 = .ok (.newarray .int, 2) := by decide +kernel
theorem dX8_init_91 : decode cX8_init 91 = .ok (.putfield 41, 3) := by decide +kernel
theorem dX8_init_94 : decode cX8_init 94 = .ok (.aload_n 0, 1) := by decide +kernel
theorem dX8_init_95 : decode cX8_init 95 = .ok (.bipush 16, 2) := by decide +kernel
theorem dX8_init_97 : decode cX8_init 97 = .ok (.newarray .int, 2) := by decide +kernel
theorem dX8_init_99 : decode cX8_init 99 = .ok (.putfield 44, 3) := by decide +kernel
theorem dX8_init_102 : decode cX8_init 102 = .ok (.aload_n 0, 1) := by decide +kernel
theorem dX8_init_103 : decode cX8_init 103 = .ok (.bipush 12, 2) := by decide +kernel
theorem dX8_init_105 : decode cX8_init 105 = .ok (.newarray .int, 2) := by decide +kernel
theorem dX8_init_107 : decode cX8_init 107 = .ok (.putfield 47, 3) := by decide +kernel
theorem dX8_init_110 : decode cX8_init 110 = .ok (.aload_n 0, 1) := by decide +kernel
theorem dX8_init_111 : decode cX8_init 111 = .ok (.sipush 200, 3) := by decide +kernel
theorem dX8_init_114 : decode cX8_init 114 = .ok (.newarray .int, 2) := by decide +kernel
theorem dX8_init_116 : decode cX8_init 116 = .ok (.putfield 50, 3) := by decide +kernel
theorem dX8_init_119 : decode cX8_init 119 = .ok (.aload_n 0, 1) := by decide +kernel
theorem dX8_init_120 : decode cX8_init 120 = .ok (.sipush 200, 3) := by decide +kernel
theorem dX8_init_123 : decode cX8_init 123 = .ok (.newarray .int, 2) := by decide +kernel
theorem dX8_init_125 : decode cX8_init 125 = .ok (.putfield 53, 3) := by decide +kernel
theorem dX8_init_128 : decode cX8_init 128 = .ok (.aload_n 0, 1) := by decide +kernel
theorem dX8_init_129 : decode cX8_init 129 = .ok (.sipush 200, 3) := by decide +kernel
theorem dX8_init_132 : decode cX8_init 132 = .ok (.newarray .int, 2) := by decide +kernel
theorem dX8_init_134 : decode cX8_init 134 = .ok (.putfield 56, 3) := by decide +kernel
theorem dX8_init_137 : decode cX8_init 137 = .ok (.aload_n 0, 1) := by decide +kernel
theorem dX8_init_138 : decode cX8_init 138 = .ok (.sipush 4800, 3) := by decide +kernel
theorem dX8_init_141 : decode cX8_init 141 = .ok (.newarray .int, 2) := by decide +kernel
theorem dX8_init_143 : decode cX8_init 143 = .ok (.putfield 59, 3) := by decide +kernel
theorem dX8_init_146 : decode cX8_init 146 = .ok (.aload_n 0, 1) := by decide +kernel
theorem dX8_init_147 : decode cX8_init 147 = .ok (.sipush 3200, 3) := by decide +kernel
theorem dX8_init_150 : decode cX8_init 150 = .ok (.newarray .int, 2) := by decide +kernel
theorem dX8_init_152 : decode cX8_init 152 = .ok (.putfield 62, 3) := by decide +kernel
theorem dX8_init_155 : decode cX8_init 155 = .ok (.aload_n 0, 1) := by decide +kernel
theorem dX8_init_156 : decode cX8_init 156 = .ok (.bipush 16, 2) := by decide +kernel
theorem dX8_init_158 : decode cX8_init 158 = .ok (.newarray .int, 2) := by decide +kernel
theorem dX8_init_160 : decode cX8_init 160 = .ok (.putfield 65, 3) := by decide +kernel
theorem dX8_init_163 : decode cX8_init 163 = .ok (.aload_n 0, 1) := by decide +kernel
theorem dX8_init_164 : decode cX8_init 164 = .ok (.bipush 16, 2) := by decide +kernel
theorem dX8_init_166 : decode cX8_init 166 = .ok (.newarray .int, 2) := by decide +kernel
theorem dX8_init_168 : decode cX8_init 168 = .ok (.putfield 68, 3) := by decide +kernel
theorem dX8_init_171 : decode cX8_init 171 = .ok (.aload_n 0, 1) := by decide +kernel
theorem dX8_init_172 : decode cX8_init 172 = .ok (.bipush 8, 2) := by decide +kernel
theorem dX8_init_174 : decode cX8_init 174 = .ok (.newarray .int, 2) := by decide +kernel
theorem dX8_init_176 : decode cX8_init 176 = .ok (.putfield 71, 3) := by decide +kernel
theorem dX8_init_179 : decode cX8_init 179 = .ok (.aload_n 0, 1) := by decide +kernel
theorem dX8_init_180 : decode cX8_init 180 = .ok (.bipush 16, 2) := by decide +kernel
theorem dX8_init_182 : decode cX8_init 182 = .ok (.newarray .int, 2) := by decide +kernel
theorem dX8_init_184 : decode cX8_init 184 = .ok (.putfield 74, 3) := by decide +kernel
theorem dX8_init_187 : decode cX8_init 187 = .ok (.return_, 1) := by decide +kernel
theorem dX8_thrown_0 : decode cX8_thrown 0 = .ok (.aload_n 0, 1) := by decide +kernel
theorem dX8_thrown_1 : decode cX8_thrown 1 = .ok (.getfield 77, 3) := by decide +kernel
theorem dX8_thrown_4 : decode cX8_thrown 4 = .ok (.ireturn, 1) := by decide +kernel
theorem dX8_isIn_0 : decode cX8_isIn 0 = .ok (.iload_n 0, 1) := by decide +kernel
theorem dX8_isIn_1 : decode cX8_isIn 1 = .ok (.iload_n 1, 1) := by decide +kernel
theorem dX8_isIn_2 : decode cX8_isIn 2 = .ok (.if_icmp .lt 12, 3) := by decide +kernel
theorem dX8_isIn_5 : decode cX8_isIn 5 = .ok (.iload_n 0, 1) := by decide +kernel
theorem dX8_isIn_6 : decode cX8_isIn 6 = .ok (.iload_n 2, 1) := by decide +kernel
theorem dX8_isIn_7 : decode cX8_isIn 7 = .ok (.if_icmp .gt 7, 3) := by decide +kernel
theorem dX8_isIn_10 : decode cX8_isIn 10 = .ok (.iconst 1, 1) := by decide +kernel
theorem dX8_isIn_11 : decode cX8_isIn 11 = .ok (.goto 4, 3) := by decide +kernel
theorem dX8_isIn_14 : decode cX8_isIn 14 = .ok (.iconst 0, 1) := by decide +kernel
theorem dX8_isIn_15 : decode cX8_isIn 15 = .ok (.ireturn, 1) := by decide +kernel
theorem dX8_type_0 : decode cX8_type 0 = .ok (.iload_n 1, 1) := by decide +kernel
theorem dX8_type_1 : decode cX8_type 1 = .ok (.bipush 97, 2) := by decide +kernel
theorem dX8_type_3 : decode cX8_type 3 = .ok (.if_icmp .lt 9, 3) := by decide +kernel
theorem dX8_type_6 : decode cX8_type 6 = .ok (.iload_n 1, 1) := by decide +kernel
theorem dX8_type_7 : decode cX8_type 7 = .ok (.bipush 122, 2) := by decide +kernel
theorem dX8_type_9 : decode cX8_type 9 = .ok (.if_icmp .le 21, 3) := by decide +kernel
theorem dX8_type_12 : decode cX8_type 12 = .ok (.iload_n 1, 1) := by decide +kernel
theorem dX8_type_13 : decode cX8_type 13 = .ok (.bipush 47, 2) := by decide +kernel
theorem dX8_type_15 : decode cX8_type 15 = .ok (.if_icmp .eq 15, 3) := by decide +kernel
theorem dX8_type_18 : decode cX8_type 18 = .ok (.iload_n 1, 1) := by decide +kernel
theorem dX8_type_19 : decode cX8_type 19 = .ok (.bipush 42, 2) := by decide +kernel
theorem dX8_type_21 : decode cX8_type 21 = .ok (.if_icmp .eq 9, 3) := by decide +kernel
theorem dX8_type_24 : decode cX8_type 24 = .ok (.iload_n 1, 1) := by decide +kernel
theorem dX8_type_25 : decode cX8_type 25 = .ok (.bipush 63, 2) := by decide +kernel
theorem dX8_type_27 : decode cX8_type 27 = .ok (.if_icmp .ne 7, 3) := by decide +kernel
theorem dX8_type_30 : decode cX8_type 30 = .ok (.iconst 1, 1) := by decide +kernel
theorem dX8_type_31 : decode cX8_type 31 = .ok (.goto 4, 3) := by decide +kernel
theorem dX8_type_34 : decode cX8_type 34 = .ok (.iconst 0, 1) := by decide +kernel
theorem dX8_type_35 : decode cX8_type 35 = .ok (.istore_n 2, 1) := by decide +kernel
theorem dX8_type_36 : decode cX8_type 36 = .ok (.aload_n 0, 1) := by decide +kernel
theorem dX8_type_37 : decode cX8_type 37 = .ok (.iload_n 2, 1) := by decide +kernel
theorem dX8_type_38 : decode cX8_type 38 = .ok (.ifCond .ne 7, 3) := by decide +kernel
theorem dX8_type_41 : decode cX8_type 41 = .ok (.iconst 1, 1) := by decide +kernel
theorem dX8_type_42 : decode cX8_type 42 = .ok (.goto 20, 3) := by decide +kernel
theorem dX8_type_45 : decode cX8_type 45 = .ok (.aload_n 0, 1) := by decide +kernel
theorem dX8_type_46 : decode cX8_type 46 = .ok (.getfield 13, 3) := by decide +kernel
theorem dX8_type_49 : decode cX8_type 49 = .ok (.bipush 76, 2) := by decide +kernel
theorem dX8_type_51 : decode cX8_type 51 = .ok (.iaload, 1) := by decide +kernel
theorem dX8_type_52 : decode cX8_type 52 = .ok (.bipush 24, 2) := by decide +kernel
theorem dX8_type_54 : decode cX8_type 54 = .ok (.if_icmp .ne 7, 3) := by decide +kernel
theorem dX8_type_57 : decode cX8_type 57 = .ok (.iconst 2, 1) := by decide +kernel
theorem dX8_type_58 : decode cX8_type 58 = .ok (.goto 4, 3) := by decide +kernel
theorem dX8_type_61 : decode cX8_type 61 = .ok (.iconst 0, 1) := by decide +kernel
theorem dX8_type_62 : decode cX8_type 62 = .ok (.putfield 77, 3) := by decide +kernel
theorem dX8_type_65 : decode cX8_type 65 = .ok (.aload_n 0, 1) := by decide +kernel
theorem dX8_type_66 : decode cX8_type 66 = .ok (.getfield 77, 3) := by decide +kernel
theorem dX8_type_69 : decode cX8_type 69 = .ok (.ifCond .le 5, 3) := by decide +kernel
theorem dX8_type_72 : decode cX8_type 72 = .ok (.iconst 0, 1) := by decide +kernel
theorem dX8_type_73 : decode cX8_type 73 = .ok (.ireturn, 1) := by decide +kernel
theorem dX8_type_74 : decode cX8_type 74 = .ok (.aload_n 0, 1) := by decide +kernel
theorem dX8_type_75 : decode cX8_type 75 = .ok (.getfield 7, 3) := by decide +kernel
theorem dX8_type_78 : decode cX8_type 78 = .ok (.sipush 1824, 3) := by decide +kernel
theorem dX8_type_81 : decode cX8_type 81 = .ok (.aload_n 0, 1) := by decide +kernel
theorem dX8_type_82 : decode cX8_type 82 = .ok (.getfield 13, 3) := by decide +kernel
theorem dX8_type_85 : decode cX8_type 85 = .ok (.bipush 76, 2) := by decide +kernel
theorem dX8_type_87 : decode cX8_type 87 = .ok (.iaload, 1) := by decide +kernel
theorem dX8_type_88 : decode cX8_type 88 = .ok (.iadd, 1) := by decide +kernel
theorem dX8_type_89 : decode cX8_type 89 = .ok (.iload_n 1, 1) := by decide +kernel
theorem dX8_type_90 : decode cX8_type 90 = .ok (.iastore, 1) := by decide +kernel
theorem dX8_type_91 : decode cX8_type 91 = .ok (.aload_n 0, 1) := by decide +kernel
theorem dX8_type_92 : decode cX8_type 92 = .ok (.getfield 13, 3) := by decide +kernel
theorem dX8_type_95 : decode cX8_type 95 = .ok (.bipush 76, 2) := by decide +kernel
theorem dX8_type_97 : decode cX8_type 97 = .ok (.dup2, 1) := by decide +kernel
theorem dX8_type_98 : decode cX8_type 98 = .ok (.iaload, 1) := by decide +kernel
theorem dX8_type_99 : decode cX8_type 99 = .ok (.iconst 1, 1) := by decide +kernel
theorem dX8_type_100 : decode cX8_type 100 = .ok (.iadd, 1) := by decide +kernel
theorem dX8_type_101 : decode cX8_type 101 = .ok (.iastore, 1) := by decide +kernel
theorem dX8_type_102 : decode cX8_type 102 = .ok (.aload_n 0, 1) := by decide +kernel
theorem dX8_type_103 : decode cX8_type 103 = .ok (.getfield 13, 3) := by decide +kernel
theorem dX8_type_106 : decode cX8_type 106 = .ok (.bipush 76, 2) := by decide +kernel
theorem dX8_type_108 : decode cX8_type 108 = .ok (.iaload, 1) := by decide +kernel
theorem dX8_type_109 : decode cX8_type 109 = .ok (.ireturn, 1) := by decide +kernel
theorem dX8_clearText_0 : decode cX8_clearText 0 = .ok (.aload_n 0, 1) := by decide +kernel
theorem dX8_clearText_1 : decode cX8_clearText 1 = .ok (.iconst 0, 1) := by decide +kernel
theorem dX8_clearText_2 : decode cX8_clearText 2 = .ok (.putfield 77, 3) := by decide +kernel
theorem dX8_clearText_5 : decode cX8_clearText 5 = .ok (.aload_n 0, 1) := by decide +kernel
theorem dX8_clearText_6 : decode cX8_clearText 6 = .ok (.getfield 13, 3) := by decide +kernel
theorem dX8_clearText_9 : decode cX8_clearText 9 = .ok (.bipush 76, 2) := by decide +kernel
theorem dX8_clearText_11 : decode cX8_clearText 11 = .ok (.iaload, 1) := by decide +kernel
theorem dX8_clearText_12 : decode cX8_clearText 12 = .ok (.istore_n 1, 1) := by decide +kernel
theorem dX8_clearText_13 : decode cX8_clearText 13 = .ok (.aload_n 0, 1) := by decide +kernel
theorem dX8_clearText_14 : decode cX8_clearText 14 = .ok (.getfield 13, 3) := by decide +kernel
theorem dX8_clearText_17 : decode cX8_clearText 17 = .ok (.bipush 76, 2) := by decide +kernel
theorem dX8_clearText_19 : decode cX8_clearText 19 = .ok (.iconst 0, 1) := by decide +kernel
theorem dX8_clearText_20 : decode cX8_clearText 20 = .ok (.iastore, 1) := by decide +kernel
theorem dX8_clearText_21 : decode cX8_clearText 21 = .ok (.iload_n 1, 1) := by decide +kernel
theorem dX8_clearText_22 : decode cX8_clearText 22 = .ok (.ireturn, 1) := by decide +kernel
theorem dX8_at_0 : decode cX8_at 0 = .ok (.iload_n 2, 1) := by decide +kernel
theorem dX8_at_1 : decode cX8_at 1 = .ok (.ifCond .lt 13, 3) := by decide +kernel
theorem dX8_at_4 : decode cX8_at 4 = .ok (.iload_n 2, 1) := by decide +kernel
theorem dX8_at_5 : decode cX8_at 5 = .ok (.aload_n 0, 1) := by decide +kernel
theorem dX8_at_6 : decode cX8_at 6 = .ok (.getfield 13, 3) := by decide +kernel
theorem dX8_at_9 : decode cX8_at 9 = .ok (.iload_n 1, 1) := by decide +kernel
theorem dX8_at_10 : decode cX8_at 10 = .ok (.iaload, 1) := by decide +kernel
theorem dX8_at_11 : decode cX8_at 11 = .ok (.if_icmp .lt 8, 3) := by decide +kernel
theorem dX8_at_14 : decode cX8_at 14 = .ok (.bipush 47, 2) := by decide +kernel
theorem dX8_at_16 : decode cX8_at 16 = .ok (.goto 14, 3) := by decide +kernel
theorem dX8_at_19 : decode cX8_at 19 = .ok (.aload_n 0, 1) := by decide +kernel
theorem dX8_at_20 : decode cX8_at 20 = .ok (.getfield 7, 3) := by decide +kernel
theorem dX8_at_23 : decode cX8_at 23 = .ok (.bipush 24, 2) := by decide +kernel
theorem dX8_at_25 : decode cX8_at 25 = .ok (.iload_n 1, 1) := by decide +kernel
theorem dX8_at_26 : decode cX8_at 26 = .ok (.imul, 1) := by decide +kernel
theorem dX8_at_27 : decode cX8_at 27 = .ok (.iload_n 2, 1) := by decide +kernel
theorem dX8_at_28 : decode cX8_at 28 = .ok (.iadd, 1) := by decide +kernel
theorem dX8_at_29 : decode cX8_at 29 = .ok (.iaload, 1) := by decide +kernel
theorem dX8_at_30 : decode cX8_at 30 = .ok (.ireturn, 1) := by decide +kernel
theorem dX8_hasEmpty_0 : decode cX8_hasEmpty 0 = .ok (.iconst 0, 1) := by decide +kernel
theorem dX8_hasEmpty_1 : decode cX8_hasEmpty 1 = .ok (.istore_n 1, 1) := by decide +kernel
theorem dX8_hasEmpty_2 : decode cX8_hasEmpty 2 = .ok (.iconst 0, 1) := by decide +kernel
theorem dX8_hasEmpty_3 : decode cX8_hasEmpty 3 = .ok (.istore_n 2, 1) := by decide +kernel
theorem dX8_hasEmpty_4 : decode cX8_hasEmpty 4 = .ok (.iload_n 2, 1) := by decide +kernel
theorem dX8_hasEmpty_5 : decode cX8_hasEmpty 5 = .ok (.aload_n 0, 1) := by decide +kernel
theorem dX8_hasEmpty_6 : decode cX8_hasEmpty 6 = .ok (.getfield 13, 3) := by decide +kernel
theorem dX8_hasEmpty_9 : decode cX8_hasEmpty 9 = .ok (.bipush 76, 2) := by decide +kernel
theorem dX8_hasEmpty_11 : decode cX8_hasEmpty 11 = .ok (.iaload, 1) := by decide +kernel
theorem dX8_hasEmpty_12 : decode cX8_hasEmpty 12 = .ok (.if_icmp .gt 43, 3) := by decide +kernel
theorem dX8_hasEmpty_15 : decode cX8_hasEmpty 15 = .ok (.iload_n 1, 1) := by decide +kernel
theorem dX8_hasEmpty_16 : decode cX8_hasEmpty 16 = .ok (.aload_n 0, 1) := by decide +kernel
theorem dX8_hasEmpty_17 : decode cX8_hasEmpty 17 = .ok (.bipush 76, 2) := by decide +kernel
theorem dX8_hasEmpty_19 : decode cX8_hasEmpty 19 = .ok (.iload_n 2, 1) := by decide +kernel
theorem dX8_hasEmpty_20 : decode cX8_hasEmpty 20 = .ok (.invokevirtual 81, 3) := by decide +kernel
theorem dX8_hasEmpty_23 : decode cX8_hasEmpty 23 = .ok (.bipush 47, 2) := by decide +kernel
theorem dX8_hasEmpty_25 : decode cX8_hasEmpty 25 = .ok (.if_icmp .ne 21, 3) := by decide +kernel
theorem dX8_hasEmpty_28 : decode cX8_hasEmpty 28 = .ok (.aload_n 0, 1) := by decide +kernel
theorem dX8_hasEmpty_29 : decode cX8_hasEmpty 29 = .ok (.bipush 76, 2) := by decide +kernel
theorem dX8_hasEmpty_31 : decode cX8_hasEmpty 31 = .ok (.iload_n 2, 1) := by decide +kernel
theorem dX8_hasEmpty_32 : decode cX8_hasEmpty 32 = .ok (.iconst 1, 1) := by decide +kernel
theorem dX8_hasEmpty_33 : decode cX8_hasEmpty 33 = .ok (.isub, 1) := by decide +kernel
theorem dX8_hasEmpty_34 : decode cX8_hasEmpty 34 = .ok (.invokevirtual 81, 3) := by decide +kernel
theorem dX8_hasEmpty_37 : decode cX8_hasEmpty 37 = .ok (.bipush 47, 2) := by decide +kernel
theorem dX8_hasEmpty_39 : decode cX8_hasEmpty 39 = .ok (.if_icmp .ne 7, 3) := by decide +kernel
theorem dX8_hasEmpty_42 : decode cX8_hasEmpty 42 = .ok (.iconst 1, 1) := by decide +kernel
theorem dX8_hasEmpty_43 : decode cX8_hasEmpty 43 = .ok (.goto 4, 3) := by decide +kernel
theorem dX8_hasEmpty_46 : decode cX8_hasEmpty 46 = .ok (.iconst 0, 1) := by decide +kernel
theorem dX8_hasEmpty_47 : decode cX8_hasEmpty 47 = .ok (.ior, 1) := by decide +kernel
theorem dX8_hasEmpty_48 : decode cX8_hasEmpty 48 = .ok (.istore_n 1, 1) := by decide +kernel
theorem dX8_hasEmpty_49 : decode cX8_hasEmpty 49 = .ok (.iinc 2 1, 3) := by decide +kernel
theorem dX8_hasEmpty_52 : decode cX8_hasEmpty 52 = .ok (.goto (-48), 3) := by decide +kernel
theorem dX8_hasEmpty_55 : decode cX8_hasEmpty 55 = .ok (.iload_n 1, 1) := by decide +kernel
theorem dX8_hasEmpty_56 : decode cX8_hasEmpty 56 = .ok (.ireturn, 1) := by decide +kernel
theorem dX8_isPathNow_0 : decode cX8_isPathNow 0 = .ok (.aload_n 0, 1) := by decide +kernel
theorem dX8_isPathNow_1 : decode cX8_isPathNow 1 = .ok (.invokevirtual 85, 3) := by decide +kernel
theorem dX8_isPathNow_4 : decode cX8_isPathNow 4 = .ok (.ifCond .ne 7, 3) := by decide +kernel
theorem dX8_isPathNow_7 : decode cX8_isPathNow 7 = .ok (.iconst 1, 1) := by decide +kernel
theorem dX8_isPathNow_8 : decode cX8_isPathNow 8 = .ok (.goto 4, 3) := by decide +kernel
theorem dX8_isPathNow_11 : decode cX8_isPathNow 11 = .ok (.iconst 0, 1) := by decide +kernel
theorem dX8_isPathNow_12 : decode cX8_isPathNow 12 = .ok (.istore_n 1, 1) := by decide +kernel
theorem dX8_isPathNow_13 : decode cX8_isPathNow 13 = .ok (.iconst 0, 1) := by decide +kernel
theorem dX8_isPathNow_14 : decode cX8_isPathNow 14 = .ok (.istore_n 2, 1) := by decide +kernel
theorem dX8_isPathNow_15 : decode cX8_isPathNow 15 = .ok (.iload_n 2, 1) := by decide +kernel
theorem dX8_isPathNow_16 : decode cX8_isPathNow 16 = .ok (.aload_n 0, 1) := by decide +kernel
theorem dX8_isPathNow_17 : decode cX8_isPathNow 17 = .ok (.getfield 13, 3) := by decide +kernel
theorem dX8_isPathNow_20 : decode cX8_isPathNow 20 = .ok (.bipush 76, 2) := by decide +kernel
theorem dX8_isPathNow_22 : decode cX8_isPathNow 22 = .ok (.iaload, 1) := by decide +kernel
theorem dX8_isPathNow_23 : decode cX8_isPathNow 23 = .ok (.if_icmp .ge 41, 3) := by decide +kernel
theorem dX8_isPathNow_26 : decode cX8_isPathNow 26 = .ok (.iload_n 1, 1) := by decide +kernel
theorem dX8_isPathNow_27 : decode cX8_isPathNow 27 = .ok (.aload_n 0, 1) := by decide +kernel
theorem dX8_isPathNow_28 : decode cX8_isPathNow 28 = .ok (.bipush 76, 2) := by decide +kernel
theorem dX8_isPathNow_30 : decode cX8_isPathNow 30 = .ok (.iload_n 2, 1) := by decide +kernel
theorem dX8_isPathNow_31 : decode cX8_isPathNow 31 = .ok (.invokevirtual 81, 3) := by decide +kernel
theorem dX8_isPathNow_34 : decode cX8_isPathNow 34 = .ok (.bipush 42, 2) := by decide +kernel
theorem dX8_isPathNow_36 : decode cX8_isPathNow 36 = .ok (.if_icmp .eq 19, 3) := by decide +kernel
theorem dX8_isPathNow_39 : decode cX8_isPathNow 39 = .ok (.aload_n 0, 1) := by decide +kernel
theorem dX8_isPathNow_40 : decode cX8_isPathNow 40 = .ok (.bipush 76, 2) := by decide +kernel
theorem dX8_isPathNow_42 : decode cX8_isPathNow 42 = .ok (.iload_n 2, 1) := by decide +kernel
theorem dX8_isPathNow_43 : decode cX8_isPathNow 43 = .ok (.invokevirtual 81, 3) := by decide +kernel
theorem dX8_isPathNow_46 : decode cX8_isPathNow 46 = .ok (.bipush 63, 2) := by decide +kernel
theorem dX8_isPathNow_48 : decode cX8_isPathNow 48 = .ok (.if_icmp .eq 7, 3) := by decide +kernel
theorem dX8_isPathNow_51 : decode cX8_isPathNow 51 = .ok (.iconst 1, 1) := by decide +kernel
theorem dX8_isPathNow_52 : decode cX8_isPathNow 52 = .ok (.goto 4, 3) := by decide +kernel
theorem dX8_isPathNow_55 : decode cX8_isPathNow 55 = .ok (.iconst 0, 1) := by decide +kernel
theorem dX8_isPathNow_56 : decode cX8_isPathNow 56 = .ok (.iand, 1) := by decide +kernel
theorem dX8_isPathNow_57 : decode cX8_isPathNow 57 = .ok (.istore_n 1, 1) := by decide +kernel
theorem dX8_isPathNow_58 : decode cX8_isPathNow 58 = .ok (.iinc 2 1, 3) := by decide +kernel
theorem dX8_isPathNow_61 : decode cX8_isPathNow 61 = .ok (.goto (-46), 3) := by decide +kernel
theorem dX8_isPathNow_64 : decode cX8_isPathNow 64 = .ok (.iload_n 1, 1) := by decide +kernel
theorem dX8_isPathNow_65 : decode cX8_isPathNow 65 = .ok (.ireturn, 1) := by decide +kernel
theorem dX8_isGlobNow_0 : decode cX8_isGlobNow 0 = .ok (.aload_n 0, 1) := by decide +kernel
theorem dX8_isGlobNow_1 : decode cX8_isGlobNow 1 = .ok (.invokevirtual 85, 3) := by decide +kernel
theorem dX8_isGlobNow_4 : decode cX8_isGlobNow 4 = .ok (.ifCond .ne 7, 3) := by decide +kernel
theorem dX8_isGlobNow_7 : decode cX8_isGlobNow 7 = .ok (.iconst 1, 1) := by decide +kernel
theorem dX8_isGlobNow_8 : decode cX8_isGlobNow 8 = .ok (.goto 4, 3) := by decide +kernel
theorem dX8_isGlobNow_11 : decode cX8_isGlobNow 11 = .ok (.iconst 0, 1) := by decide +kernel
theorem dX8_isGlobNow_12 : decode cX8_isGlobNow 12 = .ok (.istore_n 1, 1) := by decide +kernel
theorem dX8_isGlobNow_13 : decode cX8_isGlobNow 13 = .ok (.iconst 1, 1) := by decide +kernel
theorem dX8_isGlobNow_14 : decode cX8_isGlobNow 14 = .ok (.istore_n 2, 1) := by decide +kernel
theorem dX8_isGlobNow_15 : decode cX8_isGlobNow 15 = .ok (.iload_n 2, 1) := by decide +kernel
theorem dX8_isGlobNow_16 : decode cX8_isGlobNow 16 = .ok (.aload_n 0, 1) := by decide +kernel
theorem dX8_isGlobNow_17 : decode cX8_isGlobNow 17 = .ok (.getfield 13, 3) := by decide +kernel
theorem dX8_isGlobNow_20 : decode cX8_isGlobNow 20 = .ok (.bipush 76, 2) := by decide +kernel
theorem dX8_isGlobNow_22 : decode cX8_isGlobNow 22 = .ok (.iaload, 1) := by decide +kernel
theorem dX8_isGlobNow_23 : decode cX8_isGlobNow 23 = .ok (.if_icmp .ge 81, 3) := by decide +kernel
theorem dX8_isGlobNow_26 : decode cX8_isGlobNow 26 = .ok (.aload_n 0, 1) := by decide +kernel
theorem dX8_isGlobNow_27 : decode cX8_isGlobNow 27 = .ok (.bipush 76, 2) := by decide +kernel
theorem dX8_isGlobNow_29 : decode cX8_isGlobNow 29 = .ok (.iload_n 2, 1) := by decide +kernel
theorem dX8_isGlobNow_30 : decode cX8_isGlobNow 30 = .ok (.invokevirtual 81, 3) := by decide +kernel
theorem dX8_isGlobNow_33 : decode cX8_isGlobNow 33 = .ok (.bipush 42, 2) := by decide +kernel
theorem dX8_isGlobNow_35 : decode cX8_isGlobNow 35 = .ok (.if_icmp .ne 21, 3) := by decide +kernel
theorem dX8_isGlobNow_38 : decode cX8_isGlobNow 38 = .ok (.aload_n 0, 1) := by decide +kernel
theorem dX8_isGlobNow_39 : decode cX8_isGlobNow 39 = .ok (.bipush 76, 2) := by decide +kernel
theorem dX8_isGlobNow_41 : decode cX8_isGlobNow 41 = .ok (.iload_n 2, 1) := by decide +kernel
theorem dX8_isGlobNow_42 : decode cX8_isGlobNow 42 = .ok (.iconst 1, 1) := by decide +kernel
theorem dX8_isGlobNow_43 : decode cX8_isGlobNow 43 = .ok (.isub, 1) := by decide +kernel
theorem dX8_isGlobNow_44 : decode cX8_isGlobNow 44 = .ok (.invokevirtual 81, 3) := by decide +kernel
theorem dX8_isGlobNow_47 : decode cX8_isGlobNow 47 = .ok (.bipush 42, 2) := by decide +kernel
theorem dX8_isGlobNow_49 : decode cX8_isGlobNow 49 = .ok (.if_icmp .ne 7, 3) := by decide +kernel
theorem dX8_isGlobNow_52 : decode cX8_isGlobNow 52 = .ok (.iconst 1, 1) := by decide +kernel
theorem dX8_isGlobNow_53 : decode cX8_isGlobNow 53 = .ok (.goto 4, 3) := by decide +kernel
theorem dX8_isGlobNow_56 : decode cX8_isGlobNow 56 = .ok (.iconst 0, 1) := by decide +kernel
theorem dX8_isGlobNow_57 : decode cX8_isGlobNow 57 = .ok (.istore_n 3, 1) := by decide +kernel
theorem dX8_isGlobNow_58 : decode cX8_isGlobNow 58 = .ok (.iload_n 1, 1) := by decide +kernel
theorem dX8_isGlobNow_59 : decode cX8_isGlobNow 59 = .ok (.iload_n 3, 1) := by decide +kernel
theorem dX8_isGlobNow_60 : decode cX8_isGlobNow 60 = .ok (.ifCond .eq 31, 3) := by decide +kernel
theorem dX8_isGlobNow_63 : decode cX8_isGlobNow 63 = .ok (.aload_n 0, 1) := by decide +kernel
theorem dX8_isGlobNow_64 : decode cX8_isGlobNow 64 = .ok (.bipush 76, 2) := by decide +kernel
theorem dX8_isGlobNow_66 : decode cX8_isGlobNow 66 = .ok (.iload_n 2, 1) := by decide +kernel
theorem dX8_isGlobNow_67 : decode cX8_isGlobNow 67 = .ok (.iconst 2, 1) := by decide +kernel
theorem dX8_isGlobNow_68 : decode cX8_isGlobNow 68 = .ok (.isub, 1) := by decide +kernel
theorem dX8_isGlobNow_69 : decode cX8_isGlobNow 69 = .ok (.invokevirtual 81, 3) := by decide +kernel
theorem dX8_isGlobNow_72 : decode cX8_isGlobNow 72 = .ok (.bipush 47, 2) := by decide +kernel
theorem dX8_isGlobNow_74 : decode cX8_isGlobNow 74 = .ok (.if_icmp .ne 21, 3) := by decide +kernel
theorem dX8_isGlobNow_77 : decode cX8_isGlobNow 77 = .ok (.aload_n 0, 1) := by decide +kernel
theorem dX8_isGlobNow_78 : decode cX8_isGlobNow 78 = .ok (.bipush 76, 2) := by decide +kernel
theorem dX8_isGlobNow_80 : decode cX8_isGlobNow 80 = .ok (.iload_n 2, 1) := by decide +kernel
theorem dX8_isGlobNow_81 : decode cX8_isGlobNow 81 = .ok (.iconst 1, 1) := by decide +kernel
theorem dX8_isGlobNow_82 : decode cX8_isGlobNow 82 = .ok (.iadd, 1) := by decide +kernel
theorem dX8_isGlobNow_83 : decode cX8_isGlobNow 83 = .ok (.invokevirtual 81, 3) := by decide +kernel
theorem dX8_isGlobNow_86 : decode cX8_isGlobNow 86 = .ok (.bipush 47, 2) := by decide +kernel
theorem dX8_isGlobNow_88 : decode cX8_isGlobNow 88 = .ok (.if_icmp .ne 7, 3) := by decide +kernel
theorem dX8_isGlobNow_91 : decode cX8_isGlobNow 91 = .ok (.iconst 1, 1) := by decide +kernel
theorem dX8_isGlobNow_92 : decode cX8_isGlobNow 92 = .ok (.goto 4, 3) := by decide +kernel
theorem dX8_isGlobNow_95 : decode cX8_isGlobNow 95 = .ok (.iconst 0, 1) := by decide +kernel
theorem dX8_isGlobNow_96 : decode cX8_isGlobNow 96 = .ok (.iand, 1) := by decide +kernel
theorem dX8_isGlobNow_97 : decode cX8_isGlobNow 97 = .ok (.istore_n 1, 1) := by decide +kernel
theorem dX8_isGlobNow_98 : decode cX8_isGlobNow 98 = .ok (.iinc 2 1, 3) := by decide +kernel
theorem dX8_isGlobNow_101 : decode cX8_isGlobNow 101 = .ok (.goto (-86), 3) := by decide +kernel
theorem dX8_isGlobNow_104 : decode cX8_isGlobNow 104 = .ok (.iload_n 1, 1) := by decide +kernel
theorem dX8_isGlobNow_105 : decode cX8_isGlobNow 105 = .ok (.ireturn, 1) := by decide +kernel
theorem dX8_isPath_0 : decode cX8_isPath 0 = .ok (.aload_n 0, 1) := by decide +kernel
theorem dX8_isPath_1 : decode cX8_isPath 1 = .ok (.iconst 0, 1) := by decide +kernel
theorem dX8_isPath_2 : decode cX8_isPath 2 = .ok (.putfield 77, 3) := by decide +kernel
theorem dX8_isPath_5 : decode cX8_isPath 5 = .ok (.aload_n 0, 1) := by decide +kernel
theorem dX8_isPath_6 : decode cX8_isPath 6 = .ok (.invokevirtual 89, 3) := by decide +kernel
theorem dX8_isPath_9 : decode cX8_isPath 9 = .ok (.ireturn, 1) := by decide +kernel
theorem dX8_isGlob_0 : decode cX8_isGlob 0 = .ok (.aload_n 0, 1) := by decide +kernel
theorem dX8_isGlob_1 : decode cX8_isGlob 1 = .ok (.iconst 0, 1) := by decide +kernel
theorem dX8_isGlob_2 : decode cX8_isGlob 2 = .ok (.putfield 77, 3) := by decide +kernel
theorem dX8_isGlob_5 : decode cX8_isGlob 5 = .ok (.aload_n 0, 1) := by decide +kernel
theorem dX8_isGlob_6 : decode cX8_isGlob 6 = .ok (.invokevirtual 92, 3) := by decide +kernel
theorem dX8_isGlob_9 : decode cX8_isGlob 9 = .ok (.ireturn, 1) := by decide +kernel
theorem dX8_pathAt_0 : decode cX8_pathAt 0 = .ok (.iload_n 2, 1) := by decide +kernel
theorem dX8_pathAt_1 : decode cX8_pathAt 1 = .ok (.ifCond .lt 13, 3) := by decide +kernel
theorem dX8_pathAt_4 : decode cX8_pathAt 4 = .ok (.iload_n 2, 1) := by decide +kernel
theorem dX8_pathAt_5 : decode cX8_pathAt 5 = .ok (.aload_n 0, 1) := by decide +kernel
theorem dX8_pathAt_6 : decode cX8_pathAt 6 = .ok (.getfield 19, 3) := by decide +kernel
theorem dX8_pathAt_9 : decode cX8_pathAt 9 = .ok (.iload_n 1, 1) := by decide +kernel
theorem dX8_pathAt_10 : decode cX8_pathAt 10 = .ok (.iaload, 1) := by decide +kernel
theorem dX8_pathAt_11 : decode cX8_pathAt 11 = .ok (.if_icmp .lt 8, 3) := by decide +kernel
theorem dX8_pathAt_14 : decode cX8_pathAt 14 = .ok (.bipush 47, 2) := by decide +kernel
theorem dX8_pathAt_16 : decode cX8_pathAt 16 = .ok (.goto 14, 3) := by decide +kernel
theorem dX8_pathAt_19 : decode cX8_pathAt 19 = .ok (.aload_n 0, 1) := by decide +kernel
theorem dX8_pathAt_20 : decode cX8_pathAt 20 = .ok (.getfield 16, 3) := by decide +kernel
theorem dX8_pathAt_23 : decode cX8_pathAt 23 = .ok (.bipush 24, 2) := by decide +kernel
theorem dX8_pathAt_25 : decode cX8_pathAt 25 = .ok (.iload_n 1, 1) := by decide +kernel
theorem dX8_pathAt_26 : decode cX8_pathAt 26 = .ok (.imul, 1) := by decide +kernel
theorem dX8_pathAt_27 : decode cX8_pathAt 27 = .ok (.iload_n 2, 1) := by decide +kernel
theorem dX8_pathAt_28 : decode cX8_pathAt 28 = .ok (.iadd, 1) := by decide +kernel
theorem dX8_pathAt_29 : decode cX8_pathAt 29 = .ok (.iaload, 1) := by decide +kernel
theorem dX8_pathAt_30 : decode cX8_pathAt 30 = .ok (.ireturn, 1) := by decide +kernel
theorem dX8_isLaid_0 : decode cX8_isLaid 0 = .ok (.iconst 1, 1) := by decide +kernel
theorem dX8_isLaid_1 : decode cX8_isLaid 1 = .ok (.istore 7, 2) := by decide +kernel
theorem dX8_isLaid_3 : decode cX8_isLaid 3 = .ok (.iconst 1, 1) := by decide +kernel
theorem dX8_isLaid_4 : decode cX8_isLaid 4 = .ok (.iload 6, 2) := by decide +kernel
theorem dX8_isLaid_6 : decode cX8_isLaid 6 = .ok (.iload 5, 2) := by decide +kernel
theorem dX8_isLaid_8 : decode cX8_isLaid 8 = .ok (.isub, 1) := by decide +kernel
theorem dX8_isLaid_9 : decode cX8_isLaid 9 = .ok (.iconst 1, 1) := by decide +kernel
theorem dX8_isLaid_10 : decode cX8_isLaid 10 = .ok (.iadd, 1) := by decide +kernel
theorem dX8_isLaid_11 : decode cX8_isLaid 11 = .ok (.ishl, 1) := by decide +kernel
theorem dX8_isLaid_12 : decode cX8_isLaid 12 = .ok (.iconst 1, 1) := by decide +kernel
theorem dX8_isLaid_13 : decode cX8_isLaid 13 = .ok (.isub, 1) := by decide +kernel
theorem dX8_isLaid_14 : decode cX8_isLaid 14 = .ok (.istore 8, 2) := by decide +kernel
theorem dX8_isLaid_16 : decode cX8_isLaid 16 = .ok (.iload_n 2, 1) := by decide +kernel
theorem dX8_isLaid_17 : decode cX8_isLaid 17 = .ok (.istore 9, 2) := by decide +kernel
theorem dX8_isLaid_19 : decode cX8_isLaid 19 = .ok (.iload 9, 2) := by decide +kernel
theorem dX8_isLaid_21 : decode cX8_isLaid 21 = .ok (.iload_n 3, 1) := by decide +kernel
theorem dX8_isLaid_22 : decode cX8_isLaid 22 = .ok (.if_icmp .ge 134, 3) := by decide +kernel
theorem dX8_isLaid_25 : decode cX8_isLaid 25 = .ok (.aload_n 0, 1) := by decide +kernel
theorem dX8_isLaid_26 : decode cX8_isLaid 26 = .ok (.iload_n 1, 1) := by decide +kernel
theorem dX8_isLaid_27 : decode cX8_isLaid 27 = .ok (.iload 9, 2) := by decide +kernel
theorem dX8_isLaid_29 : decode cX8_isLaid 29 = .ok (.invokevirtual 81, 3) := by decide +kernel
theorem dX8_isLaid_32 : decode cX8_isLaid 32 = .ok (.istore 10, 2) := by decide +kernel
theorem dX8_isLaid_34 : decode cX8_isLaid 34 = .ok (.iconst 0, 1) := by decide +kernel
theorem dX8_isLaid_35 : decode cX8_isLaid 35 = .ok (.istore 11, 2) := by decide +kernel
theorem dX8_isLaid_37 : decode cX8_isLaid 37 = .ok (.iconst 0, 1) := by decide +kernel
theorem dX8_isLaid_38 : decode cX8_isLaid 38 = .ok (.istore 12, 2) := by decide +kernel
theorem dX8_isLaid_40 : decode cX8_isLaid 40 = .ok (.iload 12, 2) := by decide +kernel
theorem dX8_isLaid_42 : decode cX8_isLaid 42 = .ok (.iload 6, 2) := by decide +kernel
theorem dX8_isLaid_44 : decode cX8_isLaid 44 = .ok (.iload 5, 2) := by decide +kernel
theorem dX8_isLaid_46 : decode cX8_isLaid 46 = .ok (.isub, 1) := by decide +kernel
theorem dX8_isLaid_47 : decode cX8_isLaid 47 = .ok (.if_icmp .gt 99, 3) := by decide +kernel
theorem dX8_isLaid_50 : decode cX8_isLaid 50 = .ok (.iload 7, 2) := by decide +kernel
theorem dX8_isLaid_52 : decode cX8_isLaid 52 = .ok (.iload 12, 2) := by decide +kernel
theorem dX8_isLaid_54 : decode cX8_isLaid 54 = .ok (.ishr, 1) := by decide +kernel
theorem dX8_isLaid_55 : decode cX8_isLaid 55 = .ok (.iconst 1, 1) := by decide +kernel
theorem dX8_isLaid_56 : decode cX8_isLaid 56 = .ok (.iand, 1) := by decide +kernel
theorem dX8_isLaid_57 : decode cX8_isLaid 57 = .ok (.iconst 1, 1) := by decide +kernel
theorem dX8_isLaid_58 : decode cX8_isLaid 58 = .ok (.if_icmp .ne 82, 3) := by decide +kernel
theorem dX8_isLaid_61 : decode cX8_isLaid 61 = .ok (.iload 12, 2) := by decide +kernel
theorem dX8_isLaid_63 : decode cX8_isLaid 63 = .ok (.iload 6, 2) := by decide +kernel
theorem dX8_isLaid_65 : decode cX8_isLaid 65 = .ok (.iload 5, 2) := by decide +kernel
theorem dX8_isLaid_67 : decode cX8_isLaid 67 = .ok (.isub, 1) := by decide +kernel
theorem dX8_isLaid_68 : decode cX8_isLaid 68 = .ok (.if_icmp .ge 30, 3) := by decide +kernel
theorem dX8_isLaid_71 : decode cX8_isLaid 71 = .ok (.iload 10, 2) := by decide +kernel
theorem dX8_isLaid_73 : decode cX8_isLaid 73 = .ok (.bipush 63, 2) := by decide +kernel
theorem dX8_isLaid_75 : decode cX8_isLaid 75 = .ok (.if_icmp .eq 19, 3) := by decide +kernel
theorem dX8_isLaid_78 : decode cX8_isLaid 78 = .ok (.iload 10, 2) := by decide +kernel
theorem dX8_isLaid_80 : decode cX8_isLaid 80 = .ok (.aload_n 0, 1) := by decide +kernel
theorem dX8_isLaid_81 : decode cX8_isLaid 81 = .ok (.iload 4, 2) := by decide +kernel
theorem dX8_isLaid_83 : decode cX8_isLaid 83 = .ok (.iload 5, 2) := by decide +kernel
theorem dX8_isLaid_85 : decode cX8_isLaid 85 = .ok (.iload 12, 2) := by decide +kernel
theorem dX8_isLaid_87 : decode cX8_isLaid 87 = .ok (.iadd, 1) := by decide +kernel
theorem dX8_isLaid_88 : decode cX8_isLaid 88 = .ok (.invokevirtual 95, 3) := by decide +kernel
theorem dX8_isLaid_91 : decode cX8_isLaid 91 = .ok (.if_icmp .ne 7, 3) := by decide +kernel
theorem dX8_isLaid_94 : decode cX8_isLaid 94 = .ok (.iconst 1, 1) := by decide +kernel
theorem dX8_isLaid_95 : decode cX8_isLaid 95 = .ok (.goto 4, 3) := by decide +kernel
theorem dX8_isLaid_98 : decode cX8_isLaid 98 = .ok (.iconst 0, 1) := by decide +kernel
theorem dX8_isLaid_99 : decode cX8_isLaid 99 = .ok (.istore 13, 2) := by decide +kernel
theorem dX8_isLaid_101 : decode cX8_isLaid 101 = .ok (.iload 11, 2) := by decide +kernel
theorem dX8_isLaid_103 : decode cX8_isLaid 103 = .ok (.iload 10, 2) := by decide +kernel
theorem dX8_isLaid_105 : decode cX8_isLaid 105 = .ok (.bipush 42, 2) := by decide +kernel
theorem dX8_isLaid_107 : decode cX8_isLaid 107 = .ok (.if_icmp .ne 17, 3) := by decide +kernel
theorem dX8_isLaid_110 : decode cX8_isLaid 110 = .ok (.iload 8, 2) := by decide +kernel
theorem dX8_isLaid_112 : decode cX8_isLaid 112 = .ok (.iconst 1, 1) := by decide +kernel
theorem dX8_isLaid_113 : decode cX8_isLaid 113 = .ok (.iload 12, 2) := by decide +kernel
theorem dX8_isLaid_115 : decode cX8_isLaid 115 = .ok (.ishl, 1) := by decide +kernel
theorem dX8_isLaid_116 : decode cX8_isLaid 116 = .ok (.iconst 1, 1) := by decide +kernel
theorem dX8_isLaid_117 : decode cX8_isLaid 117 = .ok (.isub, 1) := by decide +kernel
theorem dX8_isLaid_118 : decode cX8_isLaid 118 = .ok (.iconst (-1), 1) := by decide +kernel
theorem dX8_isLaid_119 : decode cX8_isLaid 119 = .ok (.ixor, 1) := by decide +kernel
theorem dX8_isLaid_120 : decode cX8_isLaid 120 = .ok (.iand, 1) := by decide +kernel
theorem dX8_isLaid_121 : decode cX8_isLaid 121 = .ok (.goto 16, 3) := by decide +kernel
theorem dX8_isLaid_124 : decode cX8_isLaid 124 = .ok (.iload 13, 2) := by decide +kernel
theorem dX8_isLaid_126 : decode cX8_isLaid 126 = .ok (.ifCond .eq 10, 3) := by decide +kernel
theorem dX8_isLaid_129 : decode cX8_isLaid 129 = .ok (.iconst 2, 1) := by decide +kernel
theorem dX8_isLaid_130 : decode cX8_isLaid 130 = .ok (.iload 12, 2) := by decide +kernel
theorem dX8_isLaid_132 : decode cX8_isLaid 132 = .ok (.ishl, 1) := by decide +kernel
theorem dX8_isLaid_133 : decode cX8_isLaid 133 = .ok (.goto 4, 3) := by decide +kernel
theorem dX8_isLaid_136 : decode cX8_isLaid 136 = .ok (.iconst 0, 1) := by decide +kernel
theorem dX8_isLaid_137 : decode cX8_isLaid 137 = .ok (.ior, 1) := by decide +kernel
theorem dX8_isLaid_138 : decode cX8_isLaid 138 = .ok (.istore 11, 2) := by decide +kernel
theorem dX8_isLaid_140 : decode cX8_isLaid 140 = .ok (.iinc 12 1, 3) := by decide +kernel
theorem dX8_isLaid_143 : decode cX8_isLaid 143 = .ok (.goto (-103), 3) := by decide +kernel
theorem dX8_isLaid_146 : decode cX8_isLaid 146 = .ok (.iload 11, 2) := by decide +kernel
theorem dX8_isLaid_148 : decode cX8_isLaid 148 = .ok (.istore 7, 2) := by decide +kernel
theorem dX8_isLaid_150 : decode cX8_isLaid 150 = .ok (.iinc 9 1, 3) := by decide +kernel
theorem dX8_isLaid_153 : decode cX8_isLaid 153 = .ok (.goto (-134), 3) := by decide +kernel
theorem dX8_isLaid_156 : decode cX8_isLaid 156 = .ok (.iload 7, 2) := by decide +kernel
theorem dX8_isLaid_158 : decode cX8_isLaid 158 = .ok (.iload 6, 2) := by decide +kernel
theorem dX8_isLaid_160 : decode cX8_isLaid 160 = .ok (.iload 5, 2) := by decide +kernel
theorem dX8_isLaid_162 : decode cX8_isLaid 162 = .ok (.isub, 1) := by decide +kernel
theorem dX8_isLaid_163 : decode cX8_isLaid 163 = .ok (.ishr, 1) := by decide +kernel
theorem dX8_isLaid_164 : decode cX8_isLaid 164 = .ok (.iconst 1, 1) := by decide +kernel
theorem dX8_isLaid_165 : decode cX8_isLaid 165 = .ok (.iand, 1) := by decide +kernel
theorem dX8_isLaid_166 : decode cX8_isLaid 166 = .ok (.iconst 1, 1) := by decide +kernel
theorem dX8_isLaid_167 : decode cX8_isLaid 167 = .ok (.if_icmp .ne 7, 3) := by decide +kernel
theorem dX8_isLaid_170 : decode cX8_isLaid 170 = .ok (.iconst 1, 1) := by decide +kernel
theorem dX8_isLaid_171 : decode cX8_isLaid 171 = .ok (.goto 4, 3) := by decide +kernel
theorem dX8_isLaid_174 : decode cX8_isLaid 174 = .ok (.iconst 0, 1) := by decide +kernel
theorem dX8_isLaid_175 : decode cX8_isLaid 175 = .ok (.ireturn, 1) := by decide +kernel
theorem dX8_endOf_0 : decode cX8_endOf 0 = .ok (.iload_n 2, 1) := by decide +kernel
theorem dX8_endOf_1 : decode cX8_endOf 1 = .ok (.istore_n 3, 1) := by decide +kernel
theorem dX8_endOf_2 : decode cX8_endOf 2 = .ok (.aload_n 0, 1) := by decide +kernel
theorem dX8_endOf_3 : decode cX8_endOf 3 = .ok (.iload_n 1, 1) := by decide +kernel
theorem dX8_endOf_4 : decode cX8_endOf 4 = .ok (.iload_n 3, 1) := by decide +kernel
theorem dX8_endOf_5 : decode cX8_endOf 5 = .ok (.invokevirtual 95, 3) := by decide +kernel
theorem dX8_endOf_8 : decode cX8_endOf 8 = .ok (.bipush 47, 2) := by decide +kernel
theorem dX8_endOf_10 : decode cX8_endOf 10 = .ok (.if_icmp .eq 9, 3) := by decide +kernel
theorem dX8_endOf_13 : decode cX8_endOf 13 = .ok (.iinc 3 1, 3) := by decide +kernel
theorem dX8_endOf_16 : decode cX8_endOf 16 = .ok (.goto (-14), 3) := by decide +kernel
theorem dX8_endOf_19 : decode cX8_endOf 19 = .ok (.iload_n 3, 1) := by decide +kernel
theorem dX8_endOf_20 : decode cX8_endOf 20 = .ok (.ireturn, 1) := by decide +kernel
theorem dX8_begins_0 : decode cX8_begins 0 = .ok (.iconst 0, 1) := by decide +kernel
theorem dX8_begins_1 : decode cX8_begins 1 = .ok (.istore_n 3, 1) := by decide +kernel
theorem dX8_begins_2 : decode cX8_begins 2 = .ok (.iload_n 2, 1) := by decide +kernel
theorem dX8_begins_3 : decode cX8_begins 3 = .ok (.istore 4, 2) := by decide +kernel
theorem dX8_begins_5 : decode cX8_begins 5 = .ok (.iload 4, 2) := by decide +kernel
theorem dX8_begins_7 : decode cX8_begins 7 = .ok (.aload_n 0, 1) := by decide +kernel
theorem dX8_begins_8 : decode cX8_begins 8 = .ok (.getfield 19, 3) := by decide +kernel
theorem dX8_begins_11 : decode cX8_begins 11 = .ok (.iload_n 1, 1) := by decide +kernel
theorem dX8_begins_12 : decode cX8_begins 12 = .ok (.iaload, 1) := by decide +kernel
theorem dX8_begins_13 : decode cX8_begins 13 = .ok (.iconst 1, 1) := by decide +kernel
theorem dX8_begins_14 : decode cX8_begins 14 = .ok (.iadd, 1) := by decide +kernel
theorem dX8_begins_15 : decode cX8_begins 15 = .ok (.if_icmp .gt 58, 3) := by decide +kernel
theorem dX8_begins_18 : decode cX8_begins 18 = .ok (.iload_n 3, 1) := by decide +kernel
theorem dX8_begins_19 : decode cX8_begins 19 = .ok (.iload 4, 2) := by decide +kernel
theorem dX8_begins_21 : decode cX8_begins 21 = .ok (.aload_n 0, 1) := by decide +kernel
theorem dX8_begins_22 : decode cX8_begins 22 = .ok (.getfield 19, 3) := by decide +kernel
theorem dX8_begins_25 : decode cX8_begins 25 = .ok (.iload_n 1, 1) := by decide +kernel
theorem dX8_begins_26 : decode cX8_begins 26 = .ok (.iaload, 1) := by decide +kernel
theorem dX8_begins_27 : decode cX8_begins 27 = .ok (.iconst 1, 1) := by decide +kernel
theorem dX8_begins_28 : decode cX8_begins 28 = .ok (.iadd, 1) := by decide +kernel
theorem dX8_begins_29 : decode cX8_begins 29 = .ok (.if_icmp .eq 28, 3) := by decide +kernel
theorem dX8_begins_32 : decode cX8_begins 32 = .ok (.aload_n 0, 1) := by decide +kernel
theorem dX8_begins_33 : decode cX8_begins 33 = .ok (.iload_n 1, 1) := by decide +kernel
theorem dX8_begins_34 : decode cX8_begins 34 = .ok (.iload 4, 2) := by decide +kernel
theorem dX8_begins_36 : decode cX8_begins 36 = .ok (.iconst 1, 1) := by decide +kernel
theorem dX8_begins_37 : decode cX8_begins 37 = .ok (.isub, 1) := by decide +kernel
theorem dX8_begins_38 : decode cX8_begins 38 = .ok (.invokevirtual 95, 3) := by decide +kernel
theorem dX8_begins_41 : decode cX8_begins 41 = .ok (.bipush 47, 2) := by decide +kernel
theorem dX8_begins_43 : decode cX8_begins 43 = .ok (.if_icmp .ne 21, 3) := by decide +kernel
theorem dX8_begins_46 : decode cX8_begins 46 = .ok (.iload 4, 2) := by decide +kernel
theorem dX8_begins_48 : decode cX8_begins 48 = .ok (.aload_n 0, 1) := by decide +kernel
theorem dX8_begins_49 : decode cX8_begins 49 = .ok (.getfield 19, 3) := by decide +kernel
theorem dX8_begins_52 : decode cX8_begins 52 = .ok (.iload_n 1, 1) := by decide +kernel
theorem dX8_begins_53 : decode cX8_begins 53 = .ok (.iaload, 1) := by decide +kernel
theorem dX8_begins_54 : decode cX8_begins 54 = .ok (.if_icmp .ge 10, 3) := by decide +kernel
theorem dX8_begins_57 : decode cX8_begins 57 = .ok (.iconst 1, 1) := by decide +kernel
theorem dX8_begins_58 : decode cX8_begins 58 = .ok (.iload 4, 2) := by decide +kernel
theorem dX8_begins_60 : decode cX8_begins 60 = .ok (.ishl, 1) := by decide +kernel
theorem dX8_begins_61 : decode cX8_begins 61 = .ok (.goto 4, 3) := by decide +kernel
theorem dX8_begins_64 : decode cX8_begins 64 = .ok (.iconst 0, 1) := by decide +kernel
theorem dX8_begins_65 : decode cX8_begins 65 = .ok (.ior, 1) := by decide +kernel
theorem dX8_begins_66 : decode cX8_begins 66 = .ok (.istore_n 3, 1) := by decide +kernel
theorem dX8_begins_67 : decode cX8_begins 67 = .ok (.iinc 4 1, 3) := by decide +kernel
theorem dX8_begins_70 : decode cX8_begins 70 = .ok (.goto (-65), 3) := by decide +kernel
theorem dX8_begins_73 : decode cX8_begins 73 = .ok (.iload_n 3, 1) := by decide +kernel
theorem dX8_begins_74 : decode cX8_begins 74 = .ok (.ireturn, 1) := by decide +kernel
theorem dX8_isMatched_0 : decode cX8_isMatched 0 = .ok (.iconst 1, 1) := by decide +kernel
theorem dX8_isMatched_1 : decode cX8_isMatched 1 = .ok (.istore_n 3, 1) := by decide +kernel
theorem dX8_isMatched_2 : decode cX8_isMatched 2 = .ok (.iconst 0, 1) := by decide +kernel
theorem dX8_isMatched_3 : decode cX8_isMatched 3 = .ok (.istore 4, 2) := by decide +kernel
theorem dX8_isMatched_5 : decode cX8_isMatched 5 = .ok (.iload 4, 2) := by decide +kernel
theorem dX8_isMatched_7 : decode cX8_isMatched 7 = .ok (.aload_n 0, 1) := by decide +kernel
theorem dX8_isMatched_8 : decode cX8_isMatched 8 = .ok (.getfield 13, 3) := by decide +kernel
theorem dX8_isMatched_11 : decode cX8_isMatched 11 = .ok (.iload_n 1, 1) := by decide +kernel
theorem dX8_isMatched_12 : decode cX8_isMatched 12 = .ok (.iaload, 1) := by decide +kernel
theorem dX8_isMatched_13 : decode cX8_isMatched 13 = .ok (.if_icmp .gt 207, 3) := by decide +kernel
theorem dX8_isMatched_16 : decode cX8_isMatched 16 = .ok (.iload 4, 2) := by decide +kernel
theorem dX8_isMatched_18 : decode cX8_isMatched 18 = .ok (.istore 5, 2) := by decide +kernel
theorem dX8_isMatched_20 : decode cX8_isMatched 20 = .ok (.aload_n 0, 1) := by decide +kernel
theorem dX8_isMatched_21 : decode cX8_isMatched 21 = .ok (.iload_n 1, 1) := by decide +kernel
theorem dX8_isMatched_22 : decode cX8_isMatched 22 = .ok (.iload 5, 2) := by decide +kernel
theorem dX8_isMatched_24 : decode cX8_isMatched 24 = .ok (.invokevirtual 81, 3) := by decide +kernel
theorem dX8_isMatched_27 : decode cX8_isMatched 27 = .ok (.bipush 47, 2) := by decide +kernel
theorem dX8_isMatched_29 : decode cX8_isMatched 29 = .ok (.if_icmp .eq 9, 3) := by decide +kernel
theorem dX8_isMatched_32 : decode cX8_isMatched 32 = .ok (.iinc 5 1, 3) := by decide +kernel
theorem dX8_isMatched_35 : decode cX8_isMatched 35 = .ok (.goto (-15), 3) := by decide +kernel
theorem dX8_isMatched_38 : decode cX8_isMatched 38 = .ok (.iload 5, 2) := by decide +kernel
theorem dX8_isMatched_40 : decode cX8_isMatched 40 = .ok (.iload 4, 2) := by decide +kernel
theorem dX8_isMatched_42 : decode cX8_isMatched 42 = .ok (.isub, 1) := by decide +kernel
theorem dX8_isMatched_43 : decode cX8_isMatched 43 = .ok (.iconst 2, 1) := by decide +kernel
theorem dX8_isMatched_44 : decode cX8_isMatched 44 = .ok (.if_icmp .ne 33, 3) := by decide +kernel
theorem dX8_isMatched_47 : decode cX8_isMatched 47 = .ok (.aload_n 0, 1) := by decide +kernel
theorem dX8_isMatched_48 : decode cX8_isMatched 48 = .ok (.iload_n 1, 1) := by decide +kernel
theorem dX8_isMatched_49 : decode cX8_isMatched 49 = .ok (.iload 4, 2) := by decide +kernel
theorem dX8_isMatched_51 : decode cX8_isMatched 51 = .ok (.invokevirtual 81, 3) := by decide +kernel
theorem dX8_isMatched_54 : decode cX8_isMatched 54 = .ok (.bipush 42, 2) := by decide +kernel
theorem dX8_isMatched_56 : decode cX8_isMatched 56 = .ok (.if_icmp .ne 21, 3) := by decide +kernel
theorem dX8_isMatched_59 : decode cX8_isMatched 59 = .ok (.aload_n 0, 1) := by decide +kernel
theorem dX8_isMatched_60 : decode cX8_isMatched 60 = .ok (.iload_n 1, 1) := by decide +kernel
theorem dX8_isMatched_61 : decode cX8_isMatched 61 = .ok (.iload 4, 2) := by decide +kernel
theorem dX8_isMatched_63 : decode cX8_isMatched 63 = .ok (.iconst 1, 1) := by decide +kernel
theorem dX8_isMatched_64 : decode cX8_isMatched 64 = .ok (.iadd, 1) := by decide +kernel
theorem dX8_isMatched_65 : decode cX8_isMatched 65 = .ok (.invokevirtual 81, 3) := by decide +kernel
theorem dX8_isMatched_68 : decode cX8_isMatched 68 = .ok (.bipush 42, 2) := by decide +kernel
theorem dX8_isMatched_70 : decode cX8_isMatched 70 = .ok (.if_icmp .ne 7, 3) := by decide +kernel
theorem dX8_isMatched_73 : decode cX8_isMatched 73 = .ok (.iconst 1, 1) := by decide +kernel
theorem dX8_isMatched_74 : decode cX8_isMatched 74 = .ok (.goto 4, 3) := by decide +kernel
theorem dX8_isMatched_77 : decode cX8_isMatched 77 = .ok (.iconst 0, 1) := by decide +kernel
theorem dX8_isMatched_78 : decode cX8_isMatched 78 = .ok (.istore 6, 2) := by decide +kernel
theorem dX8_isMatched_80 : decode cX8_isMatched 80 = .ok (.iconst 0, 1) := by decide +kernel
theorem dX8_isMatched_81 : decode cX8_isMatched 81 = .ok (.istore 7, 2) := by decide +kernel
theorem dX8_isMatched_83 : decode cX8_isMatched 83 = .ok (.iconst 0, 1) := by decide +kernel
theorem dX8_isMatched_84 : decode cX8_isMatched 84 = .ok (.istore 8, 2) := by decide +kernel
theorem dX8_isMatched_86 : decode cX8_isMatched 86 = .ok (.iload 8, 2) := by decide +kernel
theorem dX8_isMatched_88 : decode cX8_isMatched 88 = .ok (.aload_n 0, 1) := by decide +kernel
theorem dX8_isMatched_89 : decode cX8_isMatched 89 = .ok (.getfield 19, 3) := by decide +kernel
theorem dX8_isMatched_92 : decode cX8_isMatched 92 = .ok (.iload_n 2, 1) := by decide +kernel
theorem dX8_isMatched_93 : decode cX8_isMatched 93 = .ok (.iaload, 1) := by decide +kernel
theorem dX8_isMatched_94 : decode cX8_isMatched 94 = .ok (.iconst 1, 1) := by decide +kernel
theorem dX8_isMatched_95 : decode cX8_isMatched 95 = .ok (.iadd, 1) := by decide +kernel
theorem dX8_isMatched_96 : decode cX8_isMatched 96 = .ok (.if_icmp .gt 112, 3) := by decide +kernel
theorem dX8_isMatched_99 : decode cX8_isMatched 99 = .ok (.iload_n 3, 1) := by decide +kernel
theorem dX8_isMatched_100 : decode cX8_isMatched 100 = .ok (.iload 8, 2) := by decide +kernel
theorem dX8_isMatched_102 : decode cX8_isMatched 102 = .ok (.ishr, 1) := by decide +kernel
theorem dX8_isMatched_103 : decode cX8_isMatched 103 = .ok (.iconst 1, 1) := by decide +kernel
theorem dX8_isMatched_104 : decode cX8_isMatched 104 = .ok (.iand, 1) := by decide +kernel
theorem dX8_isMatched_105 : decode cX8_isMatched 105 = .ok (.iconst 1, 1) := by decide +kernel
theorem dX8_isMatched_106 : decode cX8_isMatched 106 = .ok (.if_icmp .ne 96, 3) := by decide +kernel
theorem dX8_isMatched_109 : decode cX8_isMatched 109 = .ok (.iload 8, 2) := by decide +kernel
theorem dX8_isMatched_111 : decode cX8_isMatched 111 = .ok (.aload_n 0, 1) := by decide +kernel
theorem dX8_isMatched_112 : decode cX8_isMatched 112 = .ok (.getfield 19, 3) := by decide +kernel
theorem dX8_isMatched_115 : decode cX8_isMatched 115 = .ok (.iload_n 2, 1) := by decide +kernel
theorem dX8_isMatched_116 : decode cX8_isMatched 116 = .ok (.iaload, 1) := by decide +kernel
theorem dX8_isMatched_117 : decode cX8_isMatched 117 = .ok (.if_icmp .le 8, 3) := by decide +kernel
theorem dX8_isMatched_120 : decode cX8_isMatched 120 = .ok (.iload 8, 2) := by decide +kernel
theorem dX8_isMatched_122 : decode cX8_isMatched 122 = .ok (.goto 10, 3) := by decide +kernel
theorem dX8_isMatched_125 : decode cX8_isMatched 125 = .ok (.aload_n 0, 1) := by decide +kernel
theorem dX8_isMatched_126 : decode cX8_isMatched 126 = .ok (.iload_n 2, 1) := by decide +kernel
theorem dX8_isMatched_127 : decode cX8_isMatched 127 = .ok (.iload 8, 2) := by decide +kernel
theorem dX8_isMatched_129 : decode cX8_isMatched 129 = .ok (.invokevirtual 98, 3) := by decide +kernel
theorem dX8_isMatched_132 : decode cX8_isMatched 132 = .ok (.istore 9, 2) := by decide +kernel
theorem dX8_isMatched_134 : decode cX8_isMatched 134 = .ok (.iload 8, 2) := by decide +kernel
theorem dX8_isMatched_136 : decode cX8_isMatched 136 = .ok (.aload_n 0, 1) := by decide +kernel
theorem dX8_isMatched_137 : decode cX8_isMatched 137 = .ok (.getfield 19, 3) := by decide +kernel
theorem dX8_isMatched_140 : decode cX8_isMatched 140 = .ok (.iload_n 2, 1) := by decide +kernel
theorem dX8_isMatched_141 : decode cX8_isMatched 141 = .ok (.iaload, 1) := by decide +kernel
theorem dX8_isMatched_142 : decode cX8_isMatched 142 = .ok (.if_icmp .gt 24, 3) := by decide +kernel
theorem dX8_isMatched_145 : decode cX8_isMatched 145 = .ok (.aload_n 0, 1) := by decide +kernel
theorem dX8_isMatched_146 : decode cX8_isMatched 146 = .ok (.iload_n 1, 1) := by decide +kernel
theorem dX8_isMatched_147 : decode cX8_isMatched 147 = .ok (.iload 4, 2) := by decide +kernel
theorem dX8_isMatched_149 : decode cX8_isMatched 149 = .ok (.iload 5, 2) := by decide +kernel
theorem dX8_isMatched_151 : decode cX8_isMatched 151 = .ok (.iload_n 2, 1) := by decide +kernel
theorem dX8_isMatched_152 : decode cX8_isMatched 152 = .ok (.iload 8, 2) := by decide +kernel
theorem dX8_isMatched_154 : decode cX8_isMatched 154 = .ok (.iload 9, 2) := by decide +kernel
theorem dX8_isMatched_156 : decode cX8_isMatched 156 = .ok (.invokevirtual 101, 3) := by decide +kernel
theorem dX8_isMatched_159 : decode cX8_isMatched 159 = .ok (.ifCond .eq 7, 3) := by decide +kernel
theorem dX8_isMatched_162 : decode cX8_isMatched 162 = .ok (.iconst 1, 1) := by decide +kernel
theorem dX8_isMatched_163 : decode cX8_isMatched 163 = .ok (.goto 4, 3) := by decide +kernel
theorem dX8_isMatched_166 : decode cX8_isMatched 166 = .ok (.iconst 0, 1) := by decide +kernel
theorem dX8_isMatched_167 : decode cX8_isMatched 167 = .ok (.istore 10, 2) := by decide +kernel
theorem dX8_isMatched_169 : decode cX8_isMatched 169 = .ok (.iload 7, 2) := by decide +kernel
theorem dX8_isMatched_171 : decode cX8_isMatched 171 = .ok (.iload 6, 2) := by decide +kernel
theorem dX8_isMatched_173 : decode cX8_isMatched 173 = .ok (.ifCond .eq 13, 3) := by decide +kernel
theorem dX8_isMatched_176 : decode cX8_isMatched 176 = .ok (.aload_n 0, 1) := by decide +kernel
theorem dX8_isMatched_177 : decode cX8_isMatched 177 = .ok (.iload_n 2, 1) := by decide +kernel
theorem dX8_isMatched_178 : decode cX8_isMatched 178 = .ok (.iload 8, 2) := by decide +kernel
theorem dX8_isMatched_180 : decode cX8_isMatched 180 = .ok (.invokevirtual 105, 3) := by decide +kernel
theorem dX8_isMatched_183 : decode cX8_isMatched 183 = .ok (.goto 16, 3) := by decide +kernel
theorem dX8_isMatched_186 : decode cX8_isMatched 186 = .ok (.iload 10, 2) := by decide +kernel
theorem dX8_isMatched_188 : decode cX8_isMatched 188 = .ok (.ifCond .eq 10, 3) := by decide +kernel
theorem dX8_isMatched_191 : decode cX8_isMatched 191 = .ok (.iconst 2, 1) := by decide +kernel
theorem dX8_isMatched_192 : decode cX8_isMatched 192 = .ok (.iload 9, 2) := by decide +kernel
theorem dX8_isMatched_194 : decode cX8_isMatched 194 = .ok (.ishl, 1) := by decide +kernel
theorem dX8_isMatched_195 : decode cX8_isMatched 195 = .ok (.goto 4, 3) := by decide +kernel
theorem dX8_isMatched_198 : decode cX8_isMatched 198 = .ok (.iconst 0, 1) := by decide +kernel
theorem dX8_isMatched_199 : decode cX8_isMatched 199 = .ok (.ior, 1) := by decide +kernel
theorem dX8_isMatched_200 : decode cX8_isMatched 200 = .ok (.istore 7, 2) := by decide +kernel
theorem dX8_isMatched_202 : decode cX8_isMatched 202 = .ok (.iinc 8 1, 3) := by decide +kernel
theorem dX8_isMatched_205 : decode cX8_isMatched 205 = .ok (.goto (-119), 3) := by decide +kernel
theorem dX8_isMatched_208 : decode cX8_isMatched 208 = .ok (.iload 7, 2) := by decide +kernel
theorem dX8_isMatched_210 : decode cX8_isMatched 210 = .ok (.istore_n 3, 1) := by decide +kernel
theorem dX8_isMatched_211 : decode cX8_isMatched 211 = .ok (.iload 5, 2) := by decide +kernel
theorem dX8_isMatched_213 : decode cX8_isMatched 213 = .ok (.iconst 1, 1) := by decide +kernel
theorem dX8_isMatched_214 : decode cX8_isMatched 214 = .ok (.iadd, 1) := by decide +kernel
theorem dX8_isMatched_215 : decode cX8_isMatched 215 = .ok (.istore 4, 2) := by decide +kernel
theorem dX8_isMatched_217 : decode cX8_isMatched 217 = .ok (.goto (-212), 3) := by decide +kernel
theorem dX8_isMatched_220 : decode cX8_isMatched 220 = .ok (.iload_n 3, 1) := by decide +kernel
theorem dX8_isMatched_221 : decode cX8_isMatched 221 = .ok (.aload_n 0, 1) := by decide +kernel
theorem dX8_isMatched_222 : decode cX8_isMatched 222 = .ok (.getfield 19, 3) := by decide +kernel
theorem dX8_isMatched_225 : decode cX8_isMatched 225 = .ok (.iload_n 2, 1) := by decide +kernel
theorem dX8_isMatched_226 : decode cX8_isMatched 226 = .ok (.iaload, 1) := by decide +kernel
theorem dX8_isMatched_227 : decode cX8_isMatched 227 = .ok (.iconst 1, 1) := by decide +kernel
theorem dX8_isMatched_228 : decode cX8_isMatched 228 = .ok (.iadd, 1) := by decide +kernel
theorem dX8_isMatched_229 : decode cX8_isMatched 229 = .ok (.ishr, 1) := by decide +kernel
theorem dX8_isMatched_230 : decode cX8_isMatched 230 = .ok (.iconst 1, 1) := by decide +kernel
theorem dX8_isMatched_231 : decode cX8_isMatched 231 = .ok (.iand, 1) := by decide +kernel
theorem dX8_isMatched_232 : decode cX8_isMatched 232 = .ok (.iconst 1, 1) := by decide +kernel
theorem dX8_isMatched_233 : decode cX8_isMatched 233 = .ok (.if_icmp .ne 7, 3) := by decide +kernel
theorem dX8_isMatched_236 : decode cX8_isMatched 236 = .ok (.iconst 1, 1) := by decide +kernel
theorem dX8_isMatched_237 : decode cX8_isMatched 237 = .ok (.goto 4, 3) := by decide +kernel
theorem dX8_isMatched_240 : decode cX8_isMatched 240 = .ok (.iconst 0, 1) := by decide +kernel
theorem dX8_isMatched_241 : decode cX8_isMatched 241 = .ok (.ireturn, 1) := by decide +kernel
theorem dX8_copies_0 : decode cX8_copies 0 = .ok (.iconst 0, 1) := by decide +kernel
theorem dX8_copies_1 : decode cX8_copies 1 = .ok (.istore_n 2, 1) := by decide +kernel
theorem dX8_copies_2 : decode cX8_copies 2 = .ok (.iload_n 2, 1) := by decide +kernel
theorem dX8_copies_3 : decode cX8_copies 3 = .ok (.aload_n 0, 1) := by decide +kernel
theorem dX8_copies_4 : decode cX8_copies 4 = .ok (.getfield 13, 3) := by decide +kernel
theorem dX8_copies_7 : decode cX8_copies 7 = .ok (.bipush 76, 2) := by decide +kernel
theorem dX8_copies_9 : decode cX8_copies 9 = .ok (.iaload, 1) := by decide +kernel
theorem dX8_copies_10 : decode cX8_copies 10 = .ok (.if_icmp .ge 30, 3) := by decide +kernel
theorem dX8_copies_13 : decode cX8_copies 13 = .ok (.aload_n 0, 1) := by decide +kernel
theorem dX8_copies_14 : decode cX8_copies 14 = .ok (.getfield 7, 3) := by decide +kernel
theorem dX8_copies_17 : decode cX8_copies 17 = .ok (.bipush 24, 2) := by decide +kernel
theorem dX8_copies_19 : decode cX8_copies 19 = .ok (.iload_n 1, 1) := by decide +kernel
theorem dX8_copies_20 : decode cX8_copies 20 = .ok (.imul, 1) := by decide +kernel
theorem dX8_copies_21 : decode cX8_copies 21 = .ok (.iload_n 2, 1) := by decide +kernel
theorem dX8_copies_22 : decode cX8_copies 22 = .ok (.iadd, 1) := by decide +kernel
theorem dX8_copies_23 : decode cX8_copies 23 = .ok (.aload_n 0, 1) := by decide +kernel
theorem dX8_copies_24 : decode cX8_copies 24 = .ok (.getfield 7, 3) := by decide +kernel
theorem dX8_copies_27 : decode cX8_copies 27 = .ok (.sipush 1824, 3) := by decide +kernel
theorem dX8_copies_30 : decode cX8_copies 30 = .ok (.iload_n 2, 1) := by decide +kernel
theorem dX8_copies_31 : decode cX8_copies 31 = .ok (.iadd, 1) := by decide +kernel
theorem dX8_copies_32 : decode cX8_copies 32 = .ok (.iaload, 1) := by decide +kernel
theorem dX8_copies_33 : decode cX8_copies 33 = .ok (.iastore, 1) := by decide +kernel
theorem dX8_copies_34 : decode cX8_copies 34 = .ok (.iinc 2 1, 3) := by decide +kernel
theorem dX8_copies_37 : decode cX8_copies 37 = .ok (.goto (-35), 3) := by decide +kernel
theorem dX8_copies_40 : decode cX8_copies 40 = .ok (.aload_n 0, 1) := by decide +kernel
theorem dX8_copies_41 : decode cX8_copies 41 = .ok (.getfield 13, 3) := by decide +kernel
theorem dX8_copies_44 : decode cX8_copies 44 = .ok (.iload_n 1, 1) := by decide +kernel
theorem dX8_copies_45 : decode cX8_copies 45 = .ok (.aload_n 0, 1) := by decide +kernel
theorem dX8_copies_46 : decode cX8_copies 46 = .ok (.getfield 13, 3) := by decide +kernel
theorem dX8_copies_49 : decode cX8_copies 49 = .ok (.bipush 76, 2) := by decide +kernel
theorem dX8_copies_51 : decode cX8_copies 51 = .ok (.iaload, 1) := by decide +kernel
theorem dX8_copies_52 : decode cX8_copies 52 = .ok (.iastore, 1) := by decide +kernel
theorem dX8_copies_53 : decode cX8_copies 53 = .ok (.return_, 1) := by decide +kernel
theorem dX8_fileOf_0 : decode cX8_fileOf 0 = .ok (.iconst (-1), 1) := by decide +kernel
theorem dX8_fileOf_1 : decode cX8_fileOf 1 = .ok (.istore_n 1, 1) := by decide +kernel
theorem dX8_fileOf_2 : decode cX8_fileOf 2 = .ok (.iconst 0, 1) := by decide +kernel
theorem dX8_fileOf_3 : decode cX8_fileOf 3 = .ok (.istore_n 2, 1) := by decide +kernel
theorem dX8_fileOf_4 : decode cX8_fileOf 4 = .ok (.iload_n 2, 1) := by decide +kernel
theorem dX8_fileOf_5 : decode cX8_fileOf 5 = .ok (.aload_n 0, 1) := by decide +kernel
theorem dX8_fileOf_6 : decode cX8_fileOf 6 = .ok (.getfield 108, 3) := by decide +kernel
theorem dX8_fileOf_9 : decode cX8_fileOf 9 = .ok (.if_icmp .ge 97, 3) := by decide +kernel
theorem dX8_fileOf_12 : decode cX8_fileOf 12 = .ok (.aload_n 0, 1) := by decide +kernel
theorem dX8_fileOf_13 : decode cX8_fileOf 13 = .ok (.getfield 19, 3) := by decide +kernel
theorem dX8_fileOf_16 : decode cX8_fileOf 16 = .ok (.iload_n 2, 1) := by decide +kernel
theorem dX8_fileOf_17 : decode cX8_fileOf 17 = .ok (.iaload, 1) := by decide +kernel
theorem dX8_fileOf_18 : decode cX8_fileOf 18 = .ok (.aload_n 0, 1) := by decide +kernel
theorem dX8_fileOf_19 : decode cX8_fileOf 19 = .ok (.getfield 13, 3) := by decide +kernel
theorem dX8_fileOf_22 : decode cX8_fileOf 22 = .ok (.bipush 76, 2) := by decide +kernel
theorem dX8_fileOf_24 : decode cX8_fileOf 24 = .ok (.iaload, 1) := by decide +kernel
theorem dX8_fileOf_25 : decode cX8_fileOf 25 = .ok (.if_icmp .ne 7, 3) := by decide +kernel
theorem dX8_fileOf_28 : decode cX8_fileOf 28 = .ok (.iconst 1, 1) := by decide +kernel
theorem dX8_fileOf_29 : decode cX8_fileOf 29 = .ok (.goto 4, 3) := by decide +kernel
theorem dX8_fileOf_32 : decode cX8_fileOf 32 = .ok (.iconst 0, 1) := by decide +kernel
theorem dX8_fileOf_33 : decode cX8_fileOf 33 = .ok (.istore_n 3, 1) := by decide +kernel
theorem dX8_fileOf_34 : decode cX8_fileOf 34 = .ok (.iconst 0, 1) := by decide +kernel
theorem dX8_fileOf_35 : decode cX8_fileOf 35 = .ok (.istore 4, 2) := by decide +kernel
theorem dX8_fileOf_37 : decode cX8_fileOf 37 = .ok (.iload_n 3, 1) := by decide +kernel
theorem dX8_fileOf_38 : decode cX8_fileOf 38 = .ok (.ifCond .eq 52, 3) := by decide +kernel
theorem dX8_fileOf_41 : decode cX8_fileOf 41 = .ok (.iload 4, 2) := by decide +kernel
theorem dX8_fileOf_43 : decode cX8_fileOf 43 = .ok (.aload_n 0, 1) := by decide +kernel
theorem dX8_fileOf_44 : decode cX8_fileOf 44 = .ok (.getfield 19, 3) := by decide +kernel
theorem dX8_fileOf_47 : decode cX8_fileOf 47 = .ok (.iload_n 2, 1) := by decide +kernel
theorem dX8_fileOf_48 : decode cX8_fileOf 48 = .ok (.iaload, 1) := by decide +kernel
theorem dX8_fileOf_49 : decode cX8_fileOf 49 = .ok (.if_icmp .ge 41, 3) := by decide +kernel
theorem dX8_fileOf_52 : decode cX8_fileOf 52 = .ok (.aload_n 0, 1) := by decide +kernel
theorem dX8_fileOf_53 : decode cX8_fileOf 53 = .ok (.getfield 16, 3) := by decide +kernel
theorem dX8_fileOf_56 : decode cX8_fileOf 56 = .ok (.bipush 24, 2) := by decide +kernel
theorem dX8_fileOf_58 : decode cX8_fileOf 58 = .ok (.iload_n 2, 1) := by decide +kernel
theorem dX8_fileOf_59 : decode cX8_fileOf 59 = .ok (.imul, 1) := by decide +kernel
theorem dX8_fileOf_60 : decode cX8_fileOf 60 = .ok (.iload 4, 2) := by decide +kernel
theorem dX8_fileOf_62 : decode cX8_fileOf 62 = .ok (.iadd, 1) := by decide +kernel
theorem dX8_fileOf_63 : decode cX8_fileOf 63 = .ok (.iaload, 1) := by decide +kernel
theorem dX8_fileOf_64 : decode cX8_fileOf 64 = .ok (.aload_n 0, 1) := by decide +kernel
theorem dX8_fileOf_65 : decode cX8_fileOf 65 = .ok (.getfield 7, 3) := by decide +kernel
theorem dX8_fileOf_68 : decode cX8_fileOf 68 = .ok (.sipush 1824, 3) := by decide +kernel
theorem dX8_fileOf_71 : decode cX8_fileOf 71 = .ok (.iload 4, 2) := by decide +kernel
theorem dX8_fileOf_73 : decode cX8_fileOf 73 = .ok (.iadd, 1) := by decide +kernel
theorem dX8_fileOf_74 : decode cX8_fileOf 74 = .ok (.iaload, 1) := by decide +kernel
theorem dX8_fileOf_75 : decode cX8_fileOf 75 = .ok (.if_icmp .ne 7, 3) := by decide +kernel
theorem dX8_fileOf_78 : decode cX8_fileOf 78 = .ok (.iconst 1, 1) := by decide +kernel
theorem dX8_fileOf_79 : decode cX8_fileOf 79 = .ok (.goto 4, 3) := by decide +kernel
theorem dX8_fileOf_82 : decode cX8_fileOf 82 = .ok (.iconst 0, 1) := by decide +kernel
theorem dX8_fileOf_83 : decode cX8_fileOf 83 = .ok (.istore_n 3, 1) := by decide +kernel
theorem dX8_fileOf_84 : decode cX8_fileOf 84 = .ok (.iinc 4 1, 3) := by decide +kernel
theorem dX8_fileOf_87 : decode cX8_fileOf 87 = .ok (.goto (-50), 3) := by decide +kernel
theorem dX8_fileOf_90 : decode cX8_fileOf 90 = .ok (.iload_n 3, 1) := by decide +kernel
theorem dX8_fileOf_91 : decode cX8_fileOf 91 = .ok (.ifCond .eq 7, 3) := by decide +kernel
theorem dX8_fileOf_94 : decode cX8_fileOf 94 = .ok (.iload_n 2, 1) := by decide +kernel
theorem dX8_fileOf_95 : decode cX8_fileOf 95 = .ok (.goto 4, 3) := by decide +kernel
theorem dX8_fileOf_98 : decode cX8_fileOf 98 = .ok (.iload_n 1, 1) := by decide +kernel
theorem dX8_fileOf_99 : decode cX8_fileOf 99 = .ok (.istore_n 1, 1) := by decide +kernel
theorem dX8_fileOf_100 : decode cX8_fileOf 100 = .ok (.iinc 2 1, 3) := by decide +kernel
theorem dX8_fileOf_103 : decode cX8_fileOf 103 = .ok (.goto (-99), 3) := by decide +kernel
theorem dX8_fileOf_106 : decode cX8_fileOf 106 = .ok (.iload_n 1, 1) := by decide +kernel
theorem dX8_fileOf_107 : decode cX8_fileOf 107 = .ok (.ireturn, 1) := by decide +kernel
theorem dX8_addFile_0 : decode cX8_addFile 0 = .ok (.aload_n 0, 1) := by decide +kernel
theorem dX8_addFile_1 : decode cX8_addFile 1 = .ok (.iload_n 1, 1) := by decide +kernel
theorem dX8_addFile_2 : decode cX8_addFile 2 = .ok (.iconst 0, 1) := by decide +kernel
theorem dX8_addFile_3 : decode cX8_addFile 3 = .ok (.sipush 9999, 3) := by decide +kernel
theorem dX8_addFile_6 : decode cX8_addFile 6 = .ok (.invokestatic 111, 3) := by decide +kernel
theorem dX8_addFile_9 : decode cX8_addFile 9 = .ok (.ifCond .eq 10, 3) := by decide +kernel
theorem dX8_addFile_12 : decode cX8_addFile 12 = .ok (.aload_n 0, 1) := by decide +kernel
theorem dX8_addFile_13 : decode cX8_addFile 13 = .ok (.invokevirtual 89, 3) := by decide +kernel
theorem dX8_addFile_16 : decode cX8_addFile 16 = .ok (.ifCond .ne 7, 3) := by decide +kernel
theorem dX8_addFile_19 : decode cX8_addFile 19 = .ok (.iconst 1, 1) := by decide +kernel
theorem dX8_addFile_20 : decode cX8_addFile 20 = .ok (.goto 4, 3) := by decide +kernel
theorem dX8_addFile_23 : decode cX8_addFile 23 = .ok (.iconst 0, 1) := by decide +kernel
theorem dX8_addFile_24 : decode cX8_addFile 24 = .ok (.putfield 77, 3) := by decide +kernel
theorem dX8_addFile_27 : decode cX8_addFile 27 = .ok (.aload_n 0, 1) := by decide +kernel
theorem dX8_addFile_28 : decode cX8_addFile 28 = .ok (.getfield 77, 3) := by decide +kernel
theorem dX8_addFile_31 : decode cX8_addFile 31 = .ok (.ifCond .le 5, 3) := by decide +kernel
theorem dX8_addFile_34 : decode cX8_addFile 34 = .ok (.iconst 0, 1) := by decide +kernel
theorem dX8_addFile_35 : decode cX8_addFile 35 = .ok (.ireturn, 1) := by decide +kernel
theorem dX8_addFile_36 : decode cX8_addFile 36 = .ok (.aload_n 0, 1) := by decide +kernel
theorem dX8_addFile_37 : decode cX8_addFile 37 = .ok (.invokevirtual 115, 3) := by decide +kernel
theorem dX8_addFile_40 : decode cX8_addFile 40 = .ok (.istore_n 2, 1) := by decide +kernel
theorem dX8_addFile_41 : decode cX8_addFile 41 = .ok (.aload_n 0, 1) := by decide +kernel
theorem dX8_addFile_42 : decode cX8_addFile 42 = .ok (.iload_n 2, 1) := by decide +kernel
theorem dX8_addFile_43 : decode cX8_addFile 43 = .ok (.ifCond .ge 20, 3) := by decide +kernel
theorem dX8_addFile_46 : decode cX8_addFile 46 = .ok (.aload_n 0, 1) := by decide +kernel
theorem dX8_addFile_47 : decode cX8_addFile 47 = .ok (.getfield 108, 3) := by decide +kernel
theorem dX8_addFile_50 : decode cX8_addFile 50 = .ok (.bipush 24, 2) := by decide +kernel
theorem dX8_addFile_52 : decode cX8_addFile 52 = .ok (.if_icmp .ne 7, 3) := by decide +kernel
theorem dX8_addFile_55 : decode cX8_addFile 55 = .ok (.iconst 2, 1) := by decide +kernel
theorem dX8_addFile_56 : decode cX8_addFile 56 = .ok (.goto 21, 3) := by decide +kernel
theorem dX8_addFile_59 : decode cX8_addFile 59 = .ok (.iconst 0, 1) := by decide +kernel
theorem dX8_addFile_60 : decode cX8_addFile 60 = .ok (.goto 17, 3) := by decide +kernel
theorem dX8_addFile_63 : decode cX8_addFile 63 = .ok (.aload_n 0, 1) := by decide +kernel
theorem dX8_addFile_64 : decode cX8_addFile 64 = .ok (.getfield 22, 3) := by decide +kernel
theorem dX8_addFile_67 : decode cX8_addFile 67 = .ok (.iload_n 2, 1) := by decide +kernel
theorem dX8_addFile_68 : decode cX8_addFile 68 = .ok (.baload, 1) := by decide +kernel
theorem dX8_addFile_69 : decode cX8_addFile 69 = .ok (.ifCond .eq 7, 3) := by decide +kernel
theorem dX8_addFile_72 : decode cX8_addFile 72 = .ok (.iconst 2, 1) := by decide +kernel
theorem dX8_addFile_73 : decode cX8_addFile 73 = .ok (.goto 4, 3) := by decide +kernel
theorem dX8_addFile_76 : decode cX8_addFile 76 = .ok (.iconst 0, 1) := by decide +kernel
theorem dX8_addFile_77 : decode cX8_addFile 77 = .ok (.putfield 77, 3) := by decide +kernel
theorem dX8_addFile_80 : decode cX8_addFile 80 = .ok (.aload_n 0, 1) := by decide +kernel
theorem dX8_addFile_81 : decode cX8_addFile 81 = .ok (.getfield 77, 3) := by decide +kernel
theorem dX8_addFile_84 : decode cX8_addFile 84 = .ok (.ifCond .le 5, 3) := by decide +kernel
theorem dX8_addFile_87 : decode cX8_addFile 87 = .ok (.iconst 0, 1) := by decide +kernel
theorem dX8_addFile_88 : decode cX8_addFile 88 = .ok (.ireturn, 1) := by decide +kernel
theorem dX8_addFile_89 : decode cX8_addFile 89 = .ok (.iload_n 2, 1) := by decide +kernel
theorem dX8_addFile_90 : decode cX8_addFile 90 = .ok (.ifCond .ge 71, 3) := by decide +kernel
theorem dX8_addFile_93 : decode cX8_addFile 93 = .ok (.aload_n 0, 1) := by decide +kernel
theorem dX8_addFile_94 : decode cX8_addFile 94 = .ok (.getfield 108, 3) := by decide +kernel
theorem dX8_addFile_97 : decode cX8_addFile 97 = .ok (.istore_n 2, 1) := by decide +kernel
theorem dX8_addFile_98 : decode cX8_addFile 98 = .ok (.iconst 0, 1) := by decide +kernel
theorem dX8_addFile_99 : decode cX8_addFile 99 = .ok (.istore_n 3, 1) := by decide +kernel
theorem dX8_addFile_100 : decode cX8_addFile 100 = .ok (.iload_n 3, 1) := by decide +kernel
theorem dX8_addFile_101 : decode cX8_addFile 101 = .ok (.aload_n 0, 1) := by decide +kernel
theorem dX8_addFile_102 : decode cX8_addFile 102 = .ok (.getfield 13, 3) := by decide +kernel
theorem dX8_addFile_105 : decode cX8_addFile 105 = .ok (.bipush 76, 2) := by decide +kernel
theorem dX8_addFile_107 : decode cX8_addFile 107 = .ok (.iaload, 1) := by decide +kernel
theorem dX8_addFile_108 : decode cX8_addFile 108 = .ok (.if_icmp .ge 30, 3) := by decide +kernel
theorem dX8_addFile_111 : decode cX8_addFile 111 = .ok (.aload_n 0, 1) := by decide +kernel
theorem dX8_addFile_112 : decode cX8_addFile 112 = .ok (.getfield 16, 3) := by decide +kernel
theorem dX8_addFile_115 : decode cX8_addFile 115 = .ok (.bipush 24, 2) := by decide +kernel
theorem dX8_addFile_117 : decode cX8_addFile 117 = .ok (.iload_n 2, 1) := by decide +kernel
theorem dX8_addFile_118 : decode cX8_addFile 118 = .ok (.imul, 1) := by decide +kernel
theorem dX8_addFile_119 : decode cX8_addFile 119 = .ok (.iload_n 3, 1) := by decide +kernel
theorem dX8_addFile_120 : decode cX8_addFile 120 = .ok (.iadd, 1) := by decide +kernel
theorem dX8_addFile_121 : decode cX8_addFile 121 = .ok (.aload_n 0, 1) := by decide +kernel
theorem dX8_addFile_122 : decode cX8_addFile 122 = .ok (.getfield 7, 3) := by decide +kernel
theorem dX8_addFile_125 : decode cX8_addFile 125 = .ok (.sipush 1824, 3) := by decide +kernel
theorem dX8_addFile_128 : decode cX8_addFile 128 = .ok (.iload_n 3, 1) := by decide +kernel
theorem dX8_addFile_129 : decode cX8_addFile 129 = .ok (.iadd, 1) := by decide +kernel
theorem dX8_addFile_130 : decode cX8_addFile 130 = .ok (.iaload, 1) := by decide +kernel
theorem dX8_addFile_131 : decode cX8_addFile 131 = .ok (.iastore, 1) := by decide +kernel
theorem dX8_addFile_132 : decode cX8_addFile 132 = .ok (.iinc 3 1, 3) := by decide +kernel
theorem dX8_addFile_135 : decode cX8_addFile 135 = .ok (.goto (-35), 3) := by decide +kernel
theorem dX8_addFile_138 : decode cX8_addFile 138 = .ok (.aload_n 0, 1) := by decide +kernel
theorem dX8_addFile_139 : decode cX8_addFile 139 = .ok (.getfield 19, 3) := by decide +kernel
theorem dX8_addFile_142 : decode cX8_addFile 142 = .ok (.iload_n 2, 1) := by decide +kernel
theorem dX8_addFile_143 : decode cX8_addFile 143 = .ok (.aload_n 0, 1) := by decide +kernel
theorem dX8_addFile_144 : decode cX8_addFile 144 = .ok (.getfield 13, 3) := by decide +kernel
theorem dX8_addFile_147 : decode cX8_addFile 147 = .ok (.bipush 76, 2) := by decide +kernel
theorem dX8_addFile_149 : decode cX8_addFile 149 = .ok (.iaload, 1) := by decide +kernel
theorem dX8_addFile_150 : decode cX8_addFile 150 = .ok (.iastore, 1) := by decide +kernel
theorem dX8_addFile_151 : decode cX8_addFile 151 = .ok (.aload_n 0, 1) := by decide +kernel
theorem dX8_addFile_152 : decode cX8_addFile 152 = .ok (.dup, 1) := by decide +kernel
theorem dX8_addFile_153 : decode cX8_addFile 153 = .ok (.getfield 108, 3) := by decide +kernel
theorem dX8_addFile_156 : decode cX8_addFile 156 = .ok (.iconst 1, 1) := by decide +kernel
theorem dX8_addFile_157 : decode cX8_addFile 157 = .ok (.iadd, 1) := by decide +kernel
theorem dX8_addFile_158 : decode cX8_addFile 158 = .ok (.putfield 108, 3) := by decide +kernel
theorem dX8_addFile_161 : decode cX8_addFile 161 = .ok (.aload_n 0, 1) := by decide +kernel
theorem dX8_addFile_162 : decode cX8_addFile 162 = .ok (.getfield 22, 3) := by decide +kernel
theorem dX8_addFile_165 : decode cX8_addFile 165 = .ok (.iload_n 2, 1) := by decide +kernel
theorem dX8_addFile_166 : decode cX8_addFile 166 = .ok (.iconst 1, 1) := by decide +kernel
theorem dX8_addFile_167 : decode cX8_addFile 167 = .ok (.bastore, 1) := by decide +kernel
theorem dX8_addFile_168 : decode cX8_addFile 168 = .ok (.aload_n 0, 1) := by decide +kernel
theorem dX8_addFile_169 : decode cX8_addFile 169 = .ok (.getfield 26, 3) := by decide +kernel
theorem dX8_addFile_172 : decode cX8_addFile 172 = .ok (.iload_n 2, 1) := by decide +kernel
theorem dX8_addFile_173 : decode cX8_addFile 173 = .ok (.iload_n 1, 1) := by decide +kernel
theorem dX8_addFile_174 : decode cX8_addFile 174 = .ok (.iastore, 1) := by decide +kernel
theorem dX8_addFile_175 : decode cX8_addFile 175 = .ok (.iload_n 2, 1) := by decide +kernel
theorem dX8_addFile_176 : decode cX8_addFile 176 = .ok (.ireturn, 1) := by decide +kernel
theorem dX8_findFile_0 : decode cX8_findFile 0 = .ok (.aload_n 0, 1) := by decide +kernel
theorem dX8_findFile_1 : decode cX8_findFile 1 = .ok (.iconst 0, 1) := by decide +kernel
theorem dX8_findFile_2 : decode cX8_findFile 2 = .ok (.putfield 77, 3) := by decide +kernel
theorem dX8_findFile_5 : decode cX8_findFile 5 = .ok (.aload_n 0, 1) := by decide +kernel
theorem dX8_findFile_6 : decode cX8_findFile 6 = .ok (.invokevirtual 115, 3) := by decide +kernel
theorem dX8_findFile_9 : decode cX8_findFile 9 = .ok (.ireturn, 1) := by decide +kernel
theorem dX8_isThere_0 : decode cX8_isThere 0 = .ok (.iload_n 1, 1) := by decide +kernel
theorem dX8_isThere_1 : decode cX8_isThere 1 = .ok (.iconst 0, 1) := by decide +kernel
theorem dX8_isThere_2 : decode cX8_isThere 2 = .ok (.aload_n 0, 1) := by decide +kernel
theorem dX8_isThere_3 : decode cX8_isThere 3 = .ok (.getfield 108, 3) := by decide +kernel
theorem dX8_isThere_6 : decode cX8_isThere 6 = .ok (.iconst 1, 1) := by decide +kernel
theorem dX8_isThere_7 : decode cX8_isThere 7 = .ok (.isub, 1) := by decide +kernel
theorem dX8_isThere_8 : decode cX8_isThere 8 = .ok (.invokestatic 111, 3) := by decide +kernel
theorem dX8_isThere_11 : decode cX8_isThere 11 = .ok (.ifCond .eq 16, 3) := by decide +kernel
theorem dX8_isThere_14 : decode cX8_isThere 14 = .ok (.aload_n 0, 1) := by decide +kernel
theorem dX8_isThere_15 : decode cX8_isThere 15 = .ok (.getfield 22, 3) := by decide +kernel
theorem dX8_isThere_18 : decode cX8_isThere 18 = .ok (.iload_n 1, 1) := by decide +kernel
theorem dX8_isThere_19 : decode cX8_isThere 19 = .ok (.baload, 1) := by decide +kernel
theorem dX8_isThere_20 : decode cX8_isThere 20 = .ok (.ifCond .eq 7, 3) := by decide +kernel
theorem dX8_isThere_23 : decode cX8_isThere 23 = .ok (.iconst 1, 1) := by decide +kernel
theorem dX8_isThere_24 : decode cX8_isThere 24 = .ok (.goto 4, 3) := by decide +kernel
theorem dX8_isThere_27 : decode cX8_isThere 27 = .ok (.iconst 0, 1) := by decide +kernel
theorem dX8_isThere_28 : decode cX8_isThere 28 = .ok (.ireturn, 1) := by decide +kernel
theorem dX8_edit_0 : decode cX8_edit 0 = .ok (.aload_n 0, 1) := by decide +kernel
theorem dX8_edit_1 : decode cX8_edit 1 = .ok (.aload_n 0, 1) := by decide +kernel
theorem dX8_edit_2 : decode cX8_edit 2 = .ok (.iload_n 1, 1) := by decide +kernel
theorem dX8_edit_3 : decode cX8_edit 3 = .ok (.invokevirtual 119, 3) := by decide +kernel
theorem dX8_edit_6 : decode cX8_edit 6 = .ok (.ifCond .ne 7, 3) := by decide +kernel
theorem dX8_edit_9 : decode cX8_edit 9 = .ok (.iconst 1, 1) := by decide +kernel
theorem dX8_edit_10 : decode cX8_edit 10 = .ok (.goto 19, 3) := by decide +kernel
theorem dX8_edit_13 : decode cX8_edit 13 = .ok (.iload_n 2, 1) := by decide +kernel
theorem dX8_edit_14 : decode cX8_edit 14 = .ok (.iconst 0, 1) := by decide +kernel
theorem dX8_edit_15 : decode cX8_edit 15 = .ok (.sipush 9999, 3) := by decide +kernel
theorem dX8_edit_18 : decode cX8_edit 18 = .ok (.invokestatic 111, 3) := by decide +kernel
theorem dX8_edit_21 : decode cX8_edit 21 = .ok (.ifCond .eq 7, 3) := by decide +kernel
theorem dX8_edit_24 : decode cX8_edit 24 = .ok (.iconst 0, 1) := by decide +kernel
theorem dX8_edit_25 : decode cX8_edit 25 = .ok (.goto 4, 3) := by decide +kernel
theorem dX8_edit_28 : decode cX8_edit 28 = .ok (.iconst 2, 1) := by decide +kernel
theorem dX8_edit_29 : decode cX8_edit 29 = .ok (.putfield 77, 3) := by decide +kernel
theorem dX8_edit_32 : decode cX8_edit 32 = .ok (.aload_n 0, 1) := by decide +kernel
theorem dX8_edit_33 : decode cX8_edit 33 = .ok (.getfield 77, 3) := by decide +kernel
theorem dX8_edit_36 : decode cX8_edit 36 = .ok (.ifCond .le 5, 3) := by decide +kernel
theorem dX8_edit_39 : decode cX8_edit 39 = .ok (.iconst 0, 1) := by decide +kernel
theorem dX8_edit_40 : decode cX8_edit 40 = .ok (.ireturn, 1) := by decide +kernel
theorem dX8_edit_41 : decode cX8_edit 41 = .ok (.aload_n 0, 1) := by decide +kernel
theorem dX8_edit_42 : decode cX8_edit 42 = .ok (.getfield 26, 3) := by decide +kernel
theorem dX8_edit_45 : decode cX8_edit 45 = .ok (.iload_n 1, 1) := by decide +kernel
theorem dX8_edit_46 : decode cX8_edit 46 = .ok (.iaload, 1) := by decide +kernel
theorem dX8_edit_47 : decode cX8_edit 47 = .ok (.istore_n 3, 1) := by decide +kernel
theorem dX8_edit_48 : decode cX8_edit 48 = .ok (.aload_n 0, 1) := by decide +kernel
theorem dX8_edit_49 : decode cX8_edit 49 = .ok (.getfield 26, 3) := by decide +kernel
theorem dX8_edit_52 : decode cX8_edit 52 = .ok (.iload_n 1, 1) := by decide +kernel
theorem dX8_edit_53 : decode cX8_edit 53 = .ok (.iload_n 2, 1) := by decide +kernel
theorem dX8_edit_54 : decode cX8_edit 54 = .ok (.iastore, 1) := by decide +kernel
theorem dX8_edit_55 : decode cX8_edit 55 = .ok (.iload_n 3, 1) := by decide +kernel
theorem dX8_edit_56 : decode cX8_edit 56 = .ok (.ireturn, 1) := by decide +kernel
theorem dX8_delete_0 : decode cX8_delete 0 = .ok (.aload_n 0, 1) := by decide +kernel
theorem dX8_delete_1 : decode cX8_delete 1 = .ok (.aload_n 0, 1) := by decide +kernel
theorem dX8_delete_2 : decode cX8_delete 2 = .ok (.iload_n 1, 1) := by decide +kernel
theorem dX8_delete_3 : decode cX8_delete 3 = .ok (.invokevirtual 119, 3) := by decide +kernel
theorem dX8_delete_6 : decode cX8_delete 6 = .ok (.ifCond .eq 7, 3) := by decide +kernel
theorem dX8_delete_9 : decode cX8_delete 9 = .ok (.iconst 0, 1) := by decide +kernel
theorem dX8_delete_10 : decode cX8_delete 10 = .ok (.goto 4, 3) := by decide +kernel
theorem dX8_delete_13 : decode cX8_delete 13 = .ok (.iconst 1, 1) := by decide +kernel
theorem dX8_delete_14 : decode cX8_delete 14 = .ok (.putfield 77, 3) := by decide +kernel
theorem dX8_delete_17 : decode cX8_delete 17 = .ok (.aload_n 0, 1) := by decide +kernel
theorem dX8_delete_18 : decode cX8_delete 18 = .ok (.getfield 77, 3) := by decide +kernel
theorem dX8_delete_21 : decode cX8_delete 21 = .ok (.ifCond .le 5, 3) := by decide +kernel
theorem dX8_delete_24 : decode cX8_delete 24 = .ok (.iconst 0, 1) := by decide +kernel
theorem dX8_delete_25 : decode cX8_delete 25 = .ok (.ireturn, 1) := by decide +kernel
theorem dX8_delete_26 : decode cX8_delete 26 = .ok (.aload_n 0, 1) := by decide +kernel
theorem dX8_delete_27 : decode cX8_delete 27 = .ok (.getfield 22, 3) := by decide +kernel
theorem dX8_delete_30 : decode cX8_delete 30 = .ok (.iload_n 1, 1) := by decide +kernel
theorem dX8_delete_31 : decode cX8_delete 31 = .ok (.iconst 0, 1) := by decide +kernel
theorem dX8_delete_32 : decode cX8_delete 32 = .ok (.bastore, 1) := by decide +kernel
theorem dX8_delete_33 : decode cX8_delete 33 = .ok (.aload_n 0, 1) := by decide +kernel
theorem dX8_delete_34 : decode cX8_delete 34 = .ok (.getfield 26, 3) := by decide +kernel
theorem dX8_delete_37 : decode cX8_delete 37 = .ok (.iload_n 1, 1) := by decide +kernel
theorem dX8_delete_38 : decode cX8_delete 38 = .ok (.iaload, 1) := by decide +kernel
theorem dX8_delete_39 : decode cX8_delete 39 = .ok (.ireturn, 1) := by decide +kernel
theorem dX8_files_0 : decode cX8_files 0 = .ok (.aload_n 0, 1) := by decide +kernel
theorem dX8_files_1 : decode cX8_files 1 = .ok (.iconst 0, 1) := by decide +kernel
theorem dX8_files_2 : decode cX8_files 2 = .ok (.putfield 77, 3) := by decide +kernel
theorem dX8_files_5 : decode cX8_files 5 = .ok (.iconst 0, 1) := by decide +kernel
theorem dX8_files_6 : decode cX8_files 6 = .ok (.istore_n 1, 1) := by decide +kernel
theorem dX8_files_7 : decode cX8_files 7 = .ok (.iconst 0, 1) := by decide +kernel
theorem dX8_files_8 : decode cX8_files 8 = .ok (.istore_n 2, 1) := by decide +kernel
theorem dX8_files_9 : decode cX8_files 9 = .ok (.iload_n 2, 1) := by decide +kernel
theorem dX8_files_10 : decode cX8_files 10 = .ok (.aload_n 0, 1) := by decide +kernel
theorem dX8_files_11 : decode cX8_files 11 = .ok (.getfield 108, 3) := by decide +kernel
theorem dX8_files_14 : decode cX8_files 14 = .ok (.if_icmp .ge 28, 3) := by decide +kernel
theorem dX8_files_17 : decode cX8_files 17 = .ok (.iload_n 1, 1) := by decide +kernel
theorem dX8_files_18 : decode cX8_files 18 = .ok (.aload_n 0, 1) := by decide +kernel
theorem dX8_files_19 : decode cX8_files 19 = .ok (.getfield 22, 3) := by decide +kernel
theorem dX8_files_22 : decode cX8_files 22 = .ok (.iload_n 2, 1) := by decide +kernel
theorem dX8_files_23 : decode cX8_files 23 = .ok (.baload, 1) := by decide +kernel
theorem dX8_files_24 : decode cX8_files 24 = .ok (.ifCond .eq 9, 3) := by decide +kernel
theorem dX8_files_27 : decode cX8_files 27 = .ok (.iconst 1, 1) := by decide +kernel
theorem dX8_files_28 : decode cX8_files 28 = .ok (.iload_n 2, 1) := by decide +kernel
theorem dX8_files_29 : decode cX8_files 29 = .ok (.ishl, 1) := by decide +kernel
theorem dX8_files_30 : decode cX8_files 30 = .ok (.goto 4, 3) := by decide +kernel
theorem dX8_files_33 : decode cX8_files 33 = .ok (.iconst 0, 1) := by decide +kernel
theorem dX8_files_34 : decode cX8_files 34 = .ok (.ior, 1) := by decide +kernel
theorem dX8_files_35 : decode cX8_files 35 = .ok (.istore_n 1, 1) := by decide +kernel
theorem dX8_files_36 : decode cX8_files 36 = .ok (.iinc 2 1, 3) := by decide +kernel
theorem dX8_files_39 : decode cX8_files 39 = .ok (.goto (-30), 3) := by decide +kernel
theorem dX8_files_42 : decode cX8_files 42 = .ok (.iload_n 1, 1) := by decide +kernel
theorem dX8_files_43 : decode cX8_files 43 = .ok (.ireturn, 1) := by decide +kernel
theorem dX8_matches_0 : decode cX8_matches 0 = .ok (.aload_n 0, 1) := by decide +kernel
theorem dX8_matches_1 : decode cX8_matches 1 = .ok (.iload_n 1, 1) := by decide +kernel
theorem dX8_matches_2 : decode cX8_matches 2 = .ok (.iconst 0, 1) := by decide +kernel
theorem dX8_matches_3 : decode cX8_matches 3 = .ok (.aload_n 0, 1) := by decide +kernel
theorem dX8_matches_4 : decode cX8_matches 4 = .ok (.getfield 108, 3) := by decide +kernel
theorem dX8_matches_7 : decode cX8_matches 7 = .ok (.iconst 1, 1) := by decide +kernel
theorem dX8_matches_8 : decode cX8_matches 8 = .ok (.isub, 1) := by decide +kernel
theorem dX8_matches_9 : decode cX8_matches 9 = .ok (.invokestatic 111, 3) := by decide +kernel
theorem dX8_matches_12 : decode cX8_matches 12 = .ok (.ifCond .ne 7, 3) := by decide +kernel
theorem dX8_matches_15 : decode cX8_matches 15 = .ok (.iconst 1, 1) := by decide +kernel
theorem dX8_matches_16 : decode cX8_matches 16 = .ok (.goto 15, 3) := by decide +kernel
theorem dX8_matches_19 : decode cX8_matches 19 = .ok (.aload_n 0, 1) := by decide +kernel
theorem dX8_matches_20 : decode cX8_matches 20 = .ok (.invokevirtual 92, 3) := by decide +kernel
theorem dX8_matches_23 : decode cX8_matches 23 = .ok (.ifCond .eq 7, 3) := by decide +kernel
theorem dX8_matches_26 : decode cX8_matches 26 = .ok (.iconst 0, 1) := by decide +kernel
theorem dX8_matches_27 : decode cX8_matches 27 = .ok (.goto 4, 3) := by decide +kernel
theorem dX8_matches_30 : decode cX8_matches 30 = .ok (.iconst 2, 1) := by decide +kernel
theorem dX8_matches_31 : decode cX8_matches 31 = .ok (.putfield 77, 3) := by decide +kernel
theorem dX8_matches_34 : decode cX8_matches 34 = .ok (.aload_n 0, 1) := by decide +kernel
theorem dX8_matches_35 : decode cX8_matches 35 = .ok (.getfield 77, 3) := by decide +kernel
theorem dX8_matches_38 : decode cX8_matches 38 = .ok (.ifCond .ne 17, 3) := by decide +kernel
theorem dX8_matches_41 : decode cX8_matches 41 = .ok (.aload_n 0, 1) := by decide +kernel
theorem dX8_matches_42 : decode cX8_matches 42 = .ok (.bipush 76, 2) := by decide +kernel
theorem dX8_matches_44 : decode cX8_matches 44 = .ok (.iload_n 1, 1) := by decide +kernel
theorem dX8_matches_45 : decode cX8_matches 45 = .ok (.invokevirtual 123, 3) := by decide +kernel
theorem dX8_matches_48 : decode cX8_matches 48 = .ok (.ifCond .eq 7, 3) := by decide +kernel
theorem dX8_matches_51 : decode cX8_matches 51 = .ok (.iconst 1, 1) := by decide +kernel
theorem dX8_matches_52 : decode cX8_matches 52 = .ok (.goto 4, 3) := by decide +kernel
theorem dX8_matches_55 : decode cX8_matches 55 = .ok (.iconst 0, 1) := by decide +kernel
theorem dX8_matches_56 : decode cX8_matches 56 = .ok (.ireturn, 1) := by decide +kernel
theorem dX8_isTarget_0 : decode cX8_isTarget 0 = .ok (.iload_n 1, 1) := by decide +kernel
theorem dX8_isTarget_1 : decode cX8_isTarget 1 = .ok (.iconst 0, 1) := by decide +kernel
theorem dX8_isTarget_2 : decode cX8_isTarget 2 = .ok (.aload_n 0, 1) := by decide +kernel
theorem dX8_isTarget_3 : decode cX8_isTarget 3 = .ok (.getfield 127, 3) := by decide +kernel
theorem dX8_isTarget_6 : decode cX8_isTarget 6 = .ok (.iconst 1, 1) := by decide +kernel
theorem dX8_isTarget_7 : decode cX8_isTarget 7 = .ok (.isub, 1) := by decide +kernel
theorem dX8_isTarget_8 : decode cX8_isTarget 8 = .ok (.invokestatic 111, 3) := by decide +kernel
theorem dX8_isTarget_11 : decode cX8_isTarget 11 = .ok (.ireturn, 1) := by decide +kernel
theorem dX8_addTarget_0 : decode cX8_addTarget 0 = .ok (.aload_n 0, 1) := by decide +kernel
theorem dX8_addTarget_1 : decode cX8_addTarget 1 = .ok (.iload_n 1, 1) := by decide +kernel
theorem dX8_addTarget_2 : decode cX8_addTarget 2 = .ok (.iconst 1, 1) := by decide +kernel
theorem dX8_addTarget_3 : decode cX8_addTarget 3 = .ok (.sipush 1000, 3) := by decide +kernel
theorem dX8_addTarget_6 : decode cX8_addTarget 6 = .ok (.invokestatic 111, 3) := by decide +kernel
theorem dX8_addTarget_9 : decode cX8_addTarget 9 = .ok (.ifCond .ne 7, 3) := by decide +kernel
theorem dX8_addTarget_12 : decode cX8_addTarget 12 = .ok (.iconst 1, 1) := by decide +kernel
theorem dX8_addTarget_13 : decode cX8_addTarget 13 = .ok (.goto 17, 3) := by decide +kernel
theorem dX8_addTarget_16 : decode cX8_addTarget 16 = .ok (.aload_n 0, 1) := by decide +kernel
theorem dX8_addTarget_17 : decode cX8_addTarget 17 = .ok (.getfield 127, 3) := by decide +kernel
theorem dX8_addTarget_20 : decode cX8_addTarget 20 = .ok (.bipush 16, 2) := by decide +kernel
theorem dX8_addTarget_22 : decode cX8_addTarget 22 = .ok (.if_icmp .ne 7, 3) := by decide +kernel
theorem dX8_addTarget_25 : decode cX8_addTarget 25 = .ok (.iconst 2, 1) := by decide +kernel
theorem dX8_addTarget_26 : decode cX8_addTarget 26 = .ok (.goto 4, 3) := by decide +kernel
theorem dX8_addTarget_29 : decode cX8_addTarget 29 = .ok (.iconst 0, 1) := by decide +kernel
theorem dX8_addTarget_30 : decode cX8_addTarget 30 = .ok (.putfield 77, 3) := by decide +kernel
theorem dX8_addTarget_33 : decode cX8_addTarget 33 = .ok (.aload_n 0, 1) := by decide +kernel
theorem dX8_addTarget_34 : decode cX8_addTarget 34 = .ok (.getfield 77, 3) := by decide +kernel
theorem dX8_addTarget_37 : decode cX8_addTarget 37 = .ok (.ifCond .le 5, 3) := by decide +kernel
theorem dX8_addTarget_40 : decode cX8_addTarget 40 = .ok (.iconst 0, 1) := by decide +kernel
theorem dX8_addTarget_41 : decode cX8_addTarget 41 = .ok (.ireturn, 1) := by decide +kernel
theorem dX8_addTarget_42 : decode cX8_addTarget 42 = .ok (.aload_n 0, 1) := by decide +kernel
theorem dX8_addTarget_43 : decode cX8_addTarget 43 = .ok (.getfield 35, 3) := by decide +kernel
theorem dX8_addTarget_46 : decode cX8_addTarget 46 = .ok (.aload_n 0, 1) := by decide +kernel
theorem dX8_addTarget_47 : decode cX8_addTarget 47 = .ok (.getfield 127, 3) := by decide +kernel
theorem dX8_addTarget_50 : decode cX8_addTarget 50 = .ok (.iload_n 1, 1) := by decide +kernel
theorem dX8_addTarget_51 : decode cX8_addTarget 51 = .ok (.iastore, 1) := by decide +kernel
theorem dX8_addTarget_52 : decode cX8_addTarget 52 = .ok (.aload_n 0, 1) := by decide +kernel
theorem dX8_addTarget_53 : decode cX8_addTarget 53 = .ok (.dup, 1) := by decide +kernel
theorem dX8_addTarget_54 : decode cX8_addTarget 54 = .ok (.getfield 127, 3) := by decide +kernel
theorem dX8_addTarget_57 : decode cX8_addTarget 57 = .ok (.iconst 1, 1) := by decide +kernel
theorem dX8_addTarget_58 : decode cX8_addTarget 58 = .ok (.iadd, 1) := by decide +kernel
theorem dX8_addTarget_59 : decode cX8_addTarget 59 = .ok (.putfield 127, 3) := by decide +kernel
theorem dX8_addTarget_62 : decode cX8_addTarget 62 = .ok (.aload_n 0, 1) := by decide +kernel
theorem dX8_addTarget_63 : decode cX8_addTarget 63 = .ok (.getfield 127, 3) := by decide +kernel
theorem dX8_addTarget_66 : decode cX8_addTarget 66 = .ok (.iconst 1, 1) := by decide +kernel
theorem dX8_addTarget_67 : decode cX8_addTarget 67 = .ok (.isub, 1) := by decide +kernel
theorem dX8_addTarget_68 : decode cX8_addTarget 68 = .ok (.ireturn, 1) := by decide +kernel
theorem dX8_takes_0 : decode cX8_takes 0 = .ok (.iconst 0, 1) := by decide +kernel
theorem dX8_takes_1 : decode cX8_takes 1 = .ok (.istore_n 3, 1) := by decide +kernel
theorem dX8_takes_2 : decode cX8_takes 2 = .ok (.iconst 0, 1) := by decide +kernel
theorem dX8_takes_3 : decode cX8_takes 3 = .ok (.istore 4, 2) := by decide +kernel
theorem dX8_takes_5 : decode cX8_takes 5 = .ok (.iload 4, 2) := by decide +kernel
theorem dX8_takes_7 : decode cX8_takes 7 = .ok (.aload_n 0, 1) := by decide +kernel
theorem dX8_takes_8 : decode cX8_takes 8 = .ok (.getfield 38, 3) := by decide +kernel
theorem dX8_takes_11 : decode cX8_takes 11 = .ok (.iload_n 1, 1) := by decide +kernel
theorem dX8_takes_12 : decode cX8_takes 12 = .ok (.iaload, 1) := by decide +kernel
theorem dX8_takes_13 : decode cX8_takes 13 = .ok (.if_icmp .ge 23, 3) := by decide +kernel
theorem dX8_takes_16 : decode cX8_takes 16 = .ok (.iload_n 3, 1) := by decide +kernel
theorem dX8_takes_17 : decode cX8_takes 17 = .ok (.aload_n 0, 1) := by decide +kernel
theorem dX8_takes_18 : decode cX8_takes 18 = .ok (.iconst 4, 1) := by decide +kernel
theorem dX8_takes_19 : decode cX8_takes 19 = .ok (.iload_n 1, 1) := by decide +kernel
theorem dX8_takes_20 : decode cX8_takes 20 = .ok (.imul, 1) := by decide +kernel
theorem dX8_takes_21 : decode cX8_takes 21 = .ok (.iload 4, 2) := by decide +kernel
theorem dX8_takes_23 : decode cX8_takes 23 = .ok (.iadd, 1) := by decide +kernel
theorem dX8_takes_24 : decode cX8_takes 24 = .ok (.iload_n 2, 1) := by decide +kernel
theorem dX8_takes_25 : decode cX8_takes 25 = .ok (.invokevirtual 123, 3) := by decide +kernel
theorem dX8_takes_28 : decode cX8_takes 28 = .ok (.ior, 1) := by decide +kernel
theorem dX8_takes_29 : decode cX8_takes 29 = .ok (.istore_n 3, 1) := by decide +kernel
theorem dX8_takes_30 : decode cX8_takes 30 = .ok (.iinc 4 1, 3) := by decide +kernel
theorem dX8_takes_33 : decode cX8_takes 33 = .ok (.goto (-28), 3) := by decide +kernel
theorem dX8_takes_36 : decode cX8_takes 36 = .ok (.iload_n 3, 1) := by decide +kernel
theorem dX8_takes_37 : decode cX8_takes 37 = .ok (.ireturn, 1) := by decide +kernel
theorem dX8_inputsOf_0 : decode cX8_inputsOf 0 = .ok (.iconst 0, 1) := by decide +kernel
theorem dX8_inputsOf_1 : decode cX8_inputsOf 1 = .ok (.istore_n 2, 1) := by decide +kernel
theorem dX8_inputsOf_2 : decode cX8_inputsOf 2 = .ok (.iconst 0, 1) := by decide +kernel
theorem dX8_inputsOf_3 : decode cX8_inputsOf 3 = .ok (.istore_n 3, 1) := by decide +kernel
theorem dX8_inputsOf_4 : decode cX8_inputsOf 4 = .ok (.iload_n 3, 1) := by decide +kernel
theorem dX8_inputsOf_5 : decode cX8_inputsOf 5 = .ok (.aload_n 0, 1) := by decide +kernel
theorem dX8_inputsOf_6 : decode cX8_inputsOf 6 = .ok (.getfield 108, 3) := by decide +kernel
theorem dX8_inputsOf_9 : decode cX8_inputsOf 9 = .ok (.if_icmp .ge 37, 3) := by decide +kernel
theorem dX8_inputsOf_12 : decode cX8_inputsOf 12 = .ok (.iload_n 2, 1) := by decide +kernel
theorem dX8_inputsOf_13 : decode cX8_inputsOf 13 = .ok (.aload_n 0, 1) := by decide +kernel
theorem dX8_inputsOf_14 : decode cX8_inputsOf 14 = .ok (.getfield 22, 3) := by decide +kernel
theorem dX8_inputsOf_17 : decode cX8_inputsOf 17 = .ok (.iload_n 3, 1) := by decide +kernel
theorem dX8_inputsOf_18 : decode cX8_inputsOf 18 = .ok (.baload, 1) := by decide +kernel
theorem dX8_inputsOf_19 : decode cX8_inputsOf 19 = .ok (.ifCond .eq 18, 3) := by decide +kernel
theorem dX8_inputsOf_22 : decode cX8_inputsOf 22 = .ok (.aload_n 0, 1) := by decide +kernel
theorem dX8_inputsOf_23 : decode cX8_inputsOf 23 = .ok (.iload_n 1, 1) := by decide +kernel
theorem dX8_inputsOf_24 : decode cX8_inputsOf 24 = .ok (.iload_n 3, 1) := by decide +kernel
theorem dX8_inputsOf_25 : decode cX8_inputsOf 25 = .ok (.invokevirtual 130, 3) := by decide +kernel
theorem dX8_inputsOf_28 : decode cX8_inputsOf 28 = .ok (.ifCond .eq 9, 3) := by decide +kernel
theorem dX8_inputsOf_31 : decode cX8_inputsOf 31 = .ok (.iconst 1, 1) := by decide +kernel
theorem dX8_inputsOf_32 : decode cX8_inputsOf 32 = .ok (.iload_n 3, 1) := by decide +kernel
theorem dX8_inputsOf_33 : decode cX8_inputsOf 33 = .ok (.ishl, 1) := by decide +kernel
theorem dX8_inputsOf_34 : decode cX8_inputsOf 34 = .ok (.goto 4, 3) := by decide +kernel
theorem dX8_inputsOf_37 : decode cX8_inputsOf 37 = .ok (.iconst 0, 1) := by decide +kernel
theorem dX8_inputsOf_38 : decode cX8_inputsOf 38 = .ok (.ior, 1) := by decide +kernel
theorem dX8_inputsOf_39 : decode cX8_inputsOf 39 = .ok (.istore_n 2, 1) := by decide +kernel
theorem dX8_inputsOf_40 : decode cX8_inputsOf 40 = .ok (.iinc 3 1, 3) := by decide +kernel
theorem dX8_inputsOf_43 : decode cX8_inputsOf 43 = .ok (.goto (-39), 3) := by decide +kernel
theorem dX8_inputsOf_46 : decode cX8_inputsOf 46 = .ok (.iload_n 2, 1) := by decide +kernel
theorem dX8_inputsOf_47 : decode cX8_inputsOf 47 = .ok (.ireturn, 1) := by decide +kernel
theorem dX8_count_0 : decode cX8_count 0 = .ok (.iconst 0, 1) := by decide +kernel
theorem dX8_count_1 : decode cX8_count 1 = .ok (.istore_n 1, 1) := by decide +kernel
theorem dX8_count_2 : decode cX8_count 2 = .ok (.iconst 0, 1) := by decide +kernel
theorem dX8_count_3 : decode cX8_count 3 = .ok (.istore_n 2, 1) := by decide +kernel
theorem dX8_count_4 : decode cX8_count 4 = .ok (.iload_n 2, 1) := by decide +kernel
theorem dX8_count_5 : decode cX8_count 5 = .ok (.bipush 24, 2) := by decide +kernel
theorem dX8_count_7 : decode cX8_count 7 = .ok (.if_icmp .ge 17, 3) := by decide +kernel
theorem dX8_count_10 : decode cX8_count 10 = .ok (.iload_n 1, 1) := by decide +kernel
theorem dX8_count_11 : decode cX8_count 11 = .ok (.iload_n 0, 1) := by decide +kernel
theorem dX8_count_12 : decode cX8_count 12 = .ok (.iload_n 2, 1) := by decide +kernel
theorem dX8_count_13 : decode cX8_count 13 = .ok (.ishr, 1) := by decide +kernel
theorem dX8_count_14 : decode cX8_count 14 = .ok (.iconst 1, 1) := by decide +kernel
theorem dX8_count_15 : decode cX8_count 15 = .ok (.iand, 1) := by decide +kernel
theorem dX8_count_16 : decode cX8_count 16 = .ok (.iadd, 1) := by decide +kernel
theorem dX8_count_17 : decode cX8_count 17 = .ok (.istore_n 1, 1) := by decide +kernel
theorem dX8_count_18 : decode cX8_count 18 = .ok (.iinc 2 1, 3) := by decide +kernel
theorem dX8_count_21 : decode cX8_count 21 = .ok (.goto (-17), 3) := by decide +kernel
theorem dX8_count_24 : decode cX8_count 24 = .ok (.iload_n 1, 1) := by decide +kernel
theorem dX8_count_25 : decode cX8_count 25 = .ok (.ireturn, 1) := by decide +kernel
theorem dX8_addGlob_0 : decode cX8_addGlob 0 = .ok (.aload_n 0, 1) := by decide +kernel
theorem dX8_addGlob_1 : decode cX8_addGlob 1 = .ok (.aload_n 0, 1) := by decide +kernel
theorem dX8_addGlob_2 : decode cX8_addGlob 2 = .ok (.iload_n 1, 1) := by decide +kernel
theorem dX8_addGlob_3 : decode cX8_addGlob 3 = .ok (.invokevirtual 133, 3) := by decide +kernel
theorem dX8_addGlob_6 : decode cX8_addGlob 6 = .ok (.ifCond .ne 7, 3) := by decide +kernel
theorem dX8_addGlob_9 : decode cX8_addGlob 9 = .ok (.iconst 1, 1) := by decide +kernel
theorem dX8_addGlob_10 : decode cX8_addGlob 10 = .ok (.goto 29, 3) := by decide +kernel
theorem dX8_addGlob_13 : decode cX8_addGlob 13 = .ok (.aload_n 0, 1) := by decide +kernel
theorem dX8_addGlob_14 : decode cX8_addGlob 14 = .ok (.invokevirtual 92, 3) := by decide +kernel
theorem dX8_addGlob_17 : decode cX8_addGlob 17 = .ok (.ifCond .ne 7, 3) := by decide +kernel
theorem dX8_addGlob_20 : decode cX8_addGlob 20 = .ok (.iconst 2, 1) := by decide +kernel
theorem dX8_addGlob_21 : decode cX8_addGlob 21 = .ok (.goto 18, 3) := by decide +kernel
theorem dX8_addGlob_24 : decode cX8_addGlob 24 = .ok (.aload_n 0, 1) := by decide +kernel
theorem dX8_addGlob_25 : decode cX8_addGlob 25 = .ok (.getfield 38, 3) := by decide +kernel
theorem dX8_addGlob_28 : decode cX8_addGlob 28 = .ok (.iload_n 1, 1) := by decide +kernel
theorem dX8_addGlob_29 : decode cX8_addGlob 29 = .ok (.iaload, 1) := by decide +kernel
theorem dX8_addGlob_30 : decode cX8_addGlob 30 = .ok (.iconst 4, 1) := by decide +kernel
theorem dX8_addGlob_31 : decode cX8_addGlob 31 = .ok (.if_icmp .ne 7, 3) := by decide +kernel
theorem dX8_addGlob_34 : decode cX8_addGlob 34 = .ok (.iconst 3, 1) := by decide +kernel
theorem dX8_addGlob_35 : decode cX8_addGlob 35 = .ok (.goto 4, 3) := by decide +kernel
theorem dX8_addGlob_38 : decode cX8_addGlob 38 = .ok (.iconst 0, 1) := by decide +kernel
theorem dX8_addGlob_39 : decode cX8_addGlob 39 = .ok (.putfield 77, 3) := by decide +kernel
theorem dX8_addGlob_42 : decode cX8_addGlob 42 = .ok (.aload_n 0, 1) := by decide +kernel
theorem dX8_addGlob_43 : decode cX8_addGlob 43 = .ok (.getfield 77, 3) := by decide +kernel
theorem dX8_addGlob_46 : decode cX8_addGlob 46 = .ok (.ifCond .le 5, 3) := by decide +kernel
theorem dX8_addGlob_49 : decode cX8_addGlob 49 = .ok (.iconst 0, 1) := by decide +kernel
theorem dX8_addGlob_50 : decode cX8_addGlob 50 = .ok (.ireturn, 1) := by decide +kernel
theorem dX8_addGlob_51 : decode cX8_addGlob 51 = .ok (.aload_n 0, 1) := by decide +kernel
theorem dX8_addGlob_52 : decode cX8_addGlob 52 = .ok (.iconst 4, 1) := by decide +kernel
theorem dX8_addGlob_53 : decode cX8_addGlob 53 = .ok (.iload_n 1, 1) := by decide +kernel
theorem dX8_addGlob_54 : decode cX8_addGlob 54 = .ok (.imul, 1) := by decide +kernel
theorem dX8_addGlob_55 : decode cX8_addGlob 55 = .ok (.aload_n 0, 1) := by decide +kernel
theorem dX8_addGlob_56 : decode cX8_addGlob 56 = .ok (.getfield 38, 3) := by decide +kernel
theorem dX8_addGlob_59 : decode cX8_addGlob 59 = .ok (.iload_n 1, 1) := by decide +kernel
theorem dX8_addGlob_60 : decode cX8_addGlob 60 = .ok (.iaload, 1) := by decide +kernel
theorem dX8_addGlob_61 : decode cX8_addGlob 61 = .ok (.iadd, 1) := by decide +kernel
theorem dX8_addGlob_62 : decode cX8_addGlob 62 = .ok (.invokevirtual 136, 3) := by decide +kernel
theorem dX8_addGlob_65 : decode cX8_addGlob 65 = .ok (.aload_n 0, 1) := by decide +kernel
theorem dX8_addGlob_66 : decode cX8_addGlob 66 = .ok (.getfield 38, 3) := by decide +kernel
theorem dX8_addGlob_69 : decode cX8_addGlob 69 = .ok (.iload_n 1, 1) := by decide +kernel
theorem dX8_addGlob_70 : decode cX8_addGlob 70 = .ok (.dup2, 1) := by decide +kernel
theorem dX8_addGlob_71 : decode cX8_addGlob 71 = .ok (.iaload, 1) := by decide +kernel
theorem dX8_addGlob_72 : decode cX8_addGlob 72 = .ok (.iconst 1, 1) := by decide +kernel
theorem dX8_addGlob_73 : decode cX8_addGlob 73 = .ok (.iadd, 1) := by decide +kernel
theorem dX8_addGlob_74 : decode cX8_addGlob 74 = .ok (.iastore, 1) := by decide +kernel
theorem dX8_addGlob_75 : decode cX8_addGlob 75 = .ok (.aload_n 0, 1) := by decide +kernel
theorem dX8_addGlob_76 : decode cX8_addGlob 76 = .ok (.iload_n 1, 1) := by decide +kernel
theorem dX8_addGlob_77 : decode cX8_addGlob 77 = .ok (.invokevirtual 140, 3) := by decide +kernel
theorem dX8_addGlob_80 : decode cX8_addGlob 80 = .ok (.invokestatic 144, 3) := by decide +kernel
theorem dX8_addGlob_83 : decode cX8_addGlob 83 = .ok (.ireturn, 1) := by decide +kernel
theorem dX8_upwards_0 : decode cX8_upwards 0 = .ok (.iload_n 1, 1) := by decide +kernel
theorem dX8_upwards_1 : decode cX8_upwards 1 = .ok (.istore_n 2, 1) := by decide +kernel
theorem dX8_upwards_2 : decode cX8_upwards 2 = .ok (.iconst 0, 1) := by decide +kernel
theorem dX8_upwards_3 : decode cX8_upwards 3 = .ok (.istore_n 3, 1) := by decide +kernel
theorem dX8_upwards_4 : decode cX8_upwards 4 = .ok (.iload_n 3, 1) := by decide +kernel
theorem dX8_upwards_5 : decode cX8_upwards 5 = .ok (.aload_n 0, 1) := by decide +kernel
theorem dX8_upwards_6 : decode cX8_upwards 6 = .ok (.getfield 127, 3) := by decide +kernel
theorem dX8_upwards_9 : decode cX8_upwards 9 = .ok (.if_icmp .ge 50, 3) := by decide +kernel
theorem dX8_upwards_12 : decode cX8_upwards 12 = .ok (.iconst 0, 1) := by decide +kernel
theorem dX8_upwards_13 : decode cX8_upwards 13 = .ok (.istore 4, 2) := by decide +kernel
theorem dX8_upwards_15 : decode cX8_upwards 15 = .ok (.iload 4, 2) := by decide +kernel
theorem dX8_upwards_17 : decode cX8_upwards 17 = .ok (.aload_n 0, 1) := by decide +kernel
theorem dX8_upwards_18 : decode cX8_upwards 18 = .ok (.getfield 127, 3) := by decide +kernel
theorem dX8_upwards_21 : decode cX8_upwards 21 = .ok (.if_icmp .ge 32, 3) := by decide +kernel
theorem dX8_upwards_24 : decode cX8_upwards 24 = .ok (.iload_n 2, 1) := by decide +kernel
theorem dX8_upwards_25 : decode cX8_upwards 25 = .ok (.aload_n 0, 1) := by decide +kernel
theorem dX8_upwards_26 : decode cX8_upwards 26 = .ok (.getfield 41, 3) := by decide +kernel
theorem dX8_upwards_29 : decode cX8_upwards 29 = .ok (.iload 4, 2) := by decide +kernel
theorem dX8_upwards_31 : decode cX8_upwards 31 = .ok (.iaload, 1) := by decide +kernel
theorem dX8_upwards_32 : decode cX8_upwards 32 = .ok (.iload_n 2, 1) := by decide +kernel
theorem dX8_upwards_33 : decode cX8_upwards 33 = .ok (.iand, 1) := by decide +kernel
theorem dX8_upwards_34 : decode cX8_upwards 34 = .ok (.ifCond .eq 10, 3) := by decide +kernel
theorem dX8_upwards_37 : decode cX8_upwards 37 = .ok (.iconst 1, 1) := by decide +kernel
theorem dX8_upwards_38 : decode cX8_upwards 38 = .ok (.iload 4, 2) := by decide +kernel
theorem dX8_upwards_40 : decode cX8_upwards 40 = .ok (.ishl, 1) := by decide +kernel
theorem dX8_upwards_41 : decode cX8_upwards 41 = .ok (.goto 4, 3) := by decide +kernel
theorem dX8_upwards_44 : decode cX8_upwards 44 = .ok (.iconst 0, 1) := by decide +kernel
theorem dX8_upwards_45 : decode cX8_upwards 45 = .ok (.ior, 1) := by decide +kernel
theorem dX8_upwards_46 : decode cX8_upwards 46 = .ok (.istore_n 2, 1) := by decide +kernel
theorem dX8_upwards_47 : decode cX8_upwards 47 = .ok (.iinc 4 1, 3) := by decide +kernel
theorem dX8_upwards_50 : decode cX8_upwards 50 = .ok (.goto (-35), 3) := by decide +kernel
theorem dX8_upwards_53 : decode cX8_upwards 53 = .ok (.iinc 3 1, 3) := by decide +kernel
theorem dX8_upwards_56 : decode cX8_upwards 56 = .ok (.goto (-52), 3) := by decide +kernel
theorem dX8_upwards_59 : decode cX8_upwards 59 = .ok (.iload_n 2, 1) := by decide +kernel
theorem dX8_upwards_60 : decode cX8_upwards 60 = .ok (.ireturn, 1) := by decide +kernel
theorem dX8_aboveOf_0 : decode cX8_aboveOf 0 = .ok (.aload_n 0, 1) := by decide +kernel
theorem dX8_aboveOf_1 : decode cX8_aboveOf 1 = .ok (.iconst 1, 1) := by decide +kernel
theorem dX8_aboveOf_2 : decode cX8_aboveOf 2 = .ok (.iload_n 1, 1) := by decide +kernel
theorem dX8_aboveOf_3 : decode cX8_aboveOf 3 = .ok (.ishl, 1) := by decide +kernel
theorem dX8_aboveOf_4 : decode cX8_aboveOf 4 = .ok (.invokevirtual 147, 3) := by decide +kernel
theorem dX8_aboveOf_7 : decode cX8_aboveOf 7 = .ok (.iconst 1, 1) := by decide +kernel
theorem dX8_aboveOf_8 : decode cX8_aboveOf 8 = .ok (.iload_n 1, 1) := by decide +kernel
theorem dX8_aboveOf_9 : decode cX8_aboveOf 9 = .ok (.ishl, 1) := by decide +kernel
theorem dX8_aboveOf_10 : decode cX8_aboveOf 10 = .ok (.iconst (-1), 1) := by decide +kernel
theorem dX8_aboveOf_11 : decode cX8_aboveOf 11 = .ok (.ixor, 1) := by decide +kernel
theorem dX8_aboveOf_12 : decode cX8_aboveOf 12 = .ok (.iand, 1) := by decide +kernel
theorem dX8_aboveOf_13 : decode cX8_aboveOf 13 = .ok (.ireturn, 1) := by decide +kernel
theorem dX8_depend_0 : decode cX8_depend 0 = .ok (.aload_n 0, 1) := by decide +kernel
theorem dX8_depend_1 : decode cX8_depend 1 = .ok (.aload_n 0, 1) := by decide +kernel
theorem dX8_depend_2 : decode cX8_depend 2 = .ok (.iload_n 1, 1) := by decide +kernel
theorem dX8_depend_3 : decode cX8_depend 3 = .ok (.invokevirtual 133, 3) := by decide +kernel
theorem dX8_depend_6 : decode cX8_depend 6 = .ok (.ifCond .eq 15, 3) := by decide +kernel
theorem dX8_depend_9 : decode cX8_depend 9 = .ok (.aload_n 0, 1) := by decide +kernel
theorem dX8_depend_10 : decode cX8_depend 10 = .ok (.iload_n 2, 1) := by decide +kernel
theorem dX8_depend_11 : decode cX8_depend 11 = .ok (.invokevirtual 133, 3) := by decide +kernel
theorem dX8_depend_14 : decode cX8_depend 14 = .ok (.ifCond .eq 7, 3) := by decide +kernel
theorem dX8_depend_17 : decode cX8_depend 17 = .ok (.iconst 0, 1) := by decide +kernel
theorem dX8_depend_18 : decode cX8_depend 18 = .ok (.goto 4, 3) := by decide +kernel
theorem dX8_depend_21 : decode cX8_depend 21 = .ok (.iconst 1, 1) := by decide +kernel
theorem dX8_depend_22 : decode cX8_depend 22 = .ok (.putfield 77, 3) := by decide +kernel
theorem dX8_depend_25 : decode cX8_depend 25 = .ok (.aload_n 0, 1) := by decide +kernel
theorem dX8_depend_26 : decode cX8_depend 26 = .ok (.getfield 77, 3) := by decide +kernel
theorem dX8_depend_29 : decode cX8_depend 29 = .ok (.ifCond .le 5, 3) := by decide +kernel
theorem dX8_depend_32 : decode cX8_depend 32 = .ok (.iconst 0, 1) := by decide +kernel
theorem dX8_depend_33 : decode cX8_depend 33 = .ok (.ireturn, 1) := by decide +kernel
theorem dX8_depend_34 : decode cX8_depend 34 = .ok (.aload_n 0, 1) := by decide +kernel
theorem dX8_depend_35 : decode cX8_depend 35 = .ok (.aload_n 0, 1) := by decide +kernel
theorem dX8_depend_36 : decode cX8_depend 36 = .ok (.getfield 41, 3) := by decide +kernel
theorem dX8_depend_39 : decode cX8_depend 39 = .ok (.iload_n 1, 1) := by decide +kernel
theorem dX8_depend_40 : decode cX8_depend 40 = .ok (.iaload, 1) := by decide +kernel
theorem dX8_depend_41 : decode cX8_depend 41 = .ok (.iload_n 2, 1) := by decide +kernel
theorem dX8_depend_42 : decode cX8_depend 42 = .ok (.ishr, 1) := by decide +kernel
theorem dX8_depend_43 : decode cX8_depend 43 = .ok (.iconst 1, 1) := by decide +kernel
theorem dX8_depend_44 : decode cX8_depend 44 = .ok (.iand, 1) := by decide +kernel
theorem dX8_depend_45 : decode cX8_depend 45 = .ok (.iconst 1, 1) := by decide +kernel
theorem dX8_depend_46 : decode cX8_depend 46 = .ok (.if_icmp .eq 21, 3) := by decide +kernel
theorem dX8_depend_49 : decode cX8_depend 49 = .ok (.iload_n 1, 1) := by decide +kernel
theorem dX8_depend_50 : decode cX8_depend 50 = .ok (.iload_n 2, 1) := by decide +kernel
theorem dX8_depend_51 : decode cX8_depend 51 = .ok (.if_icmp .eq 16, 3) := by decide +kernel
theorem dX8_depend_54 : decode cX8_depend 54 = .ok (.aload_n 0, 1) := by decide +kernel
theorem dX8_depend_55 : decode cX8_depend 55 = .ok (.iload_n 1, 1) := by decide +kernel
theorem dX8_depend_56 : decode cX8_depend 56 = .ok (.invokevirtual 150, 3) := by decide +kernel
theorem dX8_depend_59 : decode cX8_depend 59 = .ok (.iload_n 2, 1) := by decide +kernel
theorem dX8_depend_60 : decode cX8_depend 60 = .ok (.ishr, 1) := by decide +kernel
theorem dX8_depend_61 : decode cX8_depend 61 = .ok (.iconst 1, 1) := by decide +kernel
theorem dX8_depend_62 : decode cX8_depend 62 = .ok (.iand, 1) := by decide +kernel
theorem dX8_depend_63 : decode cX8_depend 63 = .ok (.iconst 1, 1) := by decide +kernel
theorem dX8_depend_64 : decode cX8_depend 64 = .ok (.if_icmp .ne 7, 3) := by decide +kernel
theorem dX8_depend_67 : decode cX8_depend 67 = .ok (.iconst 2, 1) := by decide +kernel
theorem dX8_depend_68 : decode cX8_depend 68 = .ok (.goto 4, 3) := by decide +kernel
theorem dX8_depend_71 : decode cX8_depend 71 = .ok (.iconst 0, 1) := by decide +kernel
theorem dX8_depend_72 : decode cX8_depend 72 = .ok (.putfield 77, 3) := by decide +kernel
theorem dX8_depend_75 : decode cX8_depend 75 = .ok (.aload_n 0, 1) := by decide +kernel
theorem dX8_depend_76 : decode cX8_depend 76 = .ok (.getfield 77, 3) := by decide +kernel
theorem dX8_depend_79 : decode cX8_depend 79 = .ok (.ifCond .le 5, 3) := by decide +kernel
theorem dX8_depend_82 : decode cX8_depend 82 = .ok (.iconst 0, 1) := by decide +kernel
theorem dX8_depend_83 : decode cX8_depend 83 = .ok (.ireturn, 1) := by decide +kernel
theorem dX8_depend_84 : decode cX8_depend 84 = .ok (.aload_n 0, 1) := by decide +kernel
theorem dX8_depend_85 : decode cX8_depend 85 = .ok (.getfield 41, 3) := by decide +kernel
theorem dX8_depend_88 : decode cX8_depend 88 = .ok (.iload_n 1, 1) := by decide +kernel
theorem dX8_depend_89 : decode cX8_depend 89 = .ok (.dup2, 1) := by decide +kernel
theorem dX8_depend_90 : decode cX8_depend 90 = .ok (.iaload, 1) := by decide +kernel
theorem dX8_depend_91 : decode cX8_depend 91 = .ok (.iconst 1, 1) := by decide +kernel
theorem dX8_depend_92 : decode cX8_depend 92 = .ok (.iload_n 2, 1) := by decide +kernel
theorem dX8_depend_93 : decode cX8_depend 93 = .ok (.ishl, 1) := by decide +kernel
theorem dX8_depend_94 : decode cX8_depend 94 = .ok (.ior, 1) := by decide +kernel
theorem dX8_depend_95 : decode cX8_depend 95 = .ok (.iastore, 1) := by decide +kernel
theorem dX8_depend_96 : decode cX8_depend 96 = .ok (.aload_n 0, 1) := by decide +kernel
theorem dX8_depend_97 : decode cX8_depend 97 = .ok (.getfield 41, 3) := by decide +kernel
theorem dX8_depend_100 : decode cX8_depend 100 = .ok (.iload_n 1, 1) := by decide +kernel
theorem dX8_depend_101 : decode cX8_depend 101 = .ok (.iaload, 1) := by decide +kernel
theorem dX8_depend_102 : decode cX8_depend 102 = .ok (.invokestatic 144, 3) := by decide +kernel
theorem dX8_depend_105 : decode cX8_depend 105 = .ok (.ireturn, 1) := by decide +kernel
theorem dX8_targets_0 : decode cX8_targets 0 = .ok (.aload_n 0, 1) := by decide +kernel
theorem dX8_targets_1 : decode cX8_targets 1 = .ok (.iconst 0, 1) := by decide +kernel
theorem dX8_targets_2 : decode cX8_targets 2 = .ok (.putfield 77, 3) := by decide +kernel
theorem dX8_targets_5 : decode cX8_targets 5 = .ok (.aload_n 0, 1) := by decide +kernel
theorem dX8_targets_6 : decode cX8_targets 6 = .ok (.getfield 127, 3) := by decide +kernel
theorem dX8_targets_9 : decode cX8_targets 9 = .ok (.ireturn, 1) := by decide +kernel
theorem dX8_inputs_0 : decode cX8_inputs 0 = .ok (.aload_n 0, 1) := by decide +kernel
theorem dX8_inputs_1 : decode cX8_inputs 1 = .ok (.aload_n 0, 1) := by decide +kernel
theorem dX8_inputs_2 : decode cX8_inputs 2 = .ok (.iload_n 1, 1) := by decide +kernel
theorem dX8_inputs_3 : decode cX8_inputs 3 = .ok (.invokevirtual 133, 3) := by decide +kernel
theorem dX8_inputs_6 : decode cX8_inputs 6 = .ok (.ifCond .eq 7, 3) := by decide +kernel
theorem dX8_inputs_9 : decode cX8_inputs 9 = .ok (.iconst 0, 1) := by decide +kernel
theorem dX8_inputs_10 : decode cX8_inputs 10 = .ok (.goto 4, 3) := by decide +kernel
theorem dX8_inputs_13 : decode cX8_inputs 13 = .ok (.iconst 1, 1) := by decide +kernel
theorem dX8_inputs_14 : decode cX8_inputs 14 = .ok (.putfield 77, 3) := by decide +kernel
theorem dX8_inputs_17 : decode cX8_inputs 17 = .ok (.aload_n 0, 1) := by decide +kernel
theorem dX8_inputs_18 : decode cX8_inputs 18 = .ok (.getfield 77, 3) := by decide +kernel
theorem dX8_inputs_21 : decode cX8_inputs 21 = .ok (.ifCond .le 7, 3) := by decide +kernel
theorem dX8_inputs_24 : decode cX8_inputs 24 = .ok (.iconst 0, 1) := by decide +kernel
theorem dX8_inputs_25 : decode cX8_inputs 25 = .ok (.goto 8, 3) := by decide +kernel
theorem dX8_inputs_28 : decode cX8_inputs 28 = .ok (.aload_n 0, 1) := by decide +kernel
theorem dX8_inputs_29 : decode cX8_inputs 29 = .ok (.iload_n 1, 1) := by decide +kernel
theorem dX8_inputs_30 : decode cX8_inputs 30 = .ok (.invokevirtual 140, 3) := by decide +kernel
theorem dX8_inputs_33 : decode cX8_inputs 33 = .ok (.ireturn, 1) := by decide +kernel
theorem dX8_above_0 : decode cX8_above 0 = .ok (.aload_n 0, 1) := by decide +kernel
theorem dX8_above_1 : decode cX8_above 1 = .ok (.aload_n 0, 1) := by decide +kernel
theorem dX8_above_2 : decode cX8_above 2 = .ok (.iload_n 1, 1) := by decide +kernel
theorem dX8_above_3 : decode cX8_above 3 = .ok (.invokevirtual 133, 3) := by decide +kernel
theorem dX8_above_6 : decode cX8_above 6 = .ok (.ifCond .eq 7, 3) := by decide +kernel
theorem dX8_above_9 : decode cX8_above 9 = .ok (.iconst 0, 1) := by decide +kernel
theorem dX8_above_10 : decode cX8_above 10 = .ok (.goto 4, 3) := by decide +kernel
theorem dX8_above_13 : decode cX8_above 13 = .ok (.iconst 1, 1) := by decide +kernel
theorem dX8_above_14 : decode cX8_above 14 = .ok (.putfield 77, 3) := by decide +kernel
theorem dX8_above_17 : decode cX8_above 17 = .ok (.aload_n 0, 1) := by decide +kernel
theorem dX8_above_18 : decode cX8_above 18 = .ok (.getfield 77, 3) := by decide +kernel
theorem dX8_above_21 : decode cX8_above 21 = .ok (.ifCond .le 7, 3) := by decide +kernel
theorem dX8_above_24 : decode cX8_above 24 = .ok (.iconst 0, 1) := by decide +kernel
theorem dX8_above_25 : decode cX8_above 25 = .ok (.goto 8, 3) := by decide +kernel
theorem dX8_above_28 : decode cX8_above 28 = .ok (.aload_n 0, 1) := by decide +kernel
theorem dX8_above_29 : decode cX8_above 29 = .ok (.iload_n 1, 1) := by decide +kernel
theorem dX8_above_30 : decode cX8_above 30 = .ok (.invokevirtual 150, 3) := by decide +kernel
theorem dX8_above_33 : decode cX8_above 33 = .ok (.ireturn, 1) := by decide +kernel
theorem dX8_orders_0 : decode cX8_orders 0 = .ok (.iconst 0, 1) := by decide +kernel
theorem dX8_orders_1 : decode cX8_orders 1 = .ok (.istore_n 1, 1) := by decide +kernel
theorem dX8_orders_2 : decode cX8_orders 2 = .ok (.iconst 0, 1) := by decide +kernel
theorem dX8_orders_3 : decode cX8_orders 3 = .ok (.istore_n 2, 1) := by decide +kernel
theorem dX8_orders_4 : decode cX8_orders 4 = .ok (.iload_n 2, 1) := by decide +kernel
theorem dX8_orders_5 : decode cX8_orders 5 = .ok (.aload_n 0, 1) := by decide +kernel
theorem dX8_orders_6 : decode cX8_orders 6 = .ok (.getfield 127, 3) := by decide +kernel
theorem dX8_orders_9 : decode cX8_orders 9 = .ok (.if_icmp .ge 73, 3) := by decide +kernel
theorem dX8_orders_12 : decode cX8_orders 12 = .ok (.iconst (-1), 1) := by decide +kernel
theorem dX8_orders_13 : decode cX8_orders 13 = .ok (.istore_n 3, 1) := by decide +kernel
theorem dX8_orders_14 : decode cX8_orders 14 = .ok (.aload_n 0, 1) := by decide +kernel
theorem dX8_orders_15 : decode cX8_orders 15 = .ok (.getfield 127, 3) := by decide +kernel
theorem dX8_orders_18 : decode cX8_orders 18 = .ok (.iconst 1, 1) := by decide +kernel
theorem dX8_orders_19 : decode cX8_orders 19 = .ok (.isub, 1) := by decide +kernel
theorem dX8_orders_20 : decode cX8_orders 20 = .ok (.istore 4, 2) := by decide +kernel
theorem dX8_orders_22 : decode cX8_orders 22 = .ok (.iload 4, 2) := by decide +kernel
theorem dX8_orders_24 : decode cX8_orders 24 = .ok (.ifCond .lt 39, 3) := by decide +kernel
theorem dX8_orders_27 : decode cX8_orders 27 = .ok (.iload_n 1, 1) := by decide +kernel
theorem dX8_orders_28 : decode cX8_orders 28 = .ok (.iload 4, 2) := by decide +kernel
theorem dX8_orders_30 : decode cX8_orders 30 = .ok (.ishr, 1) := by decide +kernel
theorem dX8_orders_31 : decode cX8_orders 31 = .ok (.iconst 1, 1) := by decide +kernel
theorem dX8_orders_32 : decode cX8_orders 32 = .ok (.iand, 1) := by decide +kernel
theorem dX8_orders_33 : decode cX8_orders 33 = .ok (.ifCond .ne 22, 3) := by decide +kernel
theorem dX8_orders_36 : decode cX8_orders 36 = .ok (.aload_n 0, 1) := by decide +kernel
theorem dX8_orders_37 : decode cX8_orders 37 = .ok (.getfield 41, 3) := by decide +kernel
theorem dX8_orders_40 : decode cX8_orders 40 = .ok (.iload 4, 2) := by decide +kernel
theorem dX8_orders_42 : decode cX8_orders 42 = .ok (.iaload, 1) := by decide +kernel
theorem dX8_orders_43 : decode cX8_orders 43 = .ok (.iload_n 1, 1) := by decide +kernel
theorem dX8_orders_44 : decode cX8_orders 44 = .ok (.iconst (-1), 1) := by decide +kernel
theorem dX8_orders_45 : decode cX8_orders 45 = .ok (.ixor, 1) := by decide +kernel
theorem dX8_orders_46 : decode cX8_orders 46 = .ok (.iand, 1) := by decide +kernel
theorem dX8_orders_47 : decode cX8_orders 47 = .ok (.ifCond .ne 8, 3) := by decide +kernel
theorem dX8_orders_50 : decode cX8_orders 50 = .ok (.iload 4, 2) := by decide +kernel
theorem dX8_orders_52 : decode cX8_orders 52 = .ok (.goto 4, 3) := by decide +kernel
theorem dX8_orders_55 : decode cX8_orders 55 = .ok (.iload_n 3, 1) := by decide +kernel
theorem dX8_orders_56 : decode cX8_orders 56 = .ok (.istore_n 3, 1) := by decide +kernel
theorem dX8_orders_57 : decode cX8_orders 57 = .ok (.iinc 4 (-1), 3) := by decide +kernel
theorem dX8_orders_60 : decode cX8_orders 60 = .ok (.goto (-38), 3) := by decide +kernel
theorem dX8_orders_63 : decode cX8_orders 63 = .ok (.aload_n 0, 1) := by decide +kernel
theorem dX8_orders_64 : decode cX8_orders 64 = .ok (.getfield 65, 3) := by decide +kernel
theorem dX8_orders_67 : decode cX8_orders 67 = .ok (.iload_n 2, 1) := by decide +kernel
theorem dX8_orders_68 : decode cX8_orders 68 = .ok (.iload_n 3, 1) := by decide +kernel
theorem dX8_orders_69 : decode cX8_orders 69 = .ok (.iastore, 1) := by decide +kernel
theorem dX8_orders_70 : decode cX8_orders 70 = .ok (.iload_n 1, 1) := by decide +kernel
theorem dX8_orders_71 : decode cX8_orders 71 = .ok (.iconst 1, 1) := by decide +kernel
theorem dX8_orders_72 : decode cX8_orders 72 = .ok (.iload_n 3, 1) := by decide +kernel
theorem dX8_orders_73 : decode cX8_orders 73 = .ok (.ishl, 1) := by decide +kernel
theorem dX8_orders_74 : decode cX8_orders 74 = .ok (.ior, 1) := by decide +kernel
theorem dX8_orders_75 : decode cX8_orders 75 = .ok (.istore_n 1, 1) := by decide +kernel
theorem dX8_orders_76 : decode cX8_orders 76 = .ok (.iinc 2 1, 3) := by decide +kernel
theorem dX8_orders_79 : decode cX8_orders 79 = .ok (.goto (-75), 3) := by decide +kernel
theorem dX8_orders_82 : decode cX8_orders 82 = .ok (.return_, 1) := by decide +kernel
theorem dX8_orderAt_0 : decode cX8_orderAt 0 = .ok (.aload_n 0, 1) := by decide +kernel
theorem dX8_orderAt_1 : decode cX8_orderAt 1 = .ok (.aload_n 0, 1) := by decide +kernel
theorem dX8_orderAt_2 : decode cX8_orderAt 2 = .ok (.iload_n 1, 1) := by decide +kernel
theorem dX8_orderAt_3 : decode cX8_orderAt 3 = .ok (.invokevirtual 133, 3) := by decide +kernel
theorem dX8_orderAt_6 : decode cX8_orderAt 6 = .ok (.ifCond .eq 7, 3) := by decide +kernel
theorem dX8_orderAt_9 : decode cX8_orderAt 9 = .ok (.iconst 0, 1) := by decide +kernel
theorem dX8_orderAt_10 : decode cX8_orderAt 10 = .ok (.goto 4, 3) := by decide +kernel
theorem dX8_orderAt_13 : decode cX8_orderAt 13 = .ok (.iconst 1, 1) := by decide +kernel
theorem dX8_orderAt_14 : decode cX8_orderAt 14 = .ok (.putfield 77, 3) := by decide +kernel
theorem dX8_orderAt_17 : decode cX8_orderAt 17 = .ok (.aload_n 0, 1) := by decide +kernel
theorem dX8_orderAt_18 : decode cX8_orderAt 18 = .ok (.getfield 77, 3) := by decide +kernel
theorem dX8_orderAt_21 : decode cX8_orderAt 21 = .ok (.ifCond .le 5, 3) := by decide +kernel
theorem dX8_orderAt_24 : decode cX8_orderAt 24 = .ok (.iconst 0, 1) := by decide +kernel
theorem dX8_orderAt_25 : decode cX8_orderAt 25 = .ok (.ireturn, 1) := by decide +kernel
theorem dX8_orderAt_26 : decode cX8_orderAt 26 = .ok (.aload_n 0, 1) := by decide +kernel
theorem dX8_orderAt_27 : decode cX8_orderAt 27 = .ok (.invokevirtual 153, 3) := by decide +kernel
theorem dX8_orderAt_30 : decode cX8_orderAt 30 = .ok (.aload_n 0, 1) := by decide +kernel
theorem dX8_orderAt_31 : decode cX8_orderAt 31 = .ok (.getfield 65, 3) := by decide +kernel
theorem dX8_orderAt_34 : decode cX8_orderAt 34 = .ok (.iload_n 1, 1) := by decide +kernel
theorem dX8_orderAt_35 : decode cX8_orderAt 35 = .ok (.iaload, 1) := by decide +kernel
theorem dX8_orderAt_36 : decode cX8_orderAt 36 = .ok (.ireturn, 1) := by decide +kernel
theorem dX8_affected_0 : decode cX8_affected 0 = .ok (.iconst 0, 1) := by decide +kernel
theorem dX8_affected_1 : decode cX8_affected 1 = .ok (.istore_n 2, 1) := by decide +kernel
theorem dX8_affected_2 : decode cX8_affected 2 = .ok (.iconst 0, 1) := by decide +kernel
theorem dX8_affected_3 : decode cX8_affected 3 = .ok (.istore_n 3, 1) := by decide +kernel
theorem dX8_affected_4 : decode cX8_affected 4 = .ok (.iload_n 3, 1) := by decide +kernel
theorem dX8_affected_5 : decode cX8_affected 5 = .ok (.aload_n 0, 1) := by decide +kernel
theorem dX8_affected_6 : decode cX8_affected 6 = .ok (.getfield 127, 3) := by decide +kernel
theorem dX8_affected_9 : decode cX8_affected 9 = .ok (.if_icmp .ge 28, 3) := by decide +kernel
theorem dX8_affected_12 : decode cX8_affected 12 = .ok (.iload_n 2, 1) := by decide +kernel
theorem dX8_affected_13 : decode cX8_affected 13 = .ok (.aload_n 0, 1) := by decide +kernel
theorem dX8_affected_14 : decode cX8_affected 14 = .ok (.iload_n 3, 1) := by decide +kernel
theorem dX8_affected_15 : decode cX8_affected 15 = .ok (.iload_n 1, 1) := by decide +kernel
theorem dX8_affected_16 : decode cX8_affected 16 = .ok (.invokevirtual 130, 3) := by decide +kernel
theorem dX8_affected_19 : decode cX8_affected 19 = .ok (.ifCond .eq 9, 3) := by decide +kernel
theorem dX8_affected_22 : decode cX8_affected 22 = .ok (.iconst 1, 1) := by decide +kernel
theorem dX8_affected_23 : decode cX8_affected 23 = .ok (.iload_n 3, 1) := by decide +kernel
theorem dX8_affected_24 : decode cX8_affected 24 = .ok (.ishl, 1) := by decide +kernel
theorem dX8_affected_25 : decode cX8_affected 25 = .ok (.goto 4, 3) := by decide +kernel
theorem dX8_affected_28 : decode cX8_affected 28 = .ok (.iconst 0, 1) := by decide +kernel
theorem dX8_affected_29 : decode cX8_affected 29 = .ok (.ior, 1) := by decide +kernel
theorem dX8_affected_30 : decode cX8_affected 30 = .ok (.istore_n 2, 1) := by decide +kernel
theorem dX8_affected_31 : decode cX8_affected 31 = .ok (.iinc 3 1, 3) := by decide +kernel
theorem dX8_affected_34 : decode cX8_affected 34 = .ok (.goto (-30), 3) := by decide +kernel
theorem dX8_affected_37 : decode cX8_affected 37 = .ok (.aload_n 0, 1) := by decide +kernel
theorem dX8_affected_38 : decode cX8_affected 38 = .ok (.iload_n 2, 1) := by decide +kernel
theorem dX8_affected_39 : decode cX8_affected 39 = .ok (.invokevirtual 147, 3) := by decide +kernel
theorem dX8_affected_42 : decode cX8_affected 42 = .ok (.ireturn, 1) := by decide +kernel
theorem dX8_affectedBy_0 : decode cX8_affectedBy 0 = .ok (.aload_n 0, 1) := by decide +kernel
theorem dX8_affectedBy_1 : decode cX8_affectedBy 1 = .ok (.iload_n 1, 1) := by decide +kernel
theorem dX8_affectedBy_2 : decode cX8_affectedBy 2 = .ok (.iconst 0, 1) := by decide +kernel
theorem dX8_affectedBy_3 : decode cX8_affectedBy 3 = .ok (.aload_n 0, 1) := by decide +kernel
theorem dX8_affectedBy_4 : decode cX8_affectedBy 4 = .ok (.getfield 108, 3) := by decide +kernel
theorem dX8_affectedBy_7 : decode cX8_affectedBy 7 = .ok (.iconst 1, 1) := by decide +kernel
theorem dX8_affectedBy_8 : decode cX8_affectedBy 8 = .ok (.isub, 1) := by decide +kernel
theorem dX8_affectedBy_9 : decode cX8_affectedBy 9 = .ok (.invokestatic 111, 3) := by decide +kernel
theorem dX8_affectedBy_12 : decode cX8_affectedBy 12 = .ok (.ifCond .eq 7, 3) := by decide +kernel
theorem dX8_affectedBy_15 : decode cX8_affectedBy 15 = .ok (.iconst 0, 1) := by decide +kernel
theorem dX8_affectedBy_16 : decode cX8_affectedBy 16 = .ok (.goto 4, 3) := by decide +kernel
theorem dX8_affectedBy_19 : decode cX8_affectedBy 19 = .ok (.iconst 1, 1) := by decide +kernel
theorem dX8_affectedBy_20 : decode cX8_affectedBy 20 = .ok (.putfield 77, 3) := by decide +kernel
theorem dX8_affectedBy_23 : decode cX8_affectedBy 23 = .ok (.aload_n 0, 1) := by decide +kernel
theorem dX8_affectedBy_24 : decode cX8_affectedBy 24 = .ok (.getfield 77, 3) := by decide +kernel
theorem dX8_affectedBy_27 : decode cX8_affectedBy 27 = .ok (.ifCond .le 7, 3) := by decide +kernel
theorem dX8_affectedBy_30 : decode cX8_affectedBy 30 = .ok (.iconst 0, 1) := by decide +kernel
theorem dX8_affectedBy_31 : decode cX8_affectedBy 31 = .ok (.goto 8, 3) := by decide +kernel
theorem dX8_affectedBy_34 : decode cX8_affectedBy 34 = .ok (.aload_n 0, 1) := by decide +kernel
theorem dX8_affectedBy_35 : decode cX8_affectedBy 35 = .ok (.iload_n 1, 1) := by decide +kernel
theorem dX8_affectedBy_36 : decode cX8_affectedBy 36 = .ok (.invokevirtual 156, 3) := by decide +kernel
theorem dX8_affectedBy_39 : decode cX8_affectedBy 39 = .ok (.ireturn, 1) := by decide +kernel
theorem dX8_affectedByGoingDown_0 : decode cX8_affectedByGoingDown 0 = .ok (.aload_n 0, 1) := by decide +kernel
theorem dX8_affectedByGoingDown_1 : decode cX8_affectedByGoingDown 1 = .ok (.iload_n 1, 1) := by decide +kernel
theorem dX8_affectedByGoingDown_2 : decode cX8_affectedByGoingDown 2 = .ok (.iconst 0, 1) := by decide +kernel
theorem dX8_affectedByGoingDown_3 : decode cX8_affectedByGoingDown 3 = .ok (.aload_n 0, 1) := by decide +kernel
theorem dX8_affectedByGoingDown_4 : decode cX8_affectedByGoingDown 4 = .ok (.getfield 108, 3) := by decide +kernel
theorem dX8_affectedByGoingDown_7 : decode cX8_affectedByGoingDown 7 = .ok (.iconst 1, 1) := by decide +kernel
theorem dX8_affectedByGoingDown_8 : decode cX8_affectedByGoingDown 8 = .ok (.isub, 1) := by decide +kernel
theorem dX8_affectedByGoingDown_9 : decode cX8_affectedByGoingDown 9 = .ok (.invokestatic 111, 3) := by decide +kernel
theorem dX8_affectedByGoingDown_12 : decode cX8_affectedByGoingDown 12 = .ok (.ifCond .eq 7, 3) := by decide +kernel
theorem dX8_affectedByGoingDown_15 : decode cX8_affectedByGoingDown 15 = .ok (.iconst 0, 1) := by decide +kernel
theorem dX8_affectedByGoingDown_16 : decode cX8_affectedByGoingDown 16 = .ok (.goto 4, 3) := by decide +kernel
theorem dX8_affectedByGoingDown_19 : decode cX8_affectedByGoingDown 19 = .ok (.iconst 1, 1) := by decide +kernel
theorem dX8_affectedByGoingDown_20 : decode cX8_affectedByGoingDown 20 = .ok (.putfield 77, 3) := by decide +kernel
theorem dX8_affectedByGoingDown_23 : decode cX8_affectedByGoingDown 23 = .ok (.aload_n 0, 1) := by decide +kernel
theorem dX8_affectedByGoingDown_24 : decode cX8_affectedByGoingDown 24 = .ok (.getfield 77, 3) := by decide +kernel
theorem dX8_affectedByGoingDown_27 : decode cX8_affectedByGoingDown 27 = .ok (.ifCond .le 7, 3) := by decide +kernel
theorem dX8_affectedByGoingDown_30 : decode cX8_affectedByGoingDown 30 = .ok (.iconst 0, 1) := by decide +kernel
theorem dX8_affectedByGoingDown_31 : decode cX8_affectedByGoingDown 31 = .ok (.goto 8, 3) := by decide +kernel
theorem dX8_affectedByGoingDown_34 : decode cX8_affectedByGoingDown 34 = .ok (.aload_n 0, 1) := by decide +kernel
theorem dX8_affectedByGoingDown_35 : decode cX8_affectedByGoingDown 35 = .ok (.iload_n 1, 1) := by decide +kernel
theorem dX8_affectedByGoingDown_36 : decode cX8_affectedByGoingDown 36 = .ok (.invokevirtual 156, 3) := by decide +kernel
theorem dX8_affectedByGoingDown_39 : decode cX8_affectedByGoingDown 39 = .ok (.ireturn, 1) := by decide +kernel
theorem dX8_hasInputs_0 : decode cX8_hasInputs 0 = .ok (.aload_n 0, 1) := by decide +kernel
theorem dX8_hasInputs_1 : decode cX8_hasInputs 1 = .ok (.getfield 53, 3) := by decide +kernel
theorem dX8_hasInputs_4 : decode cX8_hasInputs 4 = .ok (.iload_n 1, 1) := by decide +kernel
theorem dX8_hasInputs_5 : decode cX8_hasInputs 5 = .ok (.iaload, 1) := by decide +kernel
theorem dX8_hasInputs_6 : decode cX8_hasInputs 6 = .ok (.iload_n 2, 1) := by decide +kernel
theorem dX8_hasInputs_7 : decode cX8_hasInputs 7 = .ok (.if_icmp .ne 7, 3) := by decide +kernel
theorem dX8_hasInputs_10 : decode cX8_hasInputs 10 = .ok (.iconst 1, 1) := by decide +kernel
theorem dX8_hasInputs_11 : decode cX8_hasInputs 11 = .ok (.goto 4, 3) := by decide +kernel
theorem dX8_hasInputs_14 : decode cX8_hasInputs 14 = .ok (.iconst 0, 1) := by decide +kernel
theorem dX8_hasInputs_15 : decode cX8_hasInputs 15 = .ok (.istore_n 3, 1) := by decide +kernel
theorem dX8_hasInputs_16 : decode cX8_hasInputs 16 = .ok (.iconst 0, 1) := by decide +kernel
theorem dX8_hasInputs_17 : decode cX8_hasInputs 17 = .ok (.istore 4, 2) := by decide +kernel
theorem dX8_hasInputs_19 : decode cX8_hasInputs 19 = .ok (.iload 4, 2) := by decide +kernel
theorem dX8_hasInputs_21 : decode cX8_hasInputs 21 = .ok (.aload_n 0, 1) := by decide +kernel
theorem dX8_hasInputs_22 : decode cX8_hasInputs 22 = .ok (.getfield 108, 3) := by decide +kernel
theorem dX8_hasInputs_25 : decode cX8_hasInputs 25 = .ok (.if_icmp .ge 48, 3) := by decide +kernel
theorem dX8_hasInputs_28 : decode cX8_hasInputs 28 = .ok (.iload_n 3, 1) := by decide +kernel
theorem dX8_hasInputs_29 : decode cX8_hasInputs 29 = .ok (.iload_n 2, 1) := by decide +kernel
theorem dX8_hasInputs_30 : decode cX8_hasInputs 30 = .ok (.iload 4, 2) := by decide +kernel
theorem dX8_hasInputs_32 : decode cX8_hasInputs 32 = .ok (.ishr, 1) := by decide +kernel
theorem dX8_hasInputs_33 : decode cX8_hasInputs 33 = .ok (.iconst 1, 1) := by decide +kernel
theorem dX8_hasInputs_34 : decode cX8_hasInputs 34 = .ok (.iand, 1) := by decide +kernel
theorem dX8_hasInputs_35 : decode cX8_hasInputs 35 = .ok (.ifCond .eq 25, 3) := by decide +kernel
theorem dX8_hasInputs_38 : decode cX8_hasInputs 38 = .ok (.aload_n 0, 1) := by decide +kernel
theorem dX8_hasInputs_39 : decode cX8_hasInputs 39 = .ok (.getfield 59, 3) := by decide +kernel
theorem dX8_hasInputs_42 : decode cX8_hasInputs 42 = .ok (.bipush 24, 2) := by decide +kernel
theorem dX8_hasInputs_44 : decode cX8_hasInputs 44 = .ok (.iload_n 1, 1) := by decide +kernel
theorem dX8_hasInputs_45 : decode cX8_hasInputs 45 = .ok (.imul, 1) := by decide +kernel
theorem dX8_hasInputs_46 : decode cX8_hasInputs 46 = .ok (.iload 4, 2) := by decide +kernel
theorem dX8_hasInputs_48 : decode cX8_hasInputs 48 = .ok (.iadd, 1) := by decide +kernel
theorem dX8_hasInputs_49 : decode cX8_hasInputs 49 = .ok (.iaload, 1) := by decide +kernel
theorem dX8_hasInputs_50 : decode cX8_hasInputs 50 = .ok (.aload_n 0, 1) := by decide +kernel
theorem dX8_hasInputs_51 : decode cX8_hasInputs 51 = .ok (.getfield 26, 3) := by decide +kernel
theorem dX8_hasInputs_54 : decode cX8_hasInputs 54 = .ok (.iload 4, 2) := by decide +kernel
theorem dX8_hasInputs_56 : decode cX8_hasInputs 56 = .ok (.iaload, 1) := by decide +kernel
theorem dX8_hasInputs_57 : decode cX8_hasInputs 57 = .ok (.if_icmp .ne 7, 3) := by decide +kernel
theorem dX8_hasInputs_60 : decode cX8_hasInputs 60 = .ok (.iconst 1, 1) := by decide +kernel
theorem dX8_hasInputs_61 : decode cX8_hasInputs 61 = .ok (.goto 4, 3) := by decide +kernel
theorem dX8_hasInputs_64 : decode cX8_hasInputs 64 = .ok (.iconst 0, 1) := by decide +kernel
theorem dX8_hasInputs_65 : decode cX8_hasInputs 65 = .ok (.iand, 1) := by decide +kernel
theorem dX8_hasInputs_66 : decode cX8_hasInputs 66 = .ok (.istore_n 3, 1) := by decide +kernel
theorem dX8_hasInputs_67 : decode cX8_hasInputs 67 = .ok (.iinc 4 1, 3) := by decide +kernel
theorem dX8_hasInputs_70 : decode cX8_hasInputs 70 = .ok (.goto (-51), 3) := by decide +kernel
theorem dX8_hasInputs_73 : decode cX8_hasInputs 73 = .ok (.iload_n 3, 1) := by decide +kernel
theorem dX8_hasInputs_74 : decode cX8_hasInputs 74 = .ok (.ireturn, 1) := by decide +kernel
theorem dX8_given_0 : decode cX8_given 0 = .ok (.aload_n 0, 1) := by decide +kernel
theorem dX8_given_1 : decode cX8_given 1 = .ok (.iload_n 1, 1) := by decide +kernel
theorem dX8_given_2 : decode cX8_given 2 = .ok (.invokevirtual 140, 3) := by decide +kernel
theorem dX8_given_5 : decode cX8_given 5 = .ok (.istore_n 2, 1) := by decide +kernel
theorem dX8_given_6 : decode cX8_given 6 = .ok (.iconst 0, 1) := by decide +kernel
theorem dX8_given_7 : decode cX8_given 7 = .ok (.istore_n 3, 1) := by decide +kernel
theorem dX8_given_8 : decode cX8_given 8 = .ok (.iconst 0, 1) := by decide +kernel
theorem dX8_given_9 : decode cX8_given 9 = .ok (.istore 4, 2) := by decide +kernel
theorem dX8_given_11 : decode cX8_given 11 = .ok (.iload 4, 2) := by decide +kernel
theorem dX8_given_13 : decode cX8_given 13 = .ok (.aload_n 0, 1) := by decide +kernel
theorem dX8_given_14 : decode cX8_given 14 = .ok (.getfield 159, 3) := by decide +kernel
theorem dX8_given_17 : decode cX8_given 17 = .ok (.if_icmp .ge 132, 3) := by decide +kernel
theorem dX8_given_20 : decode cX8_given 20 = .ok (.aload_n 0, 1) := by decide +kernel
theorem dX8_given_21 : decode cX8_given 21 = .ok (.getfield 50, 3) := by decide +kernel
theorem dX8_given_24 : decode cX8_given 24 = .ok (.iload 4, 2) := by decide +kernel
theorem dX8_given_26 : decode cX8_given 26 = .ok (.iaload, 1) := by decide +kernel
theorem dX8_given_27 : decode cX8_given 27 = .ok (.iload_n 1, 1) := by decide +kernel
theorem dX8_given_28 : decode cX8_given 28 = .ok (.if_icmp .ne 33, 3) := by decide +kernel
theorem dX8_given_31 : decode cX8_given 31 = .ok (.aload_n 0, 1) := by decide +kernel
theorem dX8_given_32 : decode cX8_given 32 = .ok (.getfield 56, 3) := by decide +kernel
theorem dX8_given_35 : decode cX8_given 35 = .ok (.iload 4, 2) := by decide +kernel
theorem dX8_given_37 : decode cX8_given 37 = .ok (.iaload, 1) := by decide +kernel
theorem dX8_given_38 : decode cX8_given 38 = .ok (.aload_n 0, 1) := by decide +kernel
theorem dX8_given_39 : decode cX8_given 39 = .ok (.getfield 41, 3) := by decide +kernel
theorem dX8_given_42 : decode cX8_given 42 = .ok (.iload_n 1, 1) := by decide +kernel
theorem dX8_given_43 : decode cX8_given 43 = .ok (.iaload, 1) := by decide +kernel
theorem dX8_given_44 : decode cX8_given 44 = .ok (.if_icmp .ne 17, 3) := by decide +kernel
theorem dX8_given_47 : decode cX8_given 47 = .ok (.aload_n 0, 1) := by decide +kernel
theorem dX8_given_48 : decode cX8_given 48 = .ok (.iload 4, 2) := by decide +kernel
theorem dX8_given_50 : decode cX8_given 50 = .ok (.iload_n 2, 1) := by decide +kernel
theorem dX8_given_51 : decode cX8_given 51 = .ok (.invokevirtual 162, 3) := by decide +kernel
theorem dX8_given_54 : decode cX8_given 54 = .ok (.ifCond .eq 7, 3) := by decide +kernel
theorem dX8_given_57 : decode cX8_given 57 = .ok (.iconst 1, 1) := by decide +kernel
theorem dX8_given_58 : decode cX8_given 58 = .ok (.goto 4, 3) := by decide +kernel
theorem dX8_given_61 : decode cX8_given 61 = .ok (.iconst 0, 1) := by decide +kernel
theorem dX8_given_62 : decode cX8_given 62 = .ok (.istore 5, 2) := by decide +kernel
theorem dX8_given_64 : decode cX8_given 64 = .ok (.iconst 0, 1) := by decide +kernel
theorem dX8_given_65 : decode cX8_given 65 = .ok (.istore 6, 2) := by decide +kernel
theorem dX8_given_67 : decode cX8_given 67 = .ok (.iload 6, 2) := by decide +kernel
theorem dX8_given_69 : decode cX8_given 69 = .ok (.aload_n 0, 1) := by decide +kernel
theorem dX8_given_70 : decode cX8_given 70 = .ok (.getfield 127, 3) := by decide +kernel
theorem dX8_given_73 : decode cX8_given 73 = .ok (.if_icmp .ge 56, 3) := by decide +kernel
theorem dX8_given_76 : decode cX8_given 76 = .ok (.iload 5, 2) := by decide +kernel
theorem dX8_given_78 : decode cX8_given 78 = .ok (.aload_n 0, 1) := by decide +kernel
theorem dX8_given_79 : decode cX8_given 79 = .ok (.getfield 41, 3) := by decide +kernel
theorem dX8_given_82 : decode cX8_given 82 = .ok (.iload_n 1, 1) := by decide +kernel
theorem dX8_given_83 : decode cX8_given 83 = .ok (.iaload, 1) := by decide +kernel
theorem dX8_given_84 : decode cX8_given 84 = .ok (.iload 6, 2) := by decide +kernel
theorem dX8_given_86 : decode cX8_given 86 = .ok (.ishr, 1) := by decide +kernel
theorem dX8_given_87 : decode cX8_given 87 = .ok (.iconst 1, 1) := by decide +kernel
theorem dX8_given_88 : decode cX8_given 88 = .ok (.iand, 1) := by decide +kernel
theorem dX8_given_89 : decode cX8_given 89 = .ok (.ifCond .eq 26, 3) := by decide +kernel
theorem dX8_given_92 : decode cX8_given 92 = .ok (.aload_n 0, 1) := by decide +kernel
theorem dX8_given_93 : decode cX8_given 93 = .ok (.getfield 62, 3) := by decide +kernel
theorem dX8_given_96 : decode cX8_given 96 = .ok (.bipush 16, 2) := by decide +kernel
theorem dX8_given_98 : decode cX8_given 98 = .ok (.iload 4, 2) := by decide +kernel
theorem dX8_given_100 : decode cX8_given 100 = .ok (.imul, 1) := by decide +kernel
theorem dX8_given_101 : decode cX8_given 101 = .ok (.iload 6, 2) := by decide +kernel
theorem dX8_given_103 : decode cX8_given 103 = .ok (.iadd, 1) := by decide +kernel
theorem dX8_given_104 : decode cX8_given 104 = .ok (.iaload, 1) := by decide +kernel
theorem dX8_given_105 : decode cX8_given 105 = .ok (.aload_n 0, 1) := by decide +kernel
theorem dX8_given_106 : decode cX8_given 106 = .ok (.getfield 68, 3) := by decide +kernel
theorem dX8_given_109 : decode cX8_given 109 = .ok (.iload 6, 2) := by decide +kernel
theorem dX8_given_111 : decode cX8_given 111 = .ok (.iaload, 1) := by decide +kernel
theorem dX8_given_112 : decode cX8_given 112 = .ok (.if_icmp .ne 7, 3) := by decide +kernel
theorem dX8_given_115 : decode cX8_given 115 = .ok (.iconst 1, 1) := by decide +kernel
theorem dX8_given_116 : decode cX8_given 116 = .ok (.goto 4, 3) := by decide +kernel
theorem dX8_given_119 : decode cX8_given 119 = .ok (.iconst 0, 1) := by decide +kernel
theorem dX8_given_120 : decode cX8_given 120 = .ok (.iand, 1) := by decide +kernel
theorem dX8_given_121 : decode cX8_given 121 = .ok (.istore 5, 2) := by decide +kernel
theorem dX8_given_123 : decode cX8_given 123 = .ok (.iinc 6 1, 3) := by decide +kernel
theorem dX8_given_126 : decode cX8_given 126 = .ok (.goto (-59), 3) := by decide +kernel
theorem dX8_given_129 : decode cX8_given 129 = .ok (.iload 5, 2) := by decide +kernel
theorem dX8_given_131 : decode cX8_given 131 = .ok (.ifCond .eq 10, 3) := by decide +kernel
theorem dX8_given_134 : decode cX8_given 134 = .ok (.iload 4, 2) := by decide +kernel
theorem dX8_given_136 : decode cX8_given 136 = .ok (.iconst 1, 1) := by decide +kernel
theorem dX8_given_137 : decode cX8_given 137 = .ok (.iadd, 1) := by decide +kernel
theorem dX8_given_138 : decode cX8_given 138 = .ok (.goto 4, 3) := by decide +kernel
theorem dX8_given_141 : decode cX8_given 141 = .ok (.iload_n 3, 1) := by decide +kernel
theorem dX8_given_142 : decode cX8_given 142 = .ok (.istore_n 3, 1) := by decide +kernel
theorem dX8_given_143 : decode cX8_given 143 = .ok (.iinc 4 1, 3) := by decide +kernel
theorem dX8_given_146 : decode cX8_given 146 = .ok (.goto (-135), 3) := by decide +kernel
theorem dX8_given_149 : decode cX8_given 149 = .ok (.iload_n 3, 1) := by decide +kernel
theorem dX8_given_150 : decode cX8_given 150 = .ok (.ireturn, 1) := by decide +kernel
theorem dX8_laysKeys_0 : decode cX8_laysKeys 0 = .ok (.aload_n 0, 1) := by decide +kernel
theorem dX8_laysKeys_1 : decode cX8_laysKeys 1 = .ok (.invokevirtual 153, 3) := by decide +kernel
theorem dX8_laysKeys_4 : decode cX8_laysKeys 4 = .ok (.iconst 0, 1) := by decide +kernel
theorem dX8_laysKeys_5 : decode cX8_laysKeys 5 = .ok (.istore_n 1, 1) := by decide +kernel
theorem dX8_laysKeys_6 : decode cX8_laysKeys 6 = .ok (.iload_n 1, 1) := by decide +kernel
theorem dX8_laysKeys_7 : decode cX8_laysKeys 7 = .ok (.aload_n 0, 1) := by decide +kernel
theorem dX8_laysKeys_8 : decode cX8_laysKeys 8 = .ok (.getfield 127, 3) := by decide +kernel
theorem dX8_laysKeys_11 : decode cX8_laysKeys 11 = .ok (.if_icmp .ge 87, 3) := by decide +kernel
theorem dX8_laysKeys_14 : decode cX8_laysKeys 14 = .ok (.aload_n 0, 1) := by decide +kernel
theorem dX8_laysKeys_15 : decode cX8_laysKeys 15 = .ok (.getfield 65, 3) := by decide +kernel
theorem dX8_laysKeys_18 : decode cX8_laysKeys 18 = .ok (.iload_n 1, 1) := by decide +kernel
theorem dX8_laysKeys_19 : decode cX8_laysKeys 19 = .ok (.iaload, 1) := by decide +kernel
theorem dX8_laysKeys_20 : decode cX8_laysKeys 20 = .ok (.istore_n 2, 1) := by decide +kernel
theorem dX8_laysKeys_21 : decode cX8_laysKeys 21 = .ok (.iconst 1, 1) := by decide +kernel
theorem dX8_laysKeys_22 : decode cX8_laysKeys 22 = .ok (.istore_n 3, 1) := by decide +kernel
theorem dX8_laysKeys_23 : decode cX8_laysKeys 23 = .ok (.iconst 0, 1) := by decide +kernel
theorem dX8_laysKeys_24 : decode cX8_laysKeys 24 = .ok (.istore 4, 2) := by decide +kernel
theorem dX8_laysKeys_26 : decode cX8_laysKeys 26 = .ok (.iload 4, 2) := by decide +kernel
theorem dX8_laysKeys_28 : decode cX8_laysKeys 28 = .ok (.aload_n 0, 1) := by decide +kernel
theorem dX8_laysKeys_29 : decode cX8_laysKeys 29 = .ok (.getfield 127, 3) := by decide +kernel
theorem dX8_laysKeys_32 : decode cX8_laysKeys 32 = .ok (.if_icmp .ge 41, 3) := by decide +kernel
theorem dX8_laysKeys_35 : decode cX8_laysKeys 35 = .ok (.iload_n 3, 1) := by decide +kernel
theorem dX8_laysKeys_36 : decode cX8_laysKeys 36 = .ok (.aload_n 0, 1) := by decide +kernel
theorem dX8_laysKeys_37 : decode cX8_laysKeys 37 = .ok (.getfield 41, 3) := by decide +kernel
theorem dX8_laysKeys_40 : decode cX8_laysKeys 40 = .ok (.iload_n 2, 1) := by decide +kernel
theorem dX8_laysKeys_41 : decode cX8_laysKeys 41 = .ok (.iaload, 1) := by decide +kernel
theorem dX8_laysKeys_42 : decode cX8_laysKeys 42 = .ok (.iload 4, 2) := by decide +kernel
theorem dX8_laysKeys_44 : decode cX8_laysKeys 44 = .ok (.ishr, 1) := by decide +kernel
theorem dX8_laysKeys_45 : decode cX8_laysKeys 45 = .ok (.iconst 1, 1) := by decide +kernel
theorem dX8_laysKeys_46 : decode cX8_laysKeys 46 = .ok (.iand, 1) := by decide +kernel
theorem dX8_laysKeys_47 : decode cX8_laysKeys 47 = .ok (.ifCond .eq 13, 3) := by decide +kernel
theorem dX8_laysKeys_50 : decode cX8_laysKeys 50 = .ok (.aload_n 0, 1) := by decide +kernel
theorem dX8_laysKeys_51 : decode cX8_laysKeys 51 = .ok (.getfield 68, 3) := by decide +kernel
theorem dX8_laysKeys_54 : decode cX8_laysKeys 54 = .ok (.iload 4, 2) := by decide +kernel
theorem dX8_laysKeys_56 : decode cX8_laysKeys 56 = .ok (.iaload, 1) := by decide +kernel
theorem dX8_laysKeys_57 : decode cX8_laysKeys 57 = .ok (.ifCond .le 7, 3) := by decide +kernel
theorem dX8_laysKeys_60 : decode cX8_laysKeys 60 = .ok (.iconst 1, 1) := by decide +kernel
theorem dX8_laysKeys_61 : decode cX8_laysKeys 61 = .ok (.goto 4, 3) := by decide +kernel
theorem dX8_laysKeys_64 : decode cX8_laysKeys 64 = .ok (.iconst 0, 1) := by decide +kernel
theorem dX8_laysKeys_65 : decode cX8_laysKeys 65 = .ok (.iand, 1) := by decide +kernel
theorem dX8_laysKeys_66 : decode cX8_laysKeys 66 = .ok (.istore_n 3, 1) := by decide +kernel
theorem dX8_laysKeys_67 : decode cX8_laysKeys 67 = .ok (.iinc 4 1, 3) := by decide +kernel
theorem dX8_laysKeys_70 : decode cX8_laysKeys 70 = .ok (.goto (-44), 3) := by decide +kernel
theorem dX8_laysKeys_73 : decode cX8_laysKeys 73 = .ok (.aload_n 0, 1) := by decide +kernel
theorem dX8_laysKeys_74 : decode cX8_laysKeys 74 = .ok (.getfield 68, 3) := by decide +kernel
theorem dX8_laysKeys_77 : decode cX8_laysKeys 77 = .ok (.iload_n 2, 1) := by decide +kernel
theorem dX8_laysKeys_78 : decode cX8_laysKeys 78 = .ok (.iload_n 3, 1) := by decide +kernel
theorem dX8_laysKeys_79 : decode cX8_laysKeys 79 = .ok (.ifCond .eq 11, 3) := by decide +kernel
theorem dX8_laysKeys_82 : decode cX8_laysKeys 82 = .ok (.aload_n 0, 1) := by decide +kernel
theorem dX8_laysKeys_83 : decode cX8_laysKeys 83 = .ok (.iload_n 2, 1) := by decide +kernel
theorem dX8_laysKeys_84 : decode cX8_laysKeys 84 = .ok (.invokevirtual 165, 3) := by decide +kernel
theorem dX8_laysKeys_87 : decode cX8_laysKeys 87 = .ok (.goto 4, 3) := by decide +kernel
theorem dX8_laysKeys_90 : decode cX8_laysKeys 90 = .ok (.iconst 0, 1) := by decide +kernel
theorem dX8_laysKeys_91 : decode cX8_laysKeys 91 = .ok (.iastore, 1) := by decide +kernel
theorem dX8_laysKeys_92 : decode cX8_laysKeys 92 = .ok (.iinc 1 1, 3) := by decide +kernel
theorem dX8_laysKeys_95 : decode cX8_laysKeys 95 = .ok (.goto (-89), 3) := by decide +kernel
theorem dX8_laysKeys_98 : decode cX8_laysKeys 98 = .ok (.return_, 1) := by decide +kernel
theorem dX8_keyOf_0 : decode cX8_keyOf 0 = .ok (.aload_n 0, 1) := by decide +kernel
theorem dX8_keyOf_1 : decode cX8_keyOf 1 = .ok (.aload_n 0, 1) := by decide +kernel
theorem dX8_keyOf_2 : decode cX8_keyOf 2 = .ok (.iload_n 1, 1) := by decide +kernel
theorem dX8_keyOf_3 : decode cX8_keyOf 3 = .ok (.invokevirtual 133, 3) := by decide +kernel
theorem dX8_keyOf_6 : decode cX8_keyOf 6 = .ok (.ifCond .eq 7, 3) := by decide +kernel
theorem dX8_keyOf_9 : decode cX8_keyOf 9 = .ok (.iconst 0, 1) := by decide +kernel
theorem dX8_keyOf_10 : decode cX8_keyOf 10 = .ok (.goto 4, 3) := by decide +kernel
theorem dX8_keyOf_13 : decode cX8_keyOf 13 = .ok (.iconst 1, 1) := by decide +kernel
theorem dX8_keyOf_14 : decode cX8_keyOf 14 = .ok (.putfield 77, 3) := by decide +kernel
theorem dX8_keyOf_17 : decode cX8_keyOf 17 = .ok (.aload_n 0, 1) := by decide +kernel
theorem dX8_keyOf_18 : decode cX8_keyOf 18 = .ok (.getfield 77, 3) := by decide +kernel
theorem dX8_keyOf_21 : decode cX8_keyOf 21 = .ok (.ifCond .le 5, 3) := by decide +kernel
theorem dX8_keyOf_24 : decode cX8_keyOf 24 = .ok (.iconst 0, 1) := by decide +kernel
theorem dX8_keyOf_25 : decode cX8_keyOf 25 = .ok (.ireturn, 1) := by decide +kernel
theorem dX8_keyOf_26 : decode cX8_keyOf 26 = .ok (.aload_n 0, 1) := by decide +kernel
theorem dX8_keyOf_27 : decode cX8_keyOf 27 = .ok (.invokevirtual 168, 3) := by decide +kernel
theorem dX8_keyOf_30 : decode cX8_keyOf 30 = .ok (.aload_n 0, 1) := by decide +kernel
theorem dX8_keyOf_31 : decode cX8_keyOf 31 = .ok (.getfield 68, 3) := by decide +kernel
theorem dX8_keyOf_34 : decode cX8_keyOf 34 = .ok (.iload_n 1, 1) := by decide +kernel
theorem dX8_keyOf_35 : decode cX8_keyOf 35 = .ok (.iaload, 1) := by decide +kernel
theorem dX8_keyOf_36 : decode cX8_keyOf 36 = .ok (.ireturn, 1) := by decide +kernel
theorem dX8_neededNow_0 : decode cX8_neededNow 0 = .ok (.aload_n 0, 1) := by decide +kernel
theorem dX8_neededNow_1 : decode cX8_neededNow 1 = .ok (.invokevirtual 168, 3) := by decide +kernel
theorem dX8_neededNow_4 : decode cX8_neededNow 4 = .ok (.iconst 0, 1) := by decide +kernel
theorem dX8_neededNow_5 : decode cX8_neededNow 5 = .ok (.istore_n 1, 1) := by decide +kernel
theorem dX8_neededNow_6 : decode cX8_neededNow 6 = .ok (.iconst 0, 1) := by decide +kernel
theorem dX8_neededNow_7 : decode cX8_neededNow 7 = .ok (.istore_n 2, 1) := by decide +kernel
theorem dX8_neededNow_8 : decode cX8_neededNow 8 = .ok (.iload_n 2, 1) := by decide +kernel
theorem dX8_neededNow_9 : decode cX8_neededNow 9 = .ok (.aload_n 0, 1) := by decide +kernel
theorem dX8_neededNow_10 : decode cX8_neededNow 10 = .ok (.getfield 127, 3) := by decide +kernel
theorem dX8_neededNow_13 : decode cX8_neededNow 13 = .ok (.if_icmp .ge 28, 3) := by decide +kernel
theorem dX8_neededNow_16 : decode cX8_neededNow 16 = .ok (.iload_n 1, 1) := by decide +kernel
theorem dX8_neededNow_17 : decode cX8_neededNow 17 = .ok (.aload_n 0, 1) := by decide +kernel
theorem dX8_neededNow_18 : decode cX8_neededNow 18 = .ok (.getfield 68, 3) := by decide +kernel
theorem dX8_neededNow_21 : decode cX8_neededNow 21 = .ok (.iload_n 2, 1) := by decide +kernel
theorem dX8_neededNow_22 : decode cX8_neededNow 22 = .ok (.iaload, 1) := by decide +kernel
theorem dX8_neededNow_23 : decode cX8_neededNow 23 = .ok (.ifCond .ne 9, 3) := by decide +kernel
theorem dX8_neededNow_26 : decode cX8_neededNow 26 = .ok (.iconst 1, 1) := by decide +kernel
theorem dX8_neededNow_27 : decode cX8_neededNow 27 = .ok (.iload_n 2, 1) := by decide +kernel
theorem dX8_neededNow_28 : decode cX8_neededNow 28 = .ok (.ishl, 1) := by decide +kernel
theorem dX8_neededNow_29 : decode cX8_neededNow 29 = .ok (.goto 4, 3) := by decide +kernel
theorem dX8_neededNow_32 : decode cX8_neededNow 32 = .ok (.iconst 0, 1) := by decide +kernel
theorem dX8_neededNow_33 : decode cX8_neededNow 33 = .ok (.ior, 1) := by decide +kernel
theorem dX8_neededNow_34 : decode cX8_neededNow 34 = .ok (.istore_n 1, 1) := by decide +kernel
theorem dX8_neededNow_35 : decode cX8_neededNow 35 = .ok (.iinc 2 1, 3) := by decide +kernel
theorem dX8_neededNow_38 : decode cX8_neededNow 38 = .ok (.goto (-30), 3) := by decide +kernel
theorem dX8_neededNow_41 : decode cX8_neededNow 41 = .ok (.iload_n 1, 1) := by decide +kernel
theorem dX8_neededNow_42 : decode cX8_neededNow 42 = .ok (.ireturn, 1) := by decide +kernel
theorem dX8_needed_0 : decode cX8_needed 0 = .ok (.aload_n 0, 1) := by decide +kernel
theorem dX8_needed_1 : decode cX8_needed 1 = .ok (.iconst 0, 1) := by decide +kernel
theorem dX8_needed_2 : decode cX8_needed 2 = .ok (.putfield 77, 3) := by decide +kernel
theorem dX8_needed_5 : decode cX8_needed 5 = .ok (.aload_n 0, 1) := by decide +kernel
theorem dX8_needed_6 : decode cX8_needed 6 = .ok (.invokevirtual 171, 3) := by decide +kernel
theorem dX8_needed_9 : decode cX8_needed 9 = .ok (.ireturn, 1) := by decide +kernel
theorem dX8_whyRun_0 : decode cX8_whyRun 0 = .ok (.aload_n 0, 1) := by decide +kernel
theorem dX8_whyRun_1 : decode cX8_whyRun 1 = .ok (.aload_n 0, 1) := by decide +kernel
theorem dX8_whyRun_2 : decode cX8_whyRun 2 = .ok (.iload_n 1, 1) := by decide +kernel
theorem dX8_whyRun_3 : decode cX8_whyRun 3 = .ok (.invokevirtual 133, 3) := by decide +kernel
theorem dX8_whyRun_6 : decode cX8_whyRun 6 = .ok (.ifCond .eq 7, 3) := by decide +kernel
theorem dX8_whyRun_9 : decode cX8_whyRun 9 = .ok (.iconst 0, 1) := by decide +kernel
theorem dX8_whyRun_10 : decode cX8_whyRun 10 = .ok (.goto 4, 3) := by decide +kernel
theorem dX8_whyRun_13 : decode cX8_whyRun 13 = .ok (.iconst 1, 1) := by decide +kernel
theorem dX8_whyRun_14 : decode cX8_whyRun 14 = .ok (.putfield 77, 3) := by decide +kernel
theorem dX8_whyRun_17 : decode cX8_whyRun 17 = .ok (.aload_n 0, 1) := by decide +kernel
theorem dX8_whyRun_18 : decode cX8_whyRun 18 = .ok (.getfield 77, 3) := by decide +kernel
theorem dX8_whyRun_21 : decode cX8_whyRun 21 = .ok (.ifCond .le 5, 3) := by decide +kernel
theorem dX8_whyRun_24 : decode cX8_whyRun 24 = .ok (.iconst 0, 1) := by decide +kernel
theorem dX8_whyRun_25 : decode cX8_whyRun 25 = .ok (.ireturn, 1) := by decide +kernel
theorem dX8_whyRun_26 : decode cX8_whyRun 26 = .ok (.aload_n 0, 1) := by decide +kernel
theorem dX8_whyRun_27 : decode cX8_whyRun 27 = .ok (.invokevirtual 168, 3) := by decide +kernel
theorem dX8_whyRun_30 : decode cX8_whyRun 30 = .ok (.aload_n 0, 1) := by decide +kernel
theorem dX8_whyRun_31 : decode cX8_whyRun 31 = .ok (.getfield 68, 3) := by decide +kernel
theorem dX8_whyRun_34 : decode cX8_whyRun 34 = .ok (.iload_n 1, 1) := by decide +kernel
theorem dX8_whyRun_35 : decode cX8_whyRun 35 = .ok (.iaload, 1) := by decide +kernel
theorem dX8_whyRun_36 : decode cX8_whyRun 36 = .ok (.ifCond .le 5, 3) := by decide +kernel
theorem dX8_whyRun_39 : decode cX8_whyRun 39 = .ok (.iconst 0, 1) := by decide +kernel
theorem dX8_whyRun_40 : decode cX8_whyRun 40 = .ok (.ireturn, 1) := by decide +kernel
theorem dX8_whyRun_41 : decode cX8_whyRun 41 = .ok (.aload_n 0, 1) := by decide +kernel
theorem dX8_whyRun_42 : decode cX8_whyRun 42 = .ok (.getfield 44, 3) := by decide +kernel
theorem dX8_whyRun_45 : decode cX8_whyRun 45 = .ok (.iload_n 1, 1) := by decide +kernel
theorem dX8_whyRun_46 : decode cX8_whyRun 46 = .ok (.iaload, 1) := by decide +kernel
theorem dX8_whyRun_47 : decode cX8_whyRun 47 = .ok (.ifCond .ne 7, 3) := by decide +kernel
theorem dX8_whyRun_50 : decode cX8_whyRun 50 = .ok (.iconst 1, 1) := by decide +kernel
theorem dX8_whyRun_51 : decode cX8_whyRun 51 = .ok (.goto 28, 3) := by decide +kernel
theorem dX8_whyRun_54 : decode cX8_whyRun 54 = .ok (.aload_n 0, 1) := by decide +kernel
theorem dX8_whyRun_55 : decode cX8_whyRun 55 = .ok (.aload_n 0, 1) := by decide +kernel
theorem dX8_whyRun_56 : decode cX8_whyRun 56 = .ok (.getfield 44, 3) := by decide +kernel
theorem dX8_whyRun_59 : decode cX8_whyRun 59 = .ok (.iload_n 1, 1) := by decide +kernel
theorem dX8_whyRun_60 : decode cX8_whyRun 60 = .ok (.iaload, 1) := by decide +kernel
theorem dX8_whyRun_61 : decode cX8_whyRun 61 = .ok (.iconst 1, 1) := by decide +kernel
theorem dX8_whyRun_62 : decode cX8_whyRun 62 = .ok (.isub, 1) := by decide +kernel
theorem dX8_whyRun_63 : decode cX8_whyRun 63 = .ok (.aload_n 0, 1) := by decide +kernel
theorem dX8_whyRun_64 : decode cX8_whyRun 64 = .ok (.iload_n 1, 1) := by decide +kernel
theorem dX8_whyRun_65 : decode cX8_whyRun 65 = .ok (.invokevirtual 140, 3) := by decide +kernel
theorem dX8_whyRun_68 : decode cX8_whyRun 68 = .ok (.invokevirtual 162, 3) := by decide +kernel
theorem dX8_whyRun_71 : decode cX8_whyRun 71 = .ok (.ifCond .eq 7, 3) := by decide +kernel
theorem dX8_whyRun_74 : decode cX8_whyRun 74 = .ok (.iconst 3, 1) := by decide +kernel
theorem dX8_whyRun_75 : decode cX8_whyRun 75 = .ok (.goto 4, 3) := by decide +kernel
theorem dX8_whyRun_78 : decode cX8_whyRun 78 = .ok (.iconst 2, 1) := by decide +kernel
theorem dX8_whyRun_79 : decode cX8_whyRun 79 = .ok (.ireturn, 1) := by decide +kernel
theorem dX8_runs_0 : decode cX8_runs 0 = .ok (.aload_n 0, 1) := by decide +kernel
theorem dX8_runs_1 : decode cX8_runs 1 = .ok (.getfield 68, 3) := by decide +kernel
theorem dX8_runs_4 : decode cX8_runs 4 = .ok (.iload_n 1, 1) := by decide +kernel
theorem dX8_runs_5 : decode cX8_runs 5 = .ok (.iaload, 1) := by decide +kernel
theorem dX8_runs_6 : decode cX8_runs 6 = .ok (.ifCond .ne 134, 3) := by decide +kernel
theorem dX8_runs_9 : decode cX8_runs 9 = .ok (.aload_n 0, 1) := by decide +kernel
theorem dX8_runs_10 : decode cX8_runs 10 = .ok (.getfield 50, 3) := by decide +kernel
theorem dX8_runs_13 : decode cX8_runs 13 = .ok (.aload_n 0, 1) := by decide +kernel
theorem dX8_runs_14 : decode cX8_runs 14 = .ok (.getfield 159, 3) := by decide +kernel
theorem dX8_runs_17 : decode cX8_runs 17 = .ok (.iload_n 1, 1) := by decide +kernel
theorem dX8_runs_18 : decode cX8_runs 18 = .ok (.iastore, 1) := by decide +kernel
theorem dX8_runs_19 : decode cX8_runs 19 = .ok (.aload_n 0, 1) := by decide +kernel
theorem dX8_runs_20 : decode cX8_runs 20 = .ok (.getfield 53, 3) := by decide +kernel
theorem dX8_runs_23 : decode cX8_runs 23 = .ok (.aload_n 0, 1) := by decide +kernel
theorem dX8_runs_24 : decode cX8_runs 24 = .ok (.getfield 159, 3) := by decide +kernel
theorem dX8_runs_27 : decode cX8_runs 27 = .ok (.aload_n 0, 1) := by decide +kernel
theorem dX8_runs_28 : decode cX8_runs 28 = .ok (.iload_n 1, 1) := by decide +kernel
theorem dX8_runs_29 : decode cX8_runs 29 = .ok (.invokevirtual 140, 3) := by decide +kernel
theorem dX8_runs_32 : decode cX8_runs 32 = .ok (.iastore, 1) := by decide +kernel
theorem dX8_runs_33 : decode cX8_runs 33 = .ok (.aload_n 0, 1) := by decide +kernel
theorem dX8_runs_34 : decode cX8_runs 34 = .ok (.getfield 56, 3) := by decide +kernel
theorem dX8_runs_37 : decode cX8_runs 37 = .ok (.aload_n 0, 1) := by decide +kernel
theorem dX8_runs_38 : decode cX8_runs 38 = .ok (.getfield 159, 3) := by decide +kernel
theorem dX8_runs_41 : decode cX8_runs 41 = .ok (.aload_n 0, 1) := by decide +kernel
theorem dX8_runs_42 : decode cX8_runs 42 = .ok (.getfield 41, 3) := by decide +kernel
theorem dX8_runs_45 : decode cX8_runs 45 = .ok (.iload_n 1, 1) := by decide +kernel
theorem dX8_runs_46 : decode cX8_runs 46 = .ok (.iaload, 1) := by decide +kernel
theorem dX8_runs_47 : decode cX8_runs 47 = .ok (.iastore, 1) := by decide +kernel
theorem dX8_runs_48 : decode cX8_runs 48 = .ok (.iconst 0, 1) := by decide +kernel
theorem dX8_runs_49 : decode cX8_runs 49 = .ok (.istore_n 2, 1) := by decide +kernel
theorem dX8_runs_50 : decode cX8_runs 50 = .ok (.iload_n 2, 1) := by decide +kernel
theorem dX8_runs_51 : decode cX8_runs 51 = .ok (.aload_n 0, 1) := by decide +kernel
theorem dX8_runs_52 : decode cX8_runs 52 = .ok (.getfield 108, 3) := by decide +kernel
theorem dX8_runs_55 : decode cX8_runs 55 = .ok (.if_icmp .ge 29, 3) := by decide +kernel
theorem dX8_runs_58 : decode cX8_runs 58 = .ok (.aload_n 0, 1) := by decide +kernel
theorem dX8_runs_59 : decode cX8_runs 59 = .ok (.getfield 59, 3) := by decide +kernel
theorem dX8_runs_62 : decode cX8_runs 62 = .ok (.bipush 24, 2) := by decide +kernel
theorem dX8_runs_64 : decode cX8_runs 64 = .ok (.aload_n 0, 1) := by decide +kernel
theorem dX8_runs_65 : decode cX8_runs 65 = .ok (.getfield 159, 3) := by decide +kernel
theorem dX8_runs_68 : decode cX8_runs 68 = .ok (.imul, 1) := by decide +kernel
theorem dX8_runs_69 : decode cX8_runs 69 = .ok (.iload_n 2, 1) := by decide +kernel
theorem dX8_runs_70 : decode cX8_runs 70 = .ok (.iadd, 1) := by decide +kernel
theorem dX8_runs_71 : decode cX8_runs 71 = .ok (.aload_n 0, 1) := by decide +kernel
theorem dX8_runs_72 : decode cX8_runs 72 = .ok (.getfield 26, 3) := by decide +kernel
theorem dX8_runs_75 : decode cX8_runs 75 = .ok (.iload_n 2, 1) := by decide +kernel
theorem dX8_runs_76 : decode cX8_runs 76 = .ok (.iaload, 1) := by decide +kernel
theorem dX8_runs_77 : decode cX8_runs 77 = .ok (.iastore, 1) := by decide +kernel
theorem dX8_runs_78 : decode cX8_runs 78 = .ok (.iinc 2 1, 3) := by decide +kernel
theorem dX8_runs_81 : decode cX8_runs 81 = .ok (.goto (-31), 3) := by decide +kernel
theorem dX8_runs_84 : decode cX8_runs 84 = .ok (.iconst 0, 1) := by decide +kernel
theorem dX8_runs_85 : decode cX8_runs 85 = .ok (.istore_n 2, 1) := by decide +kernel
theorem dX8_runs_86 : decode cX8_runs 86 = .ok (.iload_n 2, 1) := by decide +kernel
theorem dX8_runs_87 : decode cX8_runs 87 = .ok (.aload_n 0, 1) := by decide +kernel
theorem dX8_runs_88 : decode cX8_runs 88 = .ok (.getfield 127, 3) := by decide +kernel
theorem dX8_runs_91 : decode cX8_runs 91 = .ok (.if_icmp .ge 29, 3) := by decide +kernel
theorem dX8_runs_94 : decode cX8_runs 94 = .ok (.aload_n 0, 1) := by decide +kernel
theorem dX8_runs_95 : decode cX8_runs 95 = .ok (.getfield 62, 3) := by decide +kernel
theorem dX8_runs_98 : decode cX8_runs 98 = .ok (.bipush 16, 2) := by decide +kernel
theorem dX8_runs_100 : decode cX8_runs 100 = .ok (.aload_n 0, 1) := by decide +kernel
theorem dX8_runs_101 : decode cX8_runs 101 = .ok (.getfield 159, 3) := by decide +kernel
theorem dX8_runs_104 : decode cX8_runs 104 = .ok (.imul, 1) := by decide +kernel
theorem dX8_runs_105 : decode cX8_runs 105 = .ok (.iload_n 2, 1) := by decide +kernel
theorem dX8_runs_106 : decode cX8_runs 106 = .ok (.iadd, 1) := by decide +kernel
theorem dX8_runs_107 : decode cX8_runs 107 = .ok (.aload_n 0, 1) := by decide +kernel
theorem dX8_runs_108 : decode cX8_runs 108 = .ok (.getfield 68, 3) := by decide +kernel
theorem dX8_runs_111 : decode cX8_runs 111 = .ok (.iload_n 2, 1) := by decide +kernel
theorem dX8_runs_112 : decode cX8_runs 112 = .ok (.iaload, 1) := by decide +kernel
theorem dX8_runs_113 : decode cX8_runs 113 = .ok (.iastore, 1) := by decide +kernel
theorem dX8_runs_114 : decode cX8_runs 114 = .ok (.iinc 2 1, 3) := by decide +kernel
theorem dX8_runs_117 : decode cX8_runs 117 = .ok (.goto (-31), 3) := by decide +kernel
theorem dX8_runs_120 : decode cX8_runs 120 = .ok (.aload_n 0, 1) := by decide +kernel
theorem dX8_runs_121 : decode cX8_runs 121 = .ok (.dup, 1) := by decide +kernel
theorem dX8_runs_122 : decode cX8_runs 122 = .ok (.getfield 159, 3) := by decide +kernel
theorem dX8_runs_125 : decode cX8_runs 125 = .ok (.iconst 1, 1) := by decide +kernel
theorem dX8_runs_126 : decode cX8_runs 126 = .ok (.iadd, 1) := by decide +kernel
theorem dX8_runs_127 : decode cX8_runs 127 = .ok (.putfield 159, 3) := by decide +kernel
theorem dX8_runs_130 : decode cX8_runs 130 = .ok (.aload_n 0, 1) := by decide +kernel
theorem dX8_runs_131 : decode cX8_runs 131 = .ok (.getfield 68, 3) := by decide +kernel
theorem dX8_runs_134 : decode cX8_runs 134 = .ok (.iload_n 1, 1) := by decide +kernel
theorem dX8_runs_135 : decode cX8_runs 135 = .ok (.aload_n 0, 1) := by decide +kernel
theorem dX8_runs_136 : decode cX8_runs 136 = .ok (.getfield 159, 3) := by decide +kernel
theorem dX8_runs_139 : decode cX8_runs 139 = .ok (.iastore, 1) := by decide +kernel
theorem dX8_runs_140 : decode cX8_runs 140 = .ok (.aload_n 0, 1) := by decide +kernel
theorem dX8_runs_141 : decode cX8_runs 141 = .ok (.getfield 44, 3) := by decide +kernel
theorem dX8_runs_144 : decode cX8_runs 144 = .ok (.iload_n 1, 1) := by decide +kernel
theorem dX8_runs_145 : decode cX8_runs 145 = .ok (.aload_n 0, 1) := by decide +kernel
theorem dX8_runs_146 : decode cX8_runs 146 = .ok (.getfield 68, 3) := by decide +kernel
theorem dX8_runs_149 : decode cX8_runs 149 = .ok (.iload_n 1, 1) := by decide +kernel
theorem dX8_runs_150 : decode cX8_runs 150 = .ok (.iaload, 1) := by decide +kernel
theorem dX8_runs_151 : decode cX8_runs 151 = .ok (.iastore, 1) := by decide +kernel
theorem dX8_runs_152 : decode cX8_runs 152 = .ok (.return_, 1) := by decide +kernel
theorem dX8_run_0 : decode cX8_run 0 = .ok (.aload_n 0, 1) := by decide +kernel
theorem dX8_run_1 : decode cX8_run 1 = .ok (.aload_n 0, 1) := by decide +kernel
theorem dX8_run_2 : decode cX8_run 2 = .ok (.iload_n 1, 1) := by decide +kernel
theorem dX8_run_3 : decode cX8_run 3 = .ok (.invokevirtual 133, 3) := by decide +kernel
theorem dX8_run_6 : decode cX8_run 6 = .ok (.ifCond .eq 7, 3) := by decide +kernel
theorem dX8_run_9 : decode cX8_run 9 = .ok (.iconst 0, 1) := by decide +kernel
theorem dX8_run_10 : decode cX8_run 10 = .ok (.goto 4, 3) := by decide +kernel
theorem dX8_run_13 : decode cX8_run 13 = .ok (.iconst 1, 1) := by decide +kernel
theorem dX8_run_14 : decode cX8_run 14 = .ok (.putfield 77, 3) := by decide +kernel
theorem dX8_run_17 : decode cX8_run 17 = .ok (.aload_n 0, 1) := by decide +kernel
theorem dX8_run_18 : decode cX8_run 18 = .ok (.getfield 77, 3) := by decide +kernel
theorem dX8_run_21 : decode cX8_run 21 = .ok (.ifCond .le 5, 3) := by decide +kernel
theorem dX8_run_24 : decode cX8_run 24 = .ok (.iconst 0, 1) := by decide +kernel
theorem dX8_run_25 : decode cX8_run 25 = .ok (.ireturn, 1) := by decide +kernel
theorem dX8_run_26 : decode cX8_run 26 = .ok (.aload_n 0, 1) := by decide +kernel
theorem dX8_run_27 : decode cX8_run 27 = .ok (.invokevirtual 171, 3) := by decide +kernel
theorem dX8_run_30 : decode cX8_run 30 = .ok (.istore_n 2, 1) := by decide +kernel
theorem dX8_run_31 : decode cX8_run 31 = .ok (.aload_n 0, 1) := by decide +kernel
theorem dX8_run_32 : decode cX8_run 32 = .ok (.iload_n 2, 1) := by decide +kernel
theorem dX8_run_33 : decode cX8_run 33 = .ok (.aload_n 0, 1) := by decide +kernel
theorem dX8_run_34 : decode cX8_run 34 = .ok (.getfield 41, 3) := by decide +kernel
theorem dX8_run_37 : decode cX8_run 37 = .ok (.iload_n 1, 1) := by decide +kernel
theorem dX8_run_38 : decode cX8_run 38 = .ok (.iaload, 1) := by decide +kernel
theorem dX8_run_39 : decode cX8_run 39 = .ok (.iand, 1) := by decide +kernel
theorem dX8_run_40 : decode cX8_run 40 = .ok (.ifCond .ne 22, 3) := by decide +kernel
theorem dX8_run_43 : decode cX8_run 43 = .ok (.iload_n 2, 1) := by decide +kernel
theorem dX8_run_44 : decode cX8_run 44 = .ok (.iload_n 1, 1) := by decide +kernel
theorem dX8_run_45 : decode cX8_run 45 = .ok (.ishr, 1) := by decide +kernel
theorem dX8_run_46 : decode cX8_run 46 = .ok (.iconst 1, 1) := by decide +kernel
theorem dX8_run_47 : decode cX8_run 47 = .ok (.iand, 1) := by decide +kernel
theorem dX8_run_48 : decode cX8_run 48 = .ok (.iconst 1, 1) := by decide +kernel
theorem dX8_run_49 : decode cX8_run 49 = .ok (.if_icmp .ne 17, 3) := by decide +kernel
theorem dX8_run_52 : decode cX8_run 52 = .ok (.aload_n 0, 1) := by decide +kernel
theorem dX8_run_53 : decode cX8_run 53 = .ok (.getfield 159, 3) := by decide +kernel
theorem dX8_run_56 : decode cX8_run 56 = .ok (.sipush 200, 3) := by decide +kernel
theorem dX8_run_59 : decode cX8_run 59 = .ok (.if_icmp .ne 7, 3) := by decide +kernel
theorem dX8_run_62 : decode cX8_run 62 = .ok (.iconst 2, 1) := by decide +kernel
theorem dX8_run_63 : decode cX8_run 63 = .ok (.goto 4, 3) := by decide +kernel
theorem dX8_run_66 : decode cX8_run 66 = .ok (.iconst 0, 1) := by decide +kernel
theorem dX8_run_67 : decode cX8_run 67 = .ok (.putfield 77, 3) := by decide +kernel
theorem dX8_run_70 : decode cX8_run 70 = .ok (.aload_n 0, 1) := by decide +kernel
theorem dX8_run_71 : decode cX8_run 71 = .ok (.getfield 77, 3) := by decide +kernel
theorem dX8_run_74 : decode cX8_run 74 = .ok (.ifCond .le 5, 3) := by decide +kernel
theorem dX8_run_77 : decode cX8_run 77 = .ok (.iconst 0, 1) := by decide +kernel
theorem dX8_run_78 : decode cX8_run 78 = .ok (.ireturn, 1) := by decide +kernel
theorem dX8_run_79 : decode cX8_run 79 = .ok (.aload_n 0, 1) := by decide +kernel
theorem dX8_run_80 : decode cX8_run 80 = .ok (.iload_n 1, 1) := by decide +kernel
theorem dX8_run_81 : decode cX8_run 81 = .ok (.invokevirtual 174, 3) := by decide +kernel
theorem dX8_run_84 : decode cX8_run 84 = .ok (.aload_n 0, 1) := by decide +kernel
theorem dX8_run_85 : decode cX8_run 85 = .ok (.getfield 68, 3) := by decide +kernel
theorem dX8_run_88 : decode cX8_run 88 = .ok (.iload_n 1, 1) := by decide +kernel
theorem dX8_run_89 : decode cX8_run 89 = .ok (.iaload, 1) := by decide +kernel
theorem dX8_run_90 : decode cX8_run 90 = .ok (.ireturn, 1) := by decide +kernel
theorem dX8_runAll_0 : decode cX8_runAll 0 = .ok (.aload_n 0, 1) := by decide +kernel
theorem dX8_runAll_1 : decode cX8_runAll 1 = .ok (.invokevirtual 171, 3) := by decide +kernel
theorem dX8_runAll_4 : decode cX8_runAll 4 = .ok (.invokestatic 144, 3) := by decide +kernel
theorem dX8_runAll_7 : decode cX8_runAll 7 = .ok (.istore_n 1, 1) := by decide +kernel
theorem dX8_runAll_8 : decode cX8_runAll 8 = .ok (.aload_n 0, 1) := by decide +kernel
theorem dX8_runAll_9 : decode cX8_runAll 9 = .ok (.aload_n 0, 1) := by decide +kernel
theorem dX8_runAll_10 : decode cX8_runAll 10 = .ok (.getfield 159, 3) := by decide +kernel
theorem dX8_runAll_13 : decode cX8_runAll 13 = .ok (.iload_n 1, 1) := by decide +kernel
theorem dX8_runAll_14 : decode cX8_runAll 14 = .ok (.iadd, 1) := by decide +kernel
theorem dX8_runAll_15 : decode cX8_runAll 15 = .ok (.sipush 200, 3) := by decide +kernel
theorem dX8_runAll_18 : decode cX8_runAll 18 = .ok (.if_icmp .le 7, 3) := by decide +kernel
theorem dX8_runAll_21 : decode cX8_runAll 21 = .ok (.iconst 1, 1) := by decide +kernel
theorem dX8_runAll_22 : decode cX8_runAll 22 = .ok (.goto 4, 3) := by decide +kernel
theorem dX8_runAll_25 : decode cX8_runAll 25 = .ok (.iconst 0, 1) := by decide +kernel
theorem dX8_runAll_26 : decode cX8_runAll 26 = .ok (.putfield 77, 3) := by decide +kernel
theorem dX8_runAll_29 : decode cX8_runAll 29 = .ok (.iconst 0, 1) := by decide +kernel
theorem dX8_runAll_30 : decode cX8_runAll 30 = .ok (.istore_n 2, 1) := by decide +kernel
theorem dX8_runAll_31 : decode cX8_runAll 31 = .ok (.iload_n 2, 1) := by decide +kernel
theorem dX8_runAll_32 : decode cX8_runAll 32 = .ok (.aload_n 0, 1) := by decide +kernel
theorem dX8_runAll_33 : decode cX8_runAll 33 = .ok (.getfield 127, 3) := by decide +kernel
theorem dX8_runAll_36 : decode cX8_runAll 36 = .ok (.if_icmp .ge 26, 3) := by decide +kernel
theorem dX8_runAll_39 : decode cX8_runAll 39 = .ok (.aload_n 0, 1) := by decide +kernel
theorem dX8_runAll_40 : decode cX8_runAll 40 = .ok (.getfield 77, 3) := by decide +kernel
theorem dX8_runAll_43 : decode cX8_runAll 43 = .ok (.ifCond .ne 19, 3) := by decide +kernel
theorem dX8_runAll_46 : decode cX8_runAll 46 = .ok (.aload_n 0, 1) := by decide +kernel
theorem dX8_runAll_47 : decode cX8_runAll 47 = .ok (.aload_n 0, 1) := by decide +kernel
theorem dX8_runAll_48 : decode cX8_runAll 48 = .ok (.getfield 65, 3) := by decide +kernel
theorem dX8_runAll_51 : decode cX8_runAll 51 = .ok (.iload_n 2, 1) := by decide +kernel
theorem dX8_runAll_52 : decode cX8_runAll 52 = .ok (.iaload, 1) := by decide +kernel
theorem dX8_runAll_53 : decode cX8_runAll 53 = .ok (.invokevirtual 174, 3) := by decide +kernel
theorem dX8_runAll_56 : decode cX8_runAll 56 = .ok (.iinc 2 1, 3) := by decide +kernel
theorem dX8_runAll_59 : decode cX8_runAll 59 = .ok (.goto (-28), 3) := by decide +kernel
theorem dX8_runAll_62 : decode cX8_runAll 62 = .ok (.aload_n 0, 1) := by decide +kernel
theorem dX8_runAll_63 : decode cX8_runAll 63 = .ok (.getfield 77, 3) := by decide +kernel
theorem dX8_runAll_66 : decode cX8_runAll 66 = .ok (.ifCond .le 7, 3) := by decide +kernel
theorem dX8_runAll_69 : decode cX8_runAll 69 = .ok (.iconst 0, 1) := by decide +kernel
theorem dX8_runAll_70 : decode cX8_runAll 70 = .ok (.goto 4, 3) := by decide +kernel
theorem dX8_runAll_73 : decode cX8_runAll 73 = .ok (.iload_n 1, 1) := by decide +kernel
theorem dX8_runAll_74 : decode cX8_runAll 74 = .ok (.ireturn, 1) := by decide +kernel
theorem dX8_keys_0 : decode cX8_keys 0 = .ok (.aload_n 0, 1) := by decide +kernel
theorem dX8_keys_1 : decode cX8_keys 1 = .ok (.iconst 0, 1) := by decide +kernel
theorem dX8_keys_2 : decode cX8_keys 2 = .ok (.putfield 77, 3) := by decide +kernel
theorem dX8_keys_5 : decode cX8_keys 5 = .ok (.aload_n 0, 1) := by decide +kernel
theorem dX8_keys_6 : decode cX8_keys 6 = .ok (.getfield 159, 3) := by decide +kernel
theorem dX8_keys_9 : decode cX8_keys 9 = .ok (.ireturn, 1) := by decide +kernel
theorem dX8_spreads_0 : decode cX8_spreads 0 = .ok (.aload_n 0, 1) := by decide +kernel
theorem dX8_spreads_1 : decode cX8_spreads 1 = .ok (.invokevirtual 171, 3) := by decide +kernel
theorem dX8_spreads_4 : decode cX8_spreads 4 = .ok (.istore_n 2, 1) := by decide +kernel
theorem dX8_spreads_5 : decode cX8_spreads 5 = .ok (.iconst 0, 1) := by decide +kernel
theorem dX8_spreads_6 : decode cX8_spreads 6 = .ok (.istore_n 3, 1) := by decide +kernel
theorem dX8_spreads_7 : decode cX8_spreads 7 = .ok (.iload_n 3, 1) := by decide +kernel
theorem dX8_spreads_8 : decode cX8_spreads 8 = .ok (.bipush 16, 2) := by decide +kernel
theorem dX8_spreads_10 : decode cX8_spreads 10 = .ok (.if_icmp .ge 16, 3) := by decide +kernel
theorem dX8_spreads_13 : decode cX8_spreads 13 = .ok (.aload_n 0, 1) := by decide +kernel
theorem dX8_spreads_14 : decode cX8_spreads 14 = .ok (.getfield 74, 3) := by decide +kernel
theorem dX8_spreads_17 : decode cX8_spreads 17 = .ok (.iload_n 3, 1) := by decide +kernel
theorem dX8_spreads_18 : decode cX8_spreads 18 = .ok (.iconst (-1), 1) := by decide +kernel
theorem dX8_spreads_19 : decode cX8_spreads 19 = .ok (.iastore, 1) := by decide +kernel
theorem dX8_spreads_20 : decode cX8_spreads 20 = .ok (.iinc 3 1, 3) := by decide +kernel
theorem dX8_spreads_23 : decode cX8_spreads 23 = .ok (.goto (-16), 3) := by decide +kernel
theorem dX8_spreads_26 : decode cX8_spreads 26 = .ok (.iconst 0, 1) := by decide +kernel
theorem dX8_spreads_27 : decode cX8_spreads 27 = .ok (.istore_n 3, 1) := by decide +kernel
theorem dX8_spreads_28 : decode cX8_spreads 28 = .ok (.iload_n 3, 1) := by decide +kernel
theorem dX8_spreads_29 : decode cX8_spreads 29 = .ok (.bipush 8, 2) := by decide +kernel
theorem dX8_spreads_31 : decode cX8_spreads 31 = .ok (.if_icmp .ge 16, 3) := by decide +kernel
theorem dX8_spreads_34 : decode cX8_spreads 34 = .ok (.aload_n 0, 1) := by decide +kernel
theorem dX8_spreads_35 : decode cX8_spreads 35 = .ok (.getfield 71, 3) := by decide +kernel
theorem dX8_spreads_38 : decode cX8_spreads 38 = .ok (.iload_n 3, 1) := by decide +kernel
theorem dX8_spreads_39 : decode cX8_spreads 39 = .ok (.iconst 0, 1) := by decide +kernel
theorem dX8_spreads_40 : decode cX8_spreads 40 = .ok (.iastore, 1) := by decide +kernel
theorem dX8_spreads_41 : decode cX8_spreads 41 = .ok (.iinc 3 1, 3) := by decide +kernel
theorem dX8_spreads_44 : decode cX8_spreads 44 = .ok (.goto (-16), 3) := by decide +kernel
theorem dX8_spreads_47 : decode cX8_spreads 47 = .ok (.iconst 0, 1) := by decide +kernel
theorem dX8_spreads_48 : decode cX8_spreads 48 = .ok (.istore_n 3, 1) := by decide +kernel
theorem dX8_spreads_49 : decode cX8_spreads 49 = .ok (.iload_n 2, 1) := by decide +kernel
theorem dX8_spreads_50 : decode cX8_spreads 50 = .ok (.ifCond .eq 170, 3) := by decide +kernel
theorem dX8_spreads_53 : decode cX8_spreads 53 = .ok (.iconst (-1), 1) := by decide +kernel
theorem dX8_spreads_54 : decode cX8_spreads 54 = .ok (.istore 4, 2) := by decide +kernel
theorem dX8_spreads_56 : decode cX8_spreads 56 = .ok (.iconst 0, 1) := by decide +kernel
theorem dX8_spreads_57 : decode cX8_spreads 57 = .ok (.istore 5, 2) := by decide +kernel
theorem dX8_spreads_59 : decode cX8_spreads 59 = .ok (.iload 5, 2) := by decide +kernel
theorem dX8_spreads_61 : decode cX8_spreads 61 = .ok (.aload_n 0, 1) := by decide +kernel
theorem dX8_spreads_62 : decode cX8_spreads 62 = .ok (.getfield 127, 3) := by decide +kernel
theorem dX8_spreads_65 : decode cX8_spreads 65 = .ok (.if_icmp .ge 50, 3) := by decide +kernel
theorem dX8_spreads_68 : decode cX8_spreads 68 = .ok (.iload_n 2, 1) := by decide +kernel
theorem dX8_spreads_69 : decode cX8_spreads 69 = .ok (.iload 5, 2) := by decide +kernel
theorem dX8_spreads_71 : decode cX8_spreads 71 = .ok (.ishr, 1) := by decide +kernel
theorem dX8_spreads_72 : decode cX8_spreads 72 = .ok (.iconst 1, 1) := by decide +kernel
theorem dX8_spreads_73 : decode cX8_spreads 73 = .ok (.iand, 1) := by decide +kernel
theorem dX8_spreads_74 : decode cX8_spreads 74 = .ok (.iconst 1, 1) := by decide +kernel
theorem dX8_spreads_75 : decode cX8_spreads 75 = .ok (.if_icmp .ne 30, 3) := by decide +kernel
theorem dX8_spreads_78 : decode cX8_spreads 78 = .ok (.iload 4, 2) := by decide +kernel
theorem dX8_spreads_80 : decode cX8_spreads 80 = .ok (.ifCond .lt 20, 3) := by decide +kernel
theorem dX8_spreads_83 : decode cX8_spreads 83 = .ok (.aload_n 0, 1) := by decide +kernel
theorem dX8_spreads_84 : decode cX8_spreads 84 = .ok (.getfield 35, 3) := by decide +kernel
theorem dX8_spreads_87 : decode cX8_spreads 87 = .ok (.iload 5, 2) := by decide +kernel
theorem dX8_spreads_89 : decode cX8_spreads 89 = .ok (.iaload, 1) := by decide +kernel
theorem dX8_spreads_90 : decode cX8_spreads 90 = .ok (.aload_n 0, 1) := by decide +kernel
theorem dX8_spreads_91 : decode cX8_spreads 91 = .ok (.getfield 35, 3) := by decide +kernel
theorem dX8_spreads_94 : decode cX8_spreads 94 = .ok (.iload 4, 2) := by decide +kernel
theorem dX8_spreads_96 : decode cX8_spreads 96 = .ok (.iaload, 1) := by decide +kernel
theorem dX8_spreads_97 : decode cX8_spreads 97 = .ok (.if_icmp .le 8, 3) := by decide +kernel
theorem dX8_spreads_100 : decode cX8_spreads 100 = .ok (.iload 5, 2) := by decide +kernel
theorem dX8_spreads_102 : decode cX8_spreads 102 = .ok (.goto 5, 3) := by decide +kernel
theorem dX8_spreads_105 : decode cX8_spreads 105 = .ok (.iload 4, 2) := by decide +kernel
theorem dX8_spreads_107 : decode cX8_spreads 107 = .ok (.istore 4, 2) := by decide +kernel
theorem dX8_spreads_109 : decode cX8_spreads 109 = .ok (.iinc 5 1, 3) := by decide +kernel
theorem dX8_spreads_112 : decode cX8_spreads 112 = .ok (.goto (-53), 3) := by decide +kernel
theorem dX8_spreads_115 : decode cX8_spreads 115 = .ok (.iconst 0, 1) := by decide +kernel
theorem dX8_spreads_116 : decode cX8_spreads 116 = .ok (.istore 5, 2) := by decide +kernel
theorem dX8_spreads_118 : decode cX8_spreads 118 = .ok (.iconst 1, 1) := by decide +kernel
theorem dX8_spreads_119 : decode cX8_spreads 119 = .ok (.istore 6, 2) := by decide +kernel
theorem dX8_spreads_121 : decode cX8_spreads 121 = .ok (.iload 6, 2) := by decide +kernel
theorem dX8_spreads_123 : decode cX8_spreads 123 = .ok (.iload_n 1, 1) := by decide +kernel
theorem dX8_spreads_124 : decode cX8_spreads 124 = .ok (.if_icmp .ge 35, 3) := by decide +kernel
theorem dX8_spreads_127 : decode cX8_spreads 127 = .ok (.aload_n 0, 1) := by decide +kernel
theorem dX8_spreads_128 : decode cX8_spreads 128 = .ok (.getfield 71, 3) := by decide +kernel
theorem dX8_spreads_131 : decode cX8_spreads 131 = .ok (.iload 6, 2) := by decide +kernel
theorem dX8_spreads_133 : decode cX8_spreads 133 = .ok (.iaload, 1) := by decide +kernel
theorem dX8_spreads_134 : decode cX8_spreads 134 = .ok (.aload_n 0, 1) := by decide +kernel
theorem dX8_spreads_135 : decode cX8_spreads 135 = .ok (.getfield 71, 3) := by decide +kernel
theorem dX8_spreads_138 : decode cX8_spreads 138 = .ok (.iload 5, 2) := by decide +kernel
theorem dX8_spreads_140 : decode cX8_spreads 140 = .ok (.iaload, 1) := by decide +kernel
theorem dX8_spreads_141 : decode cX8_spreads 141 = .ok (.if_icmp .ge 8, 3) := by decide +kernel
theorem dX8_spreads_144 : decode cX8_spreads 144 = .ok (.iload 6, 2) := by decide +kernel
theorem dX8_spreads_146 : decode cX8_spreads 146 = .ok (.goto 5, 3) := by decide +kernel
theorem dX8_spreads_149 : decode cX8_spreads 149 = .ok (.iload 5, 2) := by decide +kernel
theorem dX8_spreads_151 : decode cX8_spreads 151 = .ok (.istore 5, 2) := by decide +kernel
theorem dX8_spreads_153 : decode cX8_spreads 153 = .ok (.iinc 6 1, 3) := by decide +kernel
theorem dX8_spreads_156 : decode cX8_spreads 156 = .ok (.goto (-35), 3) := by decide +kernel
theorem dX8_spreads_159 : decode cX8_spreads 159 = .ok (.aload_n 0, 1) := by decide +kernel
theorem dX8_spreads_160 : decode cX8_spreads 160 = .ok (.getfield 74, 3) := by decide +kernel
theorem dX8_spreads_163 : decode cX8_spreads 163 = .ok (.iload 4, 2) := by decide +kernel
theorem dX8_spreads_165 : decode cX8_spreads 165 = .ok (.iload 5, 2) := by decide +kernel
theorem dX8_spreads_167 : decode cX8_spreads 167 = .ok (.iastore, 1) := by decide +kernel
theorem dX8_spreads_168 : decode cX8_spreads 168 = .ok (.aload_n 0, 1) := by decide +kernel
theorem dX8_spreads_169 : decode cX8_spreads 169 = .ok (.getfield 71, 3) := by decide +kernel
theorem dX8_spreads_172 : decode cX8_spreads 172 = .ok (.iload 5, 2) := by decide +kernel
theorem dX8_spreads_174 : decode cX8_spreads 174 = .ok (.dup2, 1) := by decide +kernel
theorem dX8_spreads_175 : decode cX8_spreads 175 = .ok (.iaload, 1) := by decide +kernel
theorem dX8_spreads_176 : decode cX8_spreads 176 = .ok (.aload_n 0, 1) := by decide +kernel
theorem dX8_spreads_177 : decode cX8_spreads 177 = .ok (.getfield 35, 3) := by decide +kernel
theorem dX8_spreads_180 : decode cX8_spreads 180 = .ok (.iload 4, 2) := by decide +kernel
theorem dX8_spreads_182 : decode cX8_spreads 182 = .ok (.iaload, 1) := by decide +kernel
theorem dX8_spreads_183 : decode cX8_spreads 183 = .ok (.iadd, 1) := by decide +kernel
theorem dX8_spreads_184 : decode cX8_spreads 184 = .ok (.iastore, 1) := by decide +kernel
theorem dX8_spreads_185 : decode cX8_spreads 185 = .ok (.aload_n 0, 1) := by decide +kernel
theorem dX8_spreads_186 : decode cX8_spreads 186 = .ok (.getfield 71, 3) := by decide +kernel
theorem dX8_spreads_189 : decode cX8_spreads 189 = .ok (.iload 5, 2) := by decide +kernel
theorem dX8_spreads_191 : decode cX8_spreads 191 = .ok (.iaload, 1) := by decide +kernel
theorem dX8_spreads_192 : decode cX8_spreads 192 = .ok (.iload_n 3, 1) := by decide +kernel
theorem dX8_spreads_193 : decode cX8_spreads 193 = .ok (.if_icmp .le 13, 3) := by decide +kernel
theorem dX8_spreads_196 : decode cX8_spreads 196 = .ok (.aload_n 0, 1) := by decide +kernel
theorem dX8_spreads_197 : decode cX8_spreads 197 = .ok (.getfield 71, 3) := by decide +kernel
theorem dX8_spreads_200 : decode cX8_spreads 200 = .ok (.iload 5, 2) := by decide +kernel
theorem dX8_spreads_202 : decode cX8_spreads 202 = .ok (.iaload, 1) := by decide +kernel
theorem dX8_spreads_203 : decode cX8_spreads 203 = .ok (.goto 4, 3) := by decide +kernel
theorem dX8_spreads_206 : decode cX8_spreads 206 = .ok (.iload_n 3, 1) := by decide +kernel
theorem dX8_spreads_207 : decode cX8_spreads 207 = .ok (.istore_n 3, 1) := by decide +kernel
theorem dX8_spreads_208 : decode cX8_spreads 208 = .ok (.iload_n 2, 1) := by decide +kernel
theorem dX8_spreads_209 : decode cX8_spreads 209 = .ok (.iconst 1, 1) := by decide +kernel
theorem dX8_spreads_210 : decode cX8_spreads 210 = .ok (.iload 4, 2) := by decide +kernel
theorem dX8_spreads_212 : decode cX8_spreads 212 = .ok (.ishl, 1) := by decide +kernel
theorem dX8_spreads_213 : decode cX8_spreads 213 = .ok (.iconst (-1), 1) := by decide +kernel
theorem dX8_spreads_214 : decode cX8_spreads 214 = .ok (.ixor, 1) := by decide +kernel
theorem dX8_spreads_215 : decode cX8_spreads 215 = .ok (.iand, 1) := by decide +kernel
theorem dX8_spreads_216 : decode cX8_spreads 216 = .ok (.istore_n 2, 1) := by decide +kernel
theorem dX8_spreads_217 : decode cX8_spreads 217 = .ok (.goto (-168), 3) := by decide +kernel
theorem dX8_spreads_220 : decode cX8_spreads 220 = .ok (.iload_n 3, 1) := by decide +kernel
theorem dX8_spreads_221 : decode cX8_spreads 221 = .ok (.ireturn, 1) := by decide +kernel
theorem dX8_shardOf_0 : decode cX8_shardOf 0 = .ok (.aload_n 0, 1) := by decide +kernel
theorem dX8_shardOf_1 : decode cX8_shardOf 1 = .ok (.aload_n 0, 1) := by decide +kernel
theorem dX8_shardOf_2 : decode cX8_shardOf 2 = .ok (.iload_n 1, 1) := by decide +kernel
theorem dX8_shardOf_3 : decode cX8_shardOf 3 = .ok (.invokevirtual 133, 3) := by decide +kernel
theorem dX8_shardOf_6 : decode cX8_shardOf 6 = .ok (.ifCond .ne 7, 3) := by decide +kernel
theorem dX8_shardOf_9 : decode cX8_shardOf 9 = .ok (.iconst 1, 1) := by decide +kernel
theorem dX8_shardOf_10 : decode cX8_shardOf 10 = .ok (.goto 18, 3) := by decide +kernel
theorem dX8_shardOf_13 : decode cX8_shardOf 13 = .ok (.iload_n 2, 1) := by decide +kernel
theorem dX8_shardOf_14 : decode cX8_shardOf 14 = .ok (.iconst 1, 1) := by decide +kernel
theorem dX8_shardOf_15 : decode cX8_shardOf 15 = .ok (.bipush 8, 2) := by decide +kernel
theorem dX8_shardOf_17 : decode cX8_shardOf 17 = .ok (.invokestatic 111, 3) := by decide +kernel
theorem dX8_shardOf_20 : decode cX8_shardOf 20 = .ok (.ifCond .eq 7, 3) := by decide +kernel
theorem dX8_shardOf_23 : decode cX8_shardOf 23 = .ok (.iconst 0, 1) := by decide +kernel
theorem dX8_shardOf_24 : decode cX8_shardOf 24 = .ok (.goto 4, 3) := by decide +kernel
theorem dX8_shardOf_27 : decode cX8_shardOf 27 = .ok (.iconst 2, 1) := by decide +kernel
theorem dX8_shardOf_28 : decode cX8_shardOf 28 = .ok (.putfield 77, 3) := by decide +kernel
theorem dX8_shardOf_31 : decode cX8_shardOf 31 = .ok (.aload_n 0, 1) := by decide +kernel
theorem dX8_shardOf_32 : decode cX8_shardOf 32 = .ok (.getfield 77, 3) := by decide +kernel
theorem dX8_shardOf_35 : decode cX8_shardOf 35 = .ok (.ifCond .le 5, 3) := by decide +kernel
theorem dX8_shardOf_38 : decode cX8_shardOf 38 = .ok (.iconst 0, 1) := by decide +kernel
theorem dX8_shardOf_39 : decode cX8_shardOf 39 = .ok (.ireturn, 1) := by decide +kernel
theorem dX8_shardOf_40 : decode cX8_shardOf 40 = .ok (.aload_n 0, 1) := by decide +kernel
theorem dX8_shardOf_41 : decode cX8_shardOf 41 = .ok (.iload_n 2, 1) := by decide +kernel
theorem dX8_shardOf_42 : decode cX8_shardOf 42 = .ok (.invokevirtual 177, 3) := by decide +kernel
theorem dX8_shardOf_45 : decode cX8_shardOf 45 = .ok (.pop, 1) := by decide +kernel
theorem dX8_shardOf_46 : decode cX8_shardOf 46 = .ok (.aload_n 0, 1) := by decide +kernel
theorem dX8_shardOf_47 : decode cX8_shardOf 47 = .ok (.getfield 74, 3) := by decide +kernel
theorem dX8_shardOf_50 : decode cX8_shardOf 50 = .ok (.iload_n 1, 1) := by decide +kernel
theorem dX8_shardOf_51 : decode cX8_shardOf 51 = .ok (.iaload, 1) := by decide +kernel
theorem dX8_shardOf_52 : decode cX8_shardOf 52 = .ok (.ireturn, 1) := by decide +kernel
theorem dX8_longestShard_0 : decode cX8_longestShard 0 = .ok (.aload_n 0, 1) := by decide +kernel
theorem dX8_longestShard_1 : decode cX8_longestShard 1 = .ok (.iload_n 1, 1) := by decide +kernel
theorem dX8_longestShard_2 : decode cX8_longestShard 2 = .ok (.iconst 1, 1) := by decide +kernel
theorem dX8_longestShard_3 : decode cX8_longestShard 3 = .ok (.bipush 8, 2) := by decide +kernel
theorem dX8_longestShard_5 : decode cX8_longestShard 5 = .ok (.invokestatic 111, 3) := by decide +kernel
theorem dX8_longestShard_8 : decode cX8_longestShard 8 = .ok (.ifCond .eq 7, 3) := by decide +kernel
theorem dX8_longestShard_11 : decode cX8_longestShard 11 = .ok (.iconst 0, 1) := by decide +kernel
theorem dX8_longestShard_12 : decode cX8_longestShard 12 = .ok (.goto 4, 3) := by decide +kernel
theorem dX8_longestShard_15 : decode cX8_longestShard 15 = .ok (.iconst 1, 1) := by decide +kernel
theorem dX8_longestShard_16 : decode cX8_longestShard 16 = .ok (.putfield 77, 3) := by decide +kernel
theorem dX8_longestShard_19 : decode cX8_longestShard 19 = .ok (.aload_n 0, 1) := by decide +kernel
theorem dX8_longestShard_20 : decode cX8_longestShard 20 = .ok (.getfield 77, 3) := by decide +kernel
theorem dX8_longestShard_23 : decode cX8_longestShard 23 = .ok (.ifCond .le 7, 3) := by decide +kernel
theorem dX8_longestShard_26 : decode cX8_longestShard 26 = .ok (.iconst 0, 1) := by decide +kernel
theorem dX8_longestShard_27 : decode cX8_longestShard 27 = .ok (.goto 8, 3) := by decide +kernel
theorem dX8_longestShard_30 : decode cX8_longestShard 30 = .ok (.aload_n 0, 1) := by decide +kernel
theorem dX8_longestShard_31 : decode cX8_longestShard 31 = .ok (.iload_n 1, 1) := by decide +kernel
theorem dX8_longestShard_32 : decode cX8_longestShard 32 = .ok (.invokevirtual 177, 3) := by decide +kernel
theorem dX8_longestShard_35 : decode cX8_longestShard 35 = .ok (.ireturn, 1) := by decide +kernel
theorem dX8_shardsFor_0 : decode cX8_shardsFor 0 = .ok (.aload_n 0, 1) := by decide +kernel
theorem dX8_shardsFor_1 : decode cX8_shardsFor 1 = .ok (.iload_n 1, 1) := by decide +kernel
theorem dX8_shardsFor_2 : decode cX8_shardsFor 2 = .ok (.iconst 1, 1) := by decide +kernel
theorem dX8_shardsFor_3 : decode cX8_shardsFor 3 = .ok (.sipush 16000, 3) := by decide +kernel
theorem dX8_shardsFor_6 : decode cX8_shardsFor 6 = .ok (.invokestatic 111, 3) := by decide +kernel
theorem dX8_shardsFor_9 : decode cX8_shardsFor 9 = .ok (.ifCond .eq 7, 3) := by decide +kernel
theorem dX8_shardsFor_12 : decode cX8_shardsFor 12 = .ok (.iconst 0, 1) := by decide +kernel
theorem dX8_shardsFor_13 : decode cX8_shardsFor 13 = .ok (.goto 4, 3) := by decide +kernel
theorem dX8_shardsFor_16 : decode cX8_shardsFor 16 = .ok (.iconst 1, 1) := by decide +kernel
theorem dX8_shardsFor_17 : decode cX8_shardsFor 17 = .ok (.putfield 77, 3) := by decide +kernel
theorem dX8_shardsFor_20 : decode cX8_shardsFor 20 = .ok (.iconst (-1), 1) := by decide +kernel
theorem dX8_shardsFor_21 : decode cX8_shardsFor 21 = .ok (.istore_n 2, 1) := by decide +kernel
theorem dX8_shardsFor_22 : decode cX8_shardsFor 22 = .ok (.bipush 8, 2) := by decide +kernel
theorem dX8_shardsFor_24 : decode cX8_shardsFor 24 = .ok (.istore_n 3, 1) := by decide +kernel
theorem dX8_shardsFor_25 : decode cX8_shardsFor 25 = .ok (.iload_n 3, 1) := by decide +kernel
theorem dX8_shardsFor_26 : decode cX8_shardsFor 26 = .ok (.iconst 1, 1) := by decide +kernel
theorem dX8_shardsFor_27 : decode cX8_shardsFor 27 = .ok (.if_icmp .lt 31, 3) := by decide +kernel
theorem dX8_shardsFor_30 : decode cX8_shardsFor 30 = .ok (.aload_n 0, 1) := by decide +kernel
theorem dX8_shardsFor_31 : decode cX8_shardsFor 31 = .ok (.getfield 77, 3) := by decide +kernel
theorem dX8_shardsFor_34 : decode cX8_shardsFor 34 = .ok (.ifCond .ne 24, 3) := by decide +kernel
theorem dX8_shardsFor_37 : decode cX8_shardsFor 37 = .ok (.aload_n 0, 1) := by decide +kernel
theorem dX8_shardsFor_38 : decode cX8_shardsFor 38 = .ok (.iload_n 3, 1) := by decide +kernel
theorem dX8_shardsFor_39 : decode cX8_shardsFor 39 = .ok (.invokevirtual 177, 3) := by decide +kernel
theorem dX8_shardsFor_42 : decode cX8_shardsFor 42 = .ok (.iload_n 1, 1) := by decide +kernel
theorem dX8_shardsFor_43 : decode cX8_shardsFor 43 = .ok (.if_icmp .gt 7, 3) := by decide +kernel
theorem dX8_shardsFor_46 : decode cX8_shardsFor 46 = .ok (.iload_n 3, 1) := by decide +kernel
theorem dX8_shardsFor_47 : decode cX8_shardsFor 47 = .ok (.goto 4, 3) := by decide +kernel
theorem dX8_shardsFor_50 : decode cX8_shardsFor 50 = .ok (.iload_n 2, 1) := by decide +kernel
theorem dX8_shardsFor_51 : decode cX8_shardsFor 51 = .ok (.istore_n 2, 1) := by decide +kernel
theorem dX8_shardsFor_52 : decode cX8_shardsFor 52 = .ok (.iinc 3 (-1), 3) := by decide +kernel
theorem dX8_shardsFor_55 : decode cX8_shardsFor 55 = .ok (.goto (-30), 3) := by decide +kernel
theorem dX8_shardsFor_58 : decode cX8_shardsFor 58 = .ok (.aload_n 0, 1) := by decide +kernel
theorem dX8_shardsFor_59 : decode cX8_shardsFor 59 = .ok (.getfield 77, 3) := by decide +kernel
theorem dX8_shardsFor_62 : decode cX8_shardsFor 62 = .ok (.ifCond .le 7, 3) := by decide +kernel
theorem dX8_shardsFor_65 : decode cX8_shardsFor 65 = .ok (.iconst 0, 1) := by decide +kernel
theorem dX8_shardsFor_66 : decode cX8_shardsFor 66 = .ok (.goto 4, 3) := by decide +kernel
theorem dX8_shardsFor_69 : decode cX8_shardsFor 69 = .ok (.iload_n 2, 1) := by decide +kernel
theorem dX8_shardsFor_70 : decode cX8_shardsFor 70 = .ok (.ireturn, 1) := by decide +kernel
theorem dX8_addRule_0 : decode cX8_addRule 0 = .ok (.aload_n 0, 1) := by decide +kernel
theorem dX8_addRule_1 : decode cX8_addRule 1 = .ok (.iload_n 1, 1) := by decide +kernel
theorem dX8_addRule_2 : decode cX8_addRule 2 = .ok (.iconst 0, 1) := by decide +kernel
theorem dX8_addRule_3 : decode cX8_addRule 3 = .ok (.bipush 7, 2) := by decide +kernel
theorem dX8_addRule_5 : decode cX8_addRule 5 = .ok (.invokestatic 111, 3) := by decide +kernel
theorem dX8_addRule_8 : decode cX8_addRule 8 = .ok (.ifCond .ne 7, 3) := by decide +kernel
theorem dX8_addRule_11 : decode cX8_addRule 11 = .ok (.iconst 1, 1) := by decide +kernel
theorem dX8_addRule_12 : decode cX8_addRule 12 = .ok (.goto 28, 3) := by decide +kernel
theorem dX8_addRule_15 : decode cX8_addRule 15 = .ok (.aload_n 0, 1) := by decide +kernel
theorem dX8_addRule_16 : decode cX8_addRule 16 = .ok (.invokevirtual 92, 3) := by decide +kernel
theorem dX8_addRule_19 : decode cX8_addRule 19 = .ok (.ifCond .ne 7, 3) := by decide +kernel
theorem dX8_addRule_22 : decode cX8_addRule 22 = .ok (.iconst 2, 1) := by decide +kernel
theorem dX8_addRule_23 : decode cX8_addRule 23 = .ok (.goto 17, 3) := by decide +kernel
theorem dX8_addRule_26 : decode cX8_addRule 26 = .ok (.aload_n 0, 1) := by decide +kernel
theorem dX8_addRule_27 : decode cX8_addRule 27 = .ok (.getfield 180, 3) := by decide +kernel
theorem dX8_addRule_30 : decode cX8_addRule 30 = .ok (.bipush 12, 2) := by decide +kernel
theorem dX8_addRule_32 : decode cX8_addRule 32 = .ok (.if_icmp .ne 7, 3) := by decide +kernel
theorem dX8_addRule_35 : decode cX8_addRule 35 = .ok (.iconst 3, 1) := by decide +kernel
theorem dX8_addRule_36 : decode cX8_addRule 36 = .ok (.goto 4, 3) := by decide +kernel
theorem dX8_addRule_39 : decode cX8_addRule 39 = .ok (.iconst 0, 1) := by decide +kernel
theorem dX8_addRule_40 : decode cX8_addRule 40 = .ok (.putfield 77, 3) := by decide +kernel
theorem dX8_addRule_43 : decode cX8_addRule 43 = .ok (.aload_n 0, 1) := by decide +kernel
theorem dX8_addRule_44 : decode cX8_addRule 44 = .ok (.getfield 77, 3) := by decide +kernel
theorem dX8_addRule_47 : decode cX8_addRule 47 = .ok (.ifCond .le 5, 3) := by decide +kernel
theorem dX8_addRule_50 : decode cX8_addRule 50 = .ok (.iconst 0, 1) := by decide +kernel
theorem dX8_addRule_51 : decode cX8_addRule 51 = .ok (.ireturn, 1) := by decide +kernel
theorem dX8_addRule_52 : decode cX8_addRule 52 = .ok (.aload_n 0, 1) := by decide +kernel
theorem dX8_addRule_53 : decode cX8_addRule 53 = .ok (.bipush 64, 2) := by decide +kernel
theorem dX8_addRule_55 : decode cX8_addRule 55 = .ok (.aload_n 0, 1) := by decide +kernel
theorem dX8_addRule_56 : decode cX8_addRule 56 = .ok (.getfield 180, 3) := by decide +kernel
theorem dX8_addRule_59 : decode cX8_addRule 59 = .ok (.iadd, 1) := by decide +kernel
theorem dX8_addRule_60 : decode cX8_addRule 60 = .ok (.invokevirtual 136, 3) := by decide +kernel
theorem dX8_addRule_63 : decode cX8_addRule 63 = .ok (.aload_n 0, 1) := by decide +kernel
theorem dX8_addRule_64 : decode cX8_addRule 64 = .ok (.getfield 47, 3) := by decide +kernel
theorem dX8_addRule_67 : decode cX8_addRule 67 = .ok (.aload_n 0, 1) := by decide +kernel
theorem dX8_addRule_68 : decode cX8_addRule 68 = .ok (.getfield 180, 3) := by decide +kernel
theorem dX8_addRule_71 : decode cX8_addRule 71 = .ok (.iload_n 1, 1) := by decide +kernel
theorem dX8_addRule_72 : decode cX8_addRule 72 = .ok (.iastore, 1) := by decide +kernel
theorem dX8_addRule_73 : decode cX8_addRule 73 = .ok (.aload_n 0, 1) := by decide +kernel
theorem dX8_addRule_74 : decode cX8_addRule 74 = .ok (.dup, 1) := by decide +kernel
theorem dX8_addRule_75 : decode cX8_addRule 75 = .ok (.getfield 180, 3) := by decide +kernel
theorem dX8_addRule_78 : decode cX8_addRule 78 = .ok (.iconst 1, 1) := by decide +kernel
theorem dX8_addRule_79 : decode cX8_addRule 79 = .ok (.iadd, 1) := by decide +kernel
theorem dX8_addRule_80 : decode cX8_addRule 80 = .ok (.putfield 180, 3) := by decide +kernel
theorem dX8_addRule_83 : decode cX8_addRule 83 = .ok (.aload_n 0, 1) := by decide +kernel
theorem dX8_addRule_84 : decode cX8_addRule 84 = .ok (.getfield 180, 3) := by decide +kernel
theorem dX8_addRule_87 : decode cX8_addRule 87 = .ok (.ireturn, 1) := by decide +kernel
theorem dX8_ownerNow_0 : decode cX8_ownerNow 0 = .ok (.iconst (-1), 1) := by decide +kernel
theorem dX8_ownerNow_1 : decode cX8_ownerNow 1 = .ok (.istore_n 2, 1) := by decide +kernel
theorem dX8_ownerNow_2 : decode cX8_ownerNow 2 = .ok (.iconst 0, 1) := by decide +kernel
theorem dX8_ownerNow_3 : decode cX8_ownerNow 3 = .ok (.istore_n 3, 1) := by decide +kernel
theorem dX8_ownerNow_4 : decode cX8_ownerNow 4 = .ok (.iload_n 3, 1) := by decide +kernel
theorem dX8_ownerNow_5 : decode cX8_ownerNow 5 = .ok (.aload_n 0, 1) := by decide +kernel
theorem dX8_ownerNow_6 : decode cX8_ownerNow 6 = .ok (.getfield 180, 3) := by decide +kernel
theorem dX8_ownerNow_9 : decode cX8_ownerNow 9 = .ok (.if_icmp .ge 32, 3) := by decide +kernel
theorem dX8_ownerNow_12 : decode cX8_ownerNow 12 = .ok (.aload_n 0, 1) := by decide +kernel
theorem dX8_ownerNow_13 : decode cX8_ownerNow 13 = .ok (.bipush 64, 2) := by decide +kernel
theorem dX8_ownerNow_15 : decode cX8_ownerNow 15 = .ok (.iload_n 3, 1) := by decide +kernel
theorem dX8_ownerNow_16 : decode cX8_ownerNow 16 = .ok (.iadd, 1) := by decide +kernel
theorem dX8_ownerNow_17 : decode cX8_ownerNow 17 = .ok (.iload_n 1, 1) := by decide +kernel
theorem dX8_ownerNow_18 : decode cX8_ownerNow 18 = .ok (.invokevirtual 123, 3) := by decide +kernel
theorem dX8_ownerNow_21 : decode cX8_ownerNow 21 = .ok (.ifCond .eq 12, 3) := by decide +kernel
theorem dX8_ownerNow_24 : decode cX8_ownerNow 24 = .ok (.aload_n 0, 1) := by decide +kernel
theorem dX8_ownerNow_25 : decode cX8_ownerNow 25 = .ok (.getfield 47, 3) := by decide +kernel
theorem dX8_ownerNow_28 : decode cX8_ownerNow 28 = .ok (.iload_n 3, 1) := by decide +kernel
theorem dX8_ownerNow_29 : decode cX8_ownerNow 29 = .ok (.iaload, 1) := by decide +kernel
theorem dX8_ownerNow_30 : decode cX8_ownerNow 30 = .ok (.goto 4, 3) := by decide +kernel
theorem dX8_ownerNow_33 : decode cX8_ownerNow 33 = .ok (.iload_n 2, 1) := by decide +kernel
theorem dX8_ownerNow_34 : decode cX8_ownerNow 34 = .ok (.istore_n 2, 1) := by decide +kernel
theorem dX8_ownerNow_35 : decode cX8_ownerNow 35 = .ok (.iinc 3 1, 3) := by decide +kernel
theorem dX8_ownerNow_38 : decode cX8_ownerNow 38 = .ok (.goto (-34), 3) := by decide +kernel
theorem dX8_ownerNow_41 : decode cX8_ownerNow 41 = .ok (.iload_n 2, 1) := by decide +kernel
theorem dX8_ownerNow_42 : decode cX8_ownerNow 42 = .ok (.ireturn, 1) := by decide +kernel
theorem dX8_ownerOf_0 : decode cX8_ownerOf 0 = .ok (.aload_n 0, 1) := by decide +kernel
theorem dX8_ownerOf_1 : decode cX8_ownerOf 1 = .ok (.iload_n 1, 1) := by decide +kernel
theorem dX8_ownerOf_2 : decode cX8_ownerOf 2 = .ok (.iconst 0, 1) := by decide +kernel
theorem dX8_ownerOf_3 : decode cX8_ownerOf 3 = .ok (.aload_n 0, 1) := by decide +kernel
theorem dX8_ownerOf_4 : decode cX8_ownerOf 4 = .ok (.getfield 108, 3) := by decide +kernel
theorem dX8_ownerOf_7 : decode cX8_ownerOf 7 = .ok (.iconst 1, 1) := by decide +kernel
theorem dX8_ownerOf_8 : decode cX8_ownerOf 8 = .ok (.isub, 1) := by decide +kernel
theorem dX8_ownerOf_9 : decode cX8_ownerOf 9 = .ok (.invokestatic 111, 3) := by decide +kernel
theorem dX8_ownerOf_12 : decode cX8_ownerOf 12 = .ok (.ifCond .eq 7, 3) := by decide +kernel
theorem dX8_ownerOf_15 : decode cX8_ownerOf 15 = .ok (.iconst 0, 1) := by decide +kernel
theorem dX8_ownerOf_16 : decode cX8_ownerOf 16 = .ok (.goto 4, 3) := by decide +kernel
theorem dX8_ownerOf_19 : decode cX8_ownerOf 19 = .ok (.iconst 1, 1) := by decide +kernel
theorem dX8_ownerOf_20 : decode cX8_ownerOf 20 = .ok (.putfield 77, 3) := by decide +kernel
theorem dX8_ownerOf_23 : decode cX8_ownerOf 23 = .ok (.aload_n 0, 1) := by decide +kernel
theorem dX8_ownerOf_24 : decode cX8_ownerOf 24 = .ok (.getfield 77, 3) := by decide +kernel
theorem dX8_ownerOf_27 : decode cX8_ownerOf 27 = .ok (.ifCond .le 7, 3) := by decide +kernel
theorem dX8_ownerOf_30 : decode cX8_ownerOf 30 = .ok (.iconst 0, 1) := by decide +kernel
theorem dX8_ownerOf_31 : decode cX8_ownerOf 31 = .ok (.goto 8, 3) := by decide +kernel
theorem dX8_ownerOf_34 : decode cX8_ownerOf 34 = .ok (.aload_n 0, 1) := by decide +kernel
theorem dX8_ownerOf_35 : decode cX8_ownerOf 35 = .ok (.iload_n 1, 1) := by decide +kernel
theorem dX8_ownerOf_36 : decode cX8_ownerOf 36 = .ok (.invokevirtual 183, 3) := by decide +kernel
theorem dX8_ownerOf_39 : decode cX8_ownerOf 39 = .ok (.ireturn, 1) := by decide +kernel
theorem dX8_mark_0 : decode cX8_mark 0 = .ok (.aload_n 0, 1) := by decide +kernel
theorem dX8_mark_1 : decode cX8_mark 1 = .ok (.iconst 0, 1) := by decide +kernel
theorem dX8_mark_2 : decode cX8_mark 2 = .ok (.putfield 77, 3) := by decide +kernel
theorem dX8_mark_5 : decode cX8_mark 5 = .ok (.iconst 0, 1) := by decide +kernel
theorem dX8_mark_6 : decode cX8_mark 6 = .ok (.istore_n 1, 1) := by decide +kernel
theorem dX8_mark_7 : decode cX8_mark 7 = .ok (.iconst 0, 1) := by decide +kernel
theorem dX8_mark_8 : decode cX8_mark 8 = .ok (.istore_n 2, 1) := by decide +kernel
theorem dX8_mark_9 : decode cX8_mark 9 = .ok (.iload_n 2, 1) := by decide +kernel
theorem dX8_mark_10 : decode cX8_mark 10 = .ok (.aload_n 0, 1) := by decide +kernel
theorem dX8_mark_11 : decode cX8_mark 11 = .ok (.getfield 108, 3) := by decide +kernel
theorem dX8_mark_14 : decode cX8_mark 14 = .ok (.if_icmp .ge 50, 3) := by decide +kernel
theorem dX8_mark_17 : decode cX8_mark 17 = .ok (.aload_n 0, 1) := by decide +kernel
theorem dX8_mark_18 : decode cX8_mark 18 = .ok (.getfield 29, 3) := by decide +kernel
theorem dX8_mark_21 : decode cX8_mark 21 = .ok (.iload_n 2, 1) := by decide +kernel
theorem dX8_mark_22 : decode cX8_mark 22 = .ok (.aload_n 0, 1) := by decide +kernel
theorem dX8_mark_23 : decode cX8_mark 23 = .ok (.getfield 22, 3) := by decide +kernel
theorem dX8_mark_26 : decode cX8_mark 26 = .ok (.iload_n 2, 1) := by decide +kernel
theorem dX8_mark_27 : decode cX8_mark 27 = .ok (.baload, 1) := by decide +kernel
theorem dX8_mark_28 : decode cX8_mark 28 = .ok (.bastore, 1) := by decide +kernel
theorem dX8_mark_29 : decode cX8_mark 29 = .ok (.aload_n 0, 1) := by decide +kernel
theorem dX8_mark_30 : decode cX8_mark 30 = .ok (.getfield 32, 3) := by decide +kernel
theorem dX8_mark_33 : decode cX8_mark 33 = .ok (.iload_n 2, 1) := by decide +kernel
theorem dX8_mark_34 : decode cX8_mark 34 = .ok (.aload_n 0, 1) := by decide +kernel
theorem dX8_mark_35 : decode cX8_mark 35 = .ok (.getfield 26, 3) := by decide +kernel
theorem dX8_mark_38 : decode cX8_mark 38 = .ok (.iload_n 2, 1) := by decide +kernel
theorem dX8_mark_39 : decode cX8_mark 39 = .ok (.iaload, 1) := by decide +kernel
theorem dX8_mark_40 : decode cX8_mark 40 = .ok (.iastore, 1) := by decide +kernel
theorem dX8_mark_41 : decode cX8_mark 41 = .ok (.iload_n 1, 1) := by decide +kernel
theorem dX8_mark_42 : decode cX8_mark 42 = .ok (.aload_n 0, 1) := by decide +kernel
theorem dX8_mark_43 : decode cX8_mark 43 = .ok (.getfield 22, 3) := by decide +kernel
theorem dX8_mark_46 : decode cX8_mark 46 = .ok (.iload_n 2, 1) := by decide +kernel
theorem dX8_mark_47 : decode cX8_mark 47 = .ok (.baload, 1) := by decide +kernel
theorem dX8_mark_48 : decode cX8_mark 48 = .ok (.ifCond .eq 7, 3) := by decide +kernel
theorem dX8_mark_51 : decode cX8_mark 51 = .ok (.iconst 1, 1) := by decide +kernel
theorem dX8_mark_52 : decode cX8_mark 52 = .ok (.goto 4, 3) := by decide +kernel
theorem dX8_mark_55 : decode cX8_mark 55 = .ok (.iconst 0, 1) := by decide +kernel
theorem dX8_mark_56 : decode cX8_mark 56 = .ok (.iadd, 1) := by decide +kernel
theorem dX8_mark_57 : decode cX8_mark 57 = .ok (.istore_n 1, 1) := by decide +kernel
theorem dX8_mark_58 : decode cX8_mark 58 = .ok (.iinc 2 1, 3) := by decide +kernel
theorem dX8_mark_61 : decode cX8_mark 61 = .ok (.goto (-52), 3) := by decide +kernel
theorem dX8_mark_64 : decode cX8_mark 64 = .ok (.iload_n 1, 1) := by decide +kernel
theorem dX8_mark_65 : decode cX8_mark 65 = .ok (.ireturn, 1) := by decide +kernel
theorem dX8_isChanged_0 : decode cX8_isChanged 0 = .ok (.aload_n 0, 1) := by decide +kernel
theorem dX8_isChanged_1 : decode cX8_isChanged 1 = .ok (.getfield 22, 3) := by decide +kernel
theorem dX8_isChanged_4 : decode cX8_isChanged 4 = .ok (.iload_n 1, 1) := by decide +kernel
theorem dX8_isChanged_5 : decode cX8_isChanged 5 = .ok (.baload, 1) := by decide +kernel
theorem dX8_isChanged_6 : decode cX8_isChanged 6 = .ok (.aload_n 0, 1) := by decide +kernel
theorem dX8_isChanged_7 : decode cX8_isChanged 7 = .ok (.getfield 29, 3) := by decide +kernel
theorem dX8_isChanged_10 : decode cX8_isChanged 10 = .ok (.iload_n 1, 1) := by decide +kernel
theorem dX8_isChanged_11 : decode cX8_isChanged 11 = .ok (.baload, 1) := by decide +kernel
theorem dX8_isChanged_12 : decode cX8_isChanged 12 = .ok (.if_icmp .ne 27, 3) := by decide +kernel
theorem dX8_isChanged_15 : decode cX8_isChanged 15 = .ok (.aload_n 0, 1) := by decide +kernel
theorem dX8_isChanged_16 : decode cX8_isChanged 16 = .ok (.getfield 22, 3) := by decide +kernel
theorem dX8_isChanged_19 : decode cX8_isChanged 19 = .ok (.iload_n 1, 1) := by decide +kernel
theorem dX8_isChanged_20 : decode cX8_isChanged 20 = .ok (.baload, 1) := by decide +kernel
theorem dX8_isChanged_21 : decode cX8_isChanged 21 = .ok (.ifCond .eq 22, 3) := by decide +kernel
theorem dX8_isChanged_24 : decode cX8_isChanged 24 = .ok (.aload_n 0, 1) := by decide +kernel
theorem dX8_isChanged_25 : decode cX8_isChanged 25 = .ok (.getfield 26, 3) := by decide +kernel
theorem dX8_isChanged_28 : decode cX8_isChanged 28 = .ok (.iload_n 1, 1) := by decide +kernel
theorem dX8_isChanged_29 : decode cX8_isChanged 29 = .ok (.iaload, 1) := by decide +kernel
theorem dX8_isChanged_30 : decode cX8_isChanged 30 = .ok (.aload_n 0, 1) := by decide +kernel
theorem dX8_isChanged_31 : decode cX8_isChanged 31 = .ok (.getfield 32, 3) := by decide +kernel
theorem dX8_isChanged_34 : decode cX8_isChanged 34 = .ok (.iload_n 1, 1) := by decide +kernel
theorem dX8_isChanged_35 : decode cX8_isChanged 35 = .ok (.iaload, 1) := by decide +kernel
theorem dX8_isChanged_36 : decode cX8_isChanged 36 = .ok (.if_icmp .eq 7, 3) := by decide +kernel
theorem dX8_isChanged_39 : decode cX8_isChanged 39 = .ok (.iconst 1, 1) := by decide +kernel
theorem dX8_isChanged_40 : decode cX8_isChanged 40 = .ok (.goto 4, 3) := by decide +kernel
theorem dX8_isChanged_43 : decode cX8_isChanged 43 = .ok (.iconst 0, 1) := by decide +kernel
theorem dX8_isChanged_44 : decode cX8_isChanged 44 = .ok (.ireturn, 1) := by decide +kernel
theorem dX8_changed_0 : decode cX8_changed 0 = .ok (.aload_n 0, 1) := by decide +kernel
theorem dX8_changed_1 : decode cX8_changed 1 = .ok (.iconst 0, 1) := by decide +kernel
theorem dX8_changed_2 : decode cX8_changed 2 = .ok (.putfield 77, 3) := by decide +kernel
theorem dX8_changed_5 : decode cX8_changed 5 = .ok (.iconst 0, 1) := by decide +kernel
theorem dX8_changed_6 : decode cX8_changed 6 = .ok (.istore_n 1, 1) := by decide +kernel
theorem dX8_changed_7 : decode cX8_changed 7 = .ok (.iconst 0, 1) := by decide +kernel
theorem dX8_changed_8 : decode cX8_changed 8 = .ok (.istore_n 2, 1) := by decide +kernel
theorem dX8_changed_9 : decode cX8_changed 9 = .ok (.iload_n 2, 1) := by decide +kernel
theorem dX8_changed_10 : decode cX8_changed 10 = .ok (.aload_n 0, 1) := by decide +kernel
theorem dX8_changed_11 : decode cX8_changed 11 = .ok (.getfield 108, 3) := by decide +kernel
theorem dX8_changed_14 : decode cX8_changed 14 = .ok (.if_icmp .ge 27, 3) := by decide +kernel
theorem dX8_changed_17 : decode cX8_changed 17 = .ok (.iload_n 1, 1) := by decide +kernel
theorem dX8_changed_18 : decode cX8_changed 18 = .ok (.aload_n 0, 1) := by decide +kernel
theorem dX8_changed_19 : decode cX8_changed 19 = .ok (.iload_n 2, 1) := by decide +kernel
theorem dX8_changed_20 : decode cX8_changed 20 = .ok (.invokevirtual 186, 3) := by decide +kernel
theorem dX8_changed_23 : decode cX8_changed 23 = .ok (.ifCond .eq 9, 3) := by decide +kernel
theorem dX8_changed_26 : decode cX8_changed 26 = .ok (.iconst 1, 1) := by decide +kernel
theorem dX8_changed_27 : decode cX8_changed 27 = .ok (.iload_n 2, 1) := by decide +kernel
theorem dX8_changed_28 : decode cX8_changed 28 = .ok (.ishl, 1) := by decide +kernel
theorem dX8_changed_29 : decode cX8_changed 29 = .ok (.goto 4, 3) := by decide +kernel
theorem dX8_changed_32 : decode cX8_changed 32 = .ok (.iconst 0, 1) := by decide +kernel
theorem dX8_changed_33 : decode cX8_changed 33 = .ok (.ior, 1) := by decide +kernel
theorem dX8_changed_34 : decode cX8_changed 34 = .ok (.istore_n 1, 1) := by decide +kernel
theorem dX8_changed_35 : decode cX8_changed 35 = .ok (.iinc 2 1, 3) := by decide +kernel
theorem dX8_changed_38 : decode cX8_changed 38 = .ok (.goto (-29), 3) := by decide +kernel
theorem dX8_changed_41 : decode cX8_changed 41 = .ok (.iload_n 1, 1) := by decide +kernel
theorem dX8_changed_42 : decode cX8_changed 42 = .ok (.ireturn, 1) := by decide +kernel
theorem dX8_reviewers_0 : decode cX8_reviewers 0 = .ok (.aload_n 0, 1) := by decide +kernel
theorem dX8_reviewers_1 : decode cX8_reviewers 1 = .ok (.iconst 0, 1) := by decide +kernel
theorem dX8_reviewers_2 : decode cX8_reviewers 2 = .ok (.putfield 77, 3) := by decide +kernel
theorem dX8_reviewers_5 : decode cX8_reviewers 5 = .ok (.iconst 0, 1) := by decide +kernel
theorem dX8_reviewers_6 : decode cX8_reviewers 6 = .ok (.istore_n 1, 1) := by decide +kernel
theorem dX8_reviewers_7 : decode cX8_reviewers 7 = .ok (.iconst 0, 1) := by decide +kernel
theorem dX8_reviewers_8 : decode cX8_reviewers 8 = .ok (.istore_n 2, 1) := by decide +kernel
theorem dX8_reviewers_9 : decode cX8_reviewers 9 = .ok (.iload_n 2, 1) := by decide +kernel
theorem dX8_reviewers_10 : decode cX8_reviewers 10 = .ok (.aload_n 0, 1) := by decide +kernel
theorem dX8_reviewers_11 : decode cX8_reviewers 11 = .ok (.getfield 108, 3) := by decide +kernel
theorem dX8_reviewers_14 : decode cX8_reviewers 14 = .ok (.if_icmp .ge 41, 3) := by decide +kernel
theorem dX8_reviewers_17 : decode cX8_reviewers 17 = .ok (.aload_n 0, 1) := by decide +kernel
theorem dX8_reviewers_18 : decode cX8_reviewers 18 = .ok (.iload_n 2, 1) := by decide +kernel
theorem dX8_reviewers_19 : decode cX8_reviewers 19 = .ok (.invokevirtual 186, 3) := by decide +kernel
theorem dX8_reviewers_22 : decode cX8_reviewers 22 = .ok (.ifCond .eq 11, 3) := by decide +kernel
theorem dX8_reviewers_25 : decode cX8_reviewers 25 = .ok (.aload_n 0, 1) := by decide +kernel
theorem dX8_reviewers_26 : decode cX8_reviewers 26 = .ok (.iload_n 2, 1) := by decide +kernel
theorem dX8_reviewers_27 : decode cX8_reviewers 27 = .ok (.invokevirtual 183, 3) := by decide +kernel
theorem dX8_reviewers_30 : decode cX8_reviewers 30 = .ok (.goto 4, 3) := by decide +kernel
theorem dX8_reviewers_33 : decode cX8_reviewers 33 = .ok (.iconst (-1), 1) := by decide +kernel
theorem dX8_reviewers_34 : decode cX8_reviewers 34 = .ok (.istore_n 3, 1) := by decide +kernel
theorem dX8_reviewers_35 : decode cX8_reviewers 35 = .ok (.iload_n 1, 1) := by decide +kernel
theorem dX8_reviewers_36 : decode cX8_reviewers 36 = .ok (.iload_n 3, 1) := by decide +kernel
theorem dX8_reviewers_37 : decode cX8_reviewers 37 = .ok (.ifCond .lt 9, 3) := by decide +kernel
theorem dX8_reviewers_40 : decode cX8_reviewers 40 = .ok (.iconst 1, 1) := by decide +kernel
theorem dX8_reviewers_41 : decode cX8_reviewers 41 = .ok (.iload_n 3, 1) := by decide +kernel
theorem dX8_reviewers_42 : decode cX8_reviewers 42 = .ok (.ishl, 1) := by decide +kernel
theorem dX8_reviewers_43 : decode cX8_reviewers 43 = .ok (.goto 4, 3) := by decide +kernel
theorem dX8_reviewers_46 : decode cX8_reviewers 46 = .ok (.iconst 0, 1) := by decide +kernel
theorem dX8_reviewers_47 : decode cX8_reviewers 47 = .ok (.ior, 1) := by decide +kernel
theorem dX8_reviewers_48 : decode cX8_reviewers 48 = .ok (.istore_n 1, 1) := by decide +kernel
theorem dX8_reviewers_49 : decode cX8_reviewers 49 = .ok (.iinc 2 1, 3) := by decide +kernel
theorem dX8_reviewers_52 : decode cX8_reviewers 52 = .ok (.goto (-43), 3) := by decide +kernel
theorem dX8_reviewers_55 : decode cX8_reviewers 55 = .ok (.iload_n 1, 1) := by decide +kernel
theorem dX8_reviewers_56 : decode cX8_reviewers 56 = .ok (.ireturn, 1) := by decide +kernel
end
section
theorem dL_type_0 : decode cL_type 0 = .ok (.aload_n 2, 1) := by decide +kernel
theorem dL_type_1 : decode cL_type 1 = .ok (.iconst 0, 1) := by decide +kernel
theorem dL_type_2 : decode cL_type 2 = .ok (.aload_n 0, 1) := by decide +kernel
theorem dL_type_3 : decode cL_type 3 = .ok (.iload_n 1, 1) := by decide +kernel
theorem dL_type_4 : decode cL_type 4 = .ok (.invokevirtual 7, 3) := by decide +kernel
theorem dL_type_7 : decode cL_type 7 = .ok (.i2l, 1) := by decide +kernel
theorem dL_type_8 : decode cL_type 8 = .ok (.lastore, 1) := by decide +kernel
theorem dL_type_9 : decode cL_type 9 = .ok (.goto 9, 3) := by decide +kernel
theorem dL_type_12 : decode cL_type 12 = .ok (.astore_n 3, 1) := by decide +kernel
theorem dL_type_13 : decode cL_type 13 = .ok (.iconst 1, 1) := by decide +kernel
theorem dL_type_14 : decode cL_type 14 = .ok (.ireturn, 1) := by decide +kernel
theorem dL_type_15 : decode cL_type 15 = .ok (.astore_n 3, 1) := by decide +kernel
theorem dL_type_16 : decode cL_type 16 = .ok (.iconst 2, 1) := by decide +kernel
theorem dL_type_17 : decode cL_type 17 = .ok (.ireturn, 1) := by decide +kernel
theorem dL_type_18 : decode cL_type 18 = .ok (.iconst 0, 1) := by decide +kernel
theorem dL_type_19 : decode cL_type 19 = .ok (.ireturn, 1) := by decide +kernel
theorem dL_addFile_0 : decode cL_addFile 0 = .ok (.aload_n 2, 1) := by decide +kernel
theorem dL_addFile_1 : decode cL_addFile 1 = .ok (.iconst 0, 1) := by decide +kernel
theorem dL_addFile_2 : decode cL_addFile 2 = .ok (.aload_n 0, 1) := by decide +kernel
theorem dL_addFile_3 : decode cL_addFile 3 = .ok (.iload_n 1, 1) := by decide +kernel
theorem dL_addFile_4 : decode cL_addFile 4 = .ok (.invokevirtual 17, 3) := by decide +kernel
theorem dL_addFile_7 : decode cL_addFile 7 = .ok (.i2l, 1) := by decide +kernel
theorem dL_addFile_8 : decode cL_addFile 8 = .ok (.lastore, 1) := by decide +kernel
theorem dL_addFile_9 : decode cL_addFile 9 = .ok (.goto 9, 3) := by decide +kernel
theorem dL_addFile_12 : decode cL_addFile 12 = .ok (.astore_n 3, 1) := by decide +kernel
theorem dL_addFile_13 : decode cL_addFile 13 = .ok (.iconst 1, 1) := by decide +kernel
theorem dL_addFile_14 : decode cL_addFile 14 = .ok (.ireturn, 1) := by decide +kernel
theorem dL_addFile_15 : decode cL_addFile 15 = .ok (.astore_n 3, 1) := by decide +kernel
theorem dL_addFile_16 : decode cL_addFile 16 = .ok (.iconst 2, 1) := by decide +kernel
theorem dL_addFile_17 : decode cL_addFile 17 = .ok (.ireturn, 1) := by decide +kernel
theorem dL_addFile_18 : decode cL_addFile 18 = .ok (.iconst 0, 1) := by decide +kernel
theorem dL_addFile_19 : decode cL_addFile 19 = .ok (.ireturn, 1) := by decide +kernel
theorem dL_edit_0 : decode cL_edit 0 = .ok (.aload_n 3, 1) := by decide +kernel
theorem dL_edit_1 : decode cL_edit 1 = .ok (.iconst 0, 1) := by decide +kernel
theorem dL_edit_2 : decode cL_edit 2 = .ok (.aload_n 0, 1) := by decide +kernel
theorem dL_edit_3 : decode cL_edit 3 = .ok (.iload_n 1, 1) := by decide +kernel
theorem dL_edit_4 : decode cL_edit 4 = .ok (.iload_n 2, 1) := by decide +kernel
theorem dL_edit_5 : decode cL_edit 5 = .ok (.invokevirtual 21, 3) := by decide +kernel
theorem dL_edit_8 : decode cL_edit 8 = .ok (.i2l, 1) := by decide +kernel
theorem dL_edit_9 : decode cL_edit 9 = .ok (.lastore, 1) := by decide +kernel
theorem dL_edit_10 : decode cL_edit 10 = .ok (.goto 11, 3) := by decide +kernel
theorem dL_edit_13 : decode cL_edit 13 = .ok (.astore 4, 2) := by decide +kernel
theorem dL_edit_15 : decode cL_edit 15 = .ok (.iconst 1, 1) := by decide +kernel
theorem dL_edit_16 : decode cL_edit 16 = .ok (.ireturn, 1) := by decide +kernel
theorem dL_edit_17 : decode cL_edit 17 = .ok (.astore 4, 2) := by decide +kernel
theorem dL_edit_19 : decode cL_edit 19 = .ok (.iconst 2, 1) := by decide +kernel
theorem dL_edit_20 : decode cL_edit 20 = .ok (.ireturn, 1) := by decide +kernel
theorem dL_edit_21 : decode cL_edit 21 = .ok (.iconst 0, 1) := by decide +kernel
theorem dL_edit_22 : decode cL_edit 22 = .ok (.ireturn, 1) := by decide +kernel
theorem dL_delete_0 : decode cL_delete 0 = .ok (.aload_n 2, 1) := by decide +kernel
theorem dL_delete_1 : decode cL_delete 1 = .ok (.iconst 0, 1) := by decide +kernel
theorem dL_delete_2 : decode cL_delete 2 = .ok (.aload_n 0, 1) := by decide +kernel
theorem dL_delete_3 : decode cL_delete 3 = .ok (.iload_n 1, 1) := by decide +kernel
theorem dL_delete_4 : decode cL_delete 4 = .ok (.invokevirtual 27, 3) := by decide +kernel
theorem dL_delete_7 : decode cL_delete 7 = .ok (.i2l, 1) := by decide +kernel
theorem dL_delete_8 : decode cL_delete 8 = .ok (.lastore, 1) := by decide +kernel
theorem dL_delete_9 : decode cL_delete 9 = .ok (.goto 6, 3) := by decide +kernel
theorem dL_delete_12 : decode cL_delete 12 = .ok (.astore_n 3, 1) := by decide +kernel
theorem dL_delete_13 : decode cL_delete 13 = .ok (.iconst 1, 1) := by decide +kernel
theorem dL_delete_14 : decode cL_delete 14 = .ok (.ireturn, 1) := by decide +kernel
theorem dL_delete_15 : decode cL_delete 15 = .ok (.iconst 0, 1) := by decide +kernel
theorem dL_delete_16 : decode cL_delete 16 = .ok (.ireturn, 1) := by decide +kernel
theorem dL_matches_0 : decode cL_matches 0 = .ok (.aload_n 2, 1) := by decide +kernel
theorem dL_matches_1 : decode cL_matches 1 = .ok (.iconst 0, 1) := by decide +kernel
theorem dL_matches_2 : decode cL_matches 2 = .ok (.aload_n 0, 1) := by decide +kernel
theorem dL_matches_3 : decode cL_matches 3 = .ok (.iload_n 1, 1) := by decide +kernel
theorem dL_matches_4 : decode cL_matches 4 = .ok (.invokevirtual 30, 3) := by decide +kernel
theorem dL_matches_7 : decode cL_matches 7 = .ok (.ifCond .eq 7, 3) := by decide +kernel
theorem dL_matches_10 : decode cL_matches 10 = .ok (.lconst 1, 1) := by decide +kernel
theorem dL_matches_11 : decode cL_matches 11 = .ok (.goto 4, 3) := by decide +kernel
theorem dL_matches_14 : decode cL_matches 14 = .ok (.lconst 0, 1) := by decide +kernel
theorem dL_matches_15 : decode cL_matches 15 = .ok (.lastore, 1) := by decide +kernel
theorem dL_matches_16 : decode cL_matches 16 = .ok (.goto 9, 3) := by decide +kernel
theorem dL_matches_19 : decode cL_matches 19 = .ok (.astore_n 3, 1) := by decide +kernel
theorem dL_matches_20 : decode cL_matches 20 = .ok (.iconst 1, 1) := by decide +kernel
theorem dL_matches_21 : decode cL_matches 21 = .ok (.ireturn, 1) := by decide +kernel
theorem dL_matches_22 : decode cL_matches 22 = .ok (.astore_n 3, 1) := by decide +kernel
theorem dL_matches_23 : decode cL_matches 23 = .ok (.iconst 2, 1) := by decide +kernel
theorem dL_matches_24 : decode cL_matches 24 = .ok (.ireturn, 1) := by decide +kernel
theorem dL_matches_25 : decode cL_matches 25 = .ok (.iconst 0, 1) := by decide +kernel
theorem dL_matches_26 : decode cL_matches 26 = .ok (.ireturn, 1) := by decide +kernel
theorem dL_addTarget_0 : decode cL_addTarget 0 = .ok (.aload_n 2, 1) := by decide +kernel
theorem dL_addTarget_1 : decode cL_addTarget 1 = .ok (.iconst 0, 1) := by decide +kernel
theorem dL_addTarget_2 : decode cL_addTarget 2 = .ok (.aload_n 0, 1) := by decide +kernel
theorem dL_addTarget_3 : decode cL_addTarget 3 = .ok (.iload_n 1, 1) := by decide +kernel
theorem dL_addTarget_4 : decode cL_addTarget 4 = .ok (.invokevirtual 34, 3) := by decide +kernel
theorem dL_addTarget_7 : decode cL_addTarget 7 = .ok (.i2l, 1) := by decide +kernel
theorem dL_addTarget_8 : decode cL_addTarget 8 = .ok (.lastore, 1) := by decide +kernel
theorem dL_addTarget_9 : decode cL_addTarget 9 = .ok (.goto 9, 3) := by decide +kernel
theorem dL_addTarget_12 : decode cL_addTarget 12 = .ok (.astore_n 3, 1) := by decide +kernel
theorem dL_addTarget_13 : decode cL_addTarget 13 = .ok (.iconst 1, 1) := by decide +kernel
theorem dL_addTarget_14 : decode cL_addTarget 14 = .ok (.ireturn, 1) := by decide +kernel
theorem dL_addTarget_15 : decode cL_addTarget 15 = .ok (.astore_n 3, 1) := by decide +kernel
theorem dL_addTarget_16 : decode cL_addTarget 16 = .ok (.iconst 2, 1) := by decide +kernel
theorem dL_addTarget_17 : decode cL_addTarget 17 = .ok (.ireturn, 1) := by decide +kernel
theorem dL_addTarget_18 : decode cL_addTarget 18 = .ok (.iconst 0, 1) := by decide +kernel
theorem dL_addTarget_19 : decode cL_addTarget 19 = .ok (.ireturn, 1) := by decide +kernel
theorem dL_addGlob_0 : decode cL_addGlob 0 = .ok (.aload_n 2, 1) := by decide +kernel
theorem dL_addGlob_1 : decode cL_addGlob 1 = .ok (.iconst 0, 1) := by decide +kernel
theorem dL_addGlob_2 : decode cL_addGlob 2 = .ok (.aload_n 0, 1) := by decide +kernel
theorem dL_addGlob_3 : decode cL_addGlob 3 = .ok (.iload_n 1, 1) := by decide +kernel
theorem dL_addGlob_4 : decode cL_addGlob 4 = .ok (.invokevirtual 37, 3) := by decide +kernel
theorem dL_addGlob_7 : decode cL_addGlob 7 = .ok (.i2l, 1) := by decide +kernel
theorem dL_addGlob_8 : decode cL_addGlob 8 = .ok (.lastore, 1) := by decide +kernel
theorem dL_addGlob_9 : decode cL_addGlob 9 = .ok (.goto 12, 3) := by decide +kernel
theorem dL_addGlob_12 : decode cL_addGlob 12 = .ok (.astore_n 3, 1) := by decide +kernel
theorem dL_addGlob_13 : decode cL_addGlob 13 = .ok (.iconst 1, 1) := by decide +kernel
theorem dL_addGlob_14 : decode cL_addGlob 14 = .ok (.ireturn, 1) := by decide +kernel
theorem dL_addGlob_15 : decode cL_addGlob 15 = .ok (.astore_n 3, 1) := by decide +kernel
theorem dL_addGlob_16 : decode cL_addGlob 16 = .ok (.iconst 2, 1) := by decide +kernel
theorem dL_addGlob_17 : decode cL_addGlob 17 = .ok (.ireturn, 1) := by decide +kernel
theorem dL_addGlob_18 : decode cL_addGlob 18 = .ok (.astore_n 3, 1) := by decide +kernel
theorem dL_addGlob_19 : decode cL_addGlob 19 = .ok (.iconst 3, 1) := by decide +kernel
theorem dL_addGlob_20 : decode cL_addGlob 20 = .ok (.ireturn, 1) := by decide +kernel
theorem dL_addGlob_21 : decode cL_addGlob 21 = .ok (.iconst 0, 1) := by decide +kernel
theorem dL_addGlob_22 : decode cL_addGlob 22 = .ok (.ireturn, 1) := by decide +kernel
theorem dL_depend_0 : decode cL_depend 0 = .ok (.aload_n 3, 1) := by decide +kernel
theorem dL_depend_1 : decode cL_depend 1 = .ok (.iconst 0, 1) := by decide +kernel
theorem dL_depend_2 : decode cL_depend 2 = .ok (.aload_n 0, 1) := by decide +kernel
theorem dL_depend_3 : decode cL_depend 3 = .ok (.iload_n 1, 1) := by decide +kernel
theorem dL_depend_4 : decode cL_depend 4 = .ok (.iload_n 2, 1) := by decide +kernel
theorem dL_depend_5 : decode cL_depend 5 = .ok (.invokevirtual 40, 3) := by decide +kernel
theorem dL_depend_8 : decode cL_depend 8 = .ok (.i2l, 1) := by decide +kernel
theorem dL_depend_9 : decode cL_depend 9 = .ok (.lastore, 1) := by decide +kernel
theorem dL_depend_10 : decode cL_depend 10 = .ok (.goto 11, 3) := by decide +kernel
theorem dL_depend_13 : decode cL_depend 13 = .ok (.astore 4, 2) := by decide +kernel
theorem dL_depend_15 : decode cL_depend 15 = .ok (.iconst 1, 1) := by decide +kernel
theorem dL_depend_16 : decode cL_depend 16 = .ok (.ireturn, 1) := by decide +kernel
theorem dL_depend_17 : decode cL_depend 17 = .ok (.astore 4, 2) := by decide +kernel
theorem dL_depend_19 : decode cL_depend 19 = .ok (.iconst 2, 1) := by decide +kernel
theorem dL_depend_20 : decode cL_depend 20 = .ok (.ireturn, 1) := by decide +kernel
theorem dL_depend_21 : decode cL_depend 21 = .ok (.iconst 0, 1) := by decide +kernel
theorem dL_depend_22 : decode cL_depend 22 = .ok (.ireturn, 1) := by decide +kernel
theorem dL_inputs_0 : decode cL_inputs 0 = .ok (.aload_n 2, 1) := by decide +kernel
theorem dL_inputs_1 : decode cL_inputs 1 = .ok (.iconst 0, 1) := by decide +kernel
theorem dL_inputs_2 : decode cL_inputs 2 = .ok (.aload_n 0, 1) := by decide +kernel
theorem dL_inputs_3 : decode cL_inputs 3 = .ok (.iload_n 1, 1) := by decide +kernel
theorem dL_inputs_4 : decode cL_inputs 4 = .ok (.invokevirtual 43, 3) := by decide +kernel
theorem dL_inputs_7 : decode cL_inputs 7 = .ok (.i2l, 1) := by decide +kernel
theorem dL_inputs_8 : decode cL_inputs 8 = .ok (.lastore, 1) := by decide +kernel
theorem dL_inputs_9 : decode cL_inputs 9 = .ok (.goto 6, 3) := by decide +kernel
theorem dL_inputs_12 : decode cL_inputs 12 = .ok (.astore_n 3, 1) := by decide +kernel
theorem dL_inputs_13 : decode cL_inputs 13 = .ok (.iconst 1, 1) := by decide +kernel
theorem dL_inputs_14 : decode cL_inputs 14 = .ok (.ireturn, 1) := by decide +kernel
theorem dL_inputs_15 : decode cL_inputs 15 = .ok (.iconst 0, 1) := by decide +kernel
theorem dL_inputs_16 : decode cL_inputs 16 = .ok (.ireturn, 1) := by decide +kernel
theorem dL_above_0 : decode cL_above 0 = .ok (.aload_n 2, 1) := by decide +kernel
theorem dL_above_1 : decode cL_above 1 = .ok (.iconst 0, 1) := by decide +kernel
theorem dL_above_2 : decode cL_above 2 = .ok (.aload_n 0, 1) := by decide +kernel
theorem dL_above_3 : decode cL_above 3 = .ok (.iload_n 1, 1) := by decide +kernel
theorem dL_above_4 : decode cL_above 4 = .ok (.invokevirtual 46, 3) := by decide +kernel
theorem dL_above_7 : decode cL_above 7 = .ok (.i2l, 1) := by decide +kernel
theorem dL_above_8 : decode cL_above 8 = .ok (.lastore, 1) := by decide +kernel
theorem dL_above_9 : decode cL_above 9 = .ok (.goto 6, 3) := by decide +kernel
theorem dL_above_12 : decode cL_above 12 = .ok (.astore_n 3, 1) := by decide +kernel
theorem dL_above_13 : decode cL_above 13 = .ok (.iconst 1, 1) := by decide +kernel
theorem dL_above_14 : decode cL_above 14 = .ok (.ireturn, 1) := by decide +kernel
theorem dL_above_15 : decode cL_above 15 = .ok (.iconst 0, 1) := by decide +kernel
theorem dL_above_16 : decode cL_above 16 = .ok (.ireturn, 1) := by decide +kernel
theorem dL_orderAt_0 : decode cL_orderAt 0 = .ok (.aload_n 2, 1) := by decide +kernel
theorem dL_orderAt_1 : decode cL_orderAt 1 = .ok (.iconst 0, 1) := by decide +kernel
theorem dL_orderAt_2 : decode cL_orderAt 2 = .ok (.aload_n 0, 1) := by decide +kernel
theorem dL_orderAt_3 : decode cL_orderAt 3 = .ok (.iload_n 1, 1) := by decide +kernel
theorem dL_orderAt_4 : decode cL_orderAt 4 = .ok (.invokevirtual 49, 3) := by decide +kernel
theorem dL_orderAt_7 : decode cL_orderAt 7 = .ok (.i2l, 1) := by decide +kernel
theorem dL_orderAt_8 : decode cL_orderAt 8 = .ok (.lastore, 1) := by decide +kernel
theorem dL_orderAt_9 : decode cL_orderAt 9 = .ok (.goto 6, 3) := by decide +kernel
theorem dL_orderAt_12 : decode cL_orderAt 12 = .ok (.astore_n 3, 1) := by decide +kernel
theorem dL_orderAt_13 : decode cL_orderAt 13 = .ok (.iconst 1, 1) := by decide +kernel
theorem dL_orderAt_14 : decode cL_orderAt 14 = .ok (.ireturn, 1) := by decide +kernel
theorem dL_orderAt_15 : decode cL_orderAt 15 = .ok (.iconst 0, 1) := by decide +kernel
theorem dL_orderAt_16 : decode cL_orderAt 16 = .ok (.ireturn, 1) := by decide +kernel
theorem dL_affectedBy_0 : decode cL_affectedBy 0 = .ok (.aload_n 2, 1) := by decide +kernel
theorem dL_affectedBy_1 : decode cL_affectedBy 1 = .ok (.iconst 0, 1) := by decide +kernel
theorem dL_affectedBy_2 : decode cL_affectedBy 2 = .ok (.aload_n 0, 1) := by decide +kernel
theorem dL_affectedBy_3 : decode cL_affectedBy 3 = .ok (.iload_n 1, 1) := by decide +kernel
theorem dL_affectedBy_4 : decode cL_affectedBy 4 = .ok (.invokevirtual 52, 3) := by decide +kernel
theorem dL_affectedBy_7 : decode cL_affectedBy 7 = .ok (.i2l, 1) := by decide +kernel
theorem dL_affectedBy_8 : decode cL_affectedBy 8 = .ok (.lastore, 1) := by decide +kernel
theorem dL_affectedBy_9 : decode cL_affectedBy 9 = .ok (.goto 6, 3) := by decide +kernel
theorem dL_affectedBy_12 : decode cL_affectedBy 12 = .ok (.astore_n 3, 1) := by decide +kernel
theorem dL_affectedBy_13 : decode cL_affectedBy 13 = .ok (.iconst 1, 1) := by decide +kernel
theorem dL_affectedBy_14 : decode cL_affectedBy 14 = .ok (.ireturn, 1) := by decide +kernel
theorem dL_affectedBy_15 : decode cL_affectedBy 15 = .ok (.iconst 0, 1) := by decide +kernel
theorem dL_affectedBy_16 : decode cL_affectedBy 16 = .ok (.ireturn, 1) := by decide +kernel
theorem dL_affectedByGoingDown_0 : decode cL_affectedByGoingDown 0 = .ok (.aload_n 2, 1) := by decide +kernel
theorem dL_affectedByGoingDown_1 : decode cL_affectedByGoingDown 1 = .ok (.iconst 0, 1) := by decide +kernel
theorem dL_affectedByGoingDown_2 : decode cL_affectedByGoingDown 2 = .ok (.aload_n 0, 1) := by decide +kernel
theorem dL_affectedByGoingDown_3 : decode cL_affectedByGoingDown 3 = .ok (.iload_n 1, 1) := by decide +kernel
theorem dL_affectedByGoingDown_4 : decode cL_affectedByGoingDown 4 = .ok (.invokevirtual 55, 3) := by decide +kernel
theorem dL_affectedByGoingDown_7 : decode cL_affectedByGoingDown 7 = .ok (.i2l, 1) := by decide +kernel
theorem dL_affectedByGoingDown_8 : decode cL_affectedByGoingDown 8 = .ok (.lastore, 1) := by decide +kernel
theorem dL_affectedByGoingDown_9 : decode cL_affectedByGoingDown 9 = .ok (.goto 6, 3) := by decide +kernel
theorem dL_affectedByGoingDown_12 : decode cL_affectedByGoingDown 12 = .ok (.astore_n 3, 1) := by decide +kernel
theorem dL_affectedByGoingDown_13 : decode cL_affectedByGoingDown 13 = .ok (.iconst 1, 1) := by decide +kernel
theorem dL_affectedByGoingDown_14 : decode cL_affectedByGoingDown 14 = .ok (.ireturn, 1) := by decide +kernel
theorem dL_affectedByGoingDown_15 : decode cL_affectedByGoingDown 15 = .ok (.iconst 0, 1) := by decide +kernel
theorem dL_affectedByGoingDown_16 : decode cL_affectedByGoingDown 16 = .ok (.ireturn, 1) := by decide +kernel
theorem dL_keyOf_0 : decode cL_keyOf 0 = .ok (.aload_n 2, 1) := by decide +kernel
theorem dL_keyOf_1 : decode cL_keyOf 1 = .ok (.iconst 0, 1) := by decide +kernel
theorem dL_keyOf_2 : decode cL_keyOf 2 = .ok (.aload_n 0, 1) := by decide +kernel
theorem dL_keyOf_3 : decode cL_keyOf 3 = .ok (.iload_n 1, 1) := by decide +kernel
theorem dL_keyOf_4 : decode cL_keyOf 4 = .ok (.invokevirtual 58, 3) := by decide +kernel
theorem dL_keyOf_7 : decode cL_keyOf 7 = .ok (.i2l, 1) := by decide +kernel
theorem dL_keyOf_8 : decode cL_keyOf 8 = .ok (.lastore, 1) := by decide +kernel
theorem dL_keyOf_9 : decode cL_keyOf 9 = .ok (.goto 6, 3) := by decide +kernel
theorem dL_keyOf_12 : decode cL_keyOf 12 = .ok (.astore_n 3, 1) := by decide +kernel
theorem dL_keyOf_13 : decode cL_keyOf 13 = .ok (.iconst 1, 1) := by decide +kernel
theorem dL_keyOf_14 : decode cL_keyOf 14 = .ok (.ireturn, 1) := by decide +kernel
theorem dL_keyOf_15 : decode cL_keyOf 15 = .ok (.iconst 0, 1) := by decide +kernel
theorem dL_keyOf_16 : decode cL_keyOf 16 = .ok (.ireturn, 1) := by decide +kernel
theorem dL_whyRun_0 : decode cL_whyRun 0 = .ok (.aload_n 2, 1) := by decide +kernel
theorem dL_whyRun_1 : decode cL_whyRun 1 = .ok (.iconst 0, 1) := by decide +kernel
theorem dL_whyRun_2 : decode cL_whyRun 2 = .ok (.aload_n 0, 1) := by decide +kernel
theorem dL_whyRun_3 : decode cL_whyRun 3 = .ok (.iload_n 1, 1) := by decide +kernel
theorem dL_whyRun_4 : decode cL_whyRun 4 = .ok (.invokevirtual 61, 3) := by decide +kernel
theorem dL_whyRun_7 : decode cL_whyRun 7 = .ok (.i2l, 1) := by decide +kernel
theorem dL_whyRun_8 : decode cL_whyRun 8 = .ok (.lastore, 1) := by decide +kernel
theorem dL_whyRun_9 : decode cL_whyRun 9 = .ok (.goto 6, 3) := by decide +kernel
theorem dL_whyRun_12 : decode cL_whyRun 12 = .ok (.astore_n 3, 1) := by decide +kernel
theorem dL_whyRun_13 : decode cL_whyRun 13 = .ok (.iconst 1, 1) := by decide +kernel
theorem dL_whyRun_14 : decode cL_whyRun 14 = .ok (.ireturn, 1) := by decide +kernel
theorem dL_whyRun_15 : decode cL_whyRun 15 = .ok (.iconst 0, 1) := by decide +kernel
theorem dL_whyRun_16 : decode cL_whyRun 16 = .ok (.ireturn, 1) := by decide +kernel
theorem dL_run_0 : decode cL_run 0 = .ok (.aload_n 2, 1) := by decide +kernel
theorem dL_run_1 : decode cL_run 1 = .ok (.iconst 0, 1) := by decide +kernel
theorem dL_run_2 : decode cL_run 2 = .ok (.aload_n 0, 1) := by decide +kernel
theorem dL_run_3 : decode cL_run 3 = .ok (.iload_n 1, 1) := by decide +kernel
theorem dL_run_4 : decode cL_run 4 = .ok (.invokevirtual 64, 3) := by decide +kernel
theorem dL_run_7 : decode cL_run 7 = .ok (.i2l, 1) := by decide +kernel
theorem dL_run_8 : decode cL_run 8 = .ok (.lastore, 1) := by decide +kernel
theorem dL_run_9 : decode cL_run 9 = .ok (.goto 9, 3) := by decide +kernel
theorem dL_run_12 : decode cL_run 12 = .ok (.astore_n 3, 1) := by decide +kernel
theorem dL_run_13 : decode cL_run 13 = .ok (.iconst 1, 1) := by decide +kernel
theorem dL_run_14 : decode cL_run 14 = .ok (.ireturn, 1) := by decide +kernel
theorem dL_run_15 : decode cL_run 15 = .ok (.astore_n 3, 1) := by decide +kernel
theorem dL_run_16 : decode cL_run 16 = .ok (.iconst 2, 1) := by decide +kernel
theorem dL_run_17 : decode cL_run 17 = .ok (.ireturn, 1) := by decide +kernel
theorem dL_run_18 : decode cL_run 18 = .ok (.iconst 0, 1) := by decide +kernel
theorem dL_run_19 : decode cL_run 19 = .ok (.ireturn, 1) := by decide +kernel
theorem dL_runAll_0 : decode cL_runAll 0 = .ok (.aload_n 1, 1) := by decide +kernel
theorem dL_runAll_1 : decode cL_runAll 1 = .ok (.iconst 0, 1) := by decide +kernel
theorem dL_runAll_2 : decode cL_runAll 2 = .ok (.aload_n 0, 1) := by decide +kernel
theorem dL_runAll_3 : decode cL_runAll 3 = .ok (.invokevirtual 67, 3) := by decide +kernel
theorem dL_runAll_6 : decode cL_runAll 6 = .ok (.i2l, 1) := by decide +kernel
theorem dL_runAll_7 : decode cL_runAll 7 = .ok (.lastore, 1) := by decide +kernel
theorem dL_runAll_8 : decode cL_runAll 8 = .ok (.goto 6, 3) := by decide +kernel
theorem dL_runAll_11 : decode cL_runAll 11 = .ok (.astore_n 2, 1) := by decide +kernel
theorem dL_runAll_12 : decode cL_runAll 12 = .ok (.iconst 1, 1) := by decide +kernel
theorem dL_runAll_13 : decode cL_runAll 13 = .ok (.ireturn, 1) := by decide +kernel
theorem dL_runAll_14 : decode cL_runAll 14 = .ok (.iconst 0, 1) := by decide +kernel
theorem dL_runAll_15 : decode cL_runAll 15 = .ok (.ireturn, 1) := by decide +kernel
theorem dL_shardOf_0 : decode cL_shardOf 0 = .ok (.aload_n 3, 1) := by decide +kernel
theorem dL_shardOf_1 : decode cL_shardOf 1 = .ok (.iconst 0, 1) := by decide +kernel
theorem dL_shardOf_2 : decode cL_shardOf 2 = .ok (.aload_n 0, 1) := by decide +kernel
theorem dL_shardOf_3 : decode cL_shardOf 3 = .ok (.iload_n 1, 1) := by decide +kernel
theorem dL_shardOf_4 : decode cL_shardOf 4 = .ok (.iload_n 2, 1) := by decide +kernel
theorem dL_shardOf_5 : decode cL_shardOf 5 = .ok (.invokevirtual 71, 3) := by decide +kernel
theorem dL_shardOf_8 : decode cL_shardOf 8 = .ok (.i2l, 1) := by decide +kernel
theorem dL_shardOf_9 : decode cL_shardOf 9 = .ok (.lastore, 1) := by decide +kernel
theorem dL_shardOf_10 : decode cL_shardOf 10 = .ok (.goto 11, 3) := by decide +kernel
theorem dL_shardOf_13 : decode cL_shardOf 13 = .ok (.astore 4, 2) := by decide +kernel
theorem dL_shardOf_15 : decode cL_shardOf 15 = .ok (.iconst 1, 1) := by decide +kernel
theorem dL_shardOf_16 : decode cL_shardOf 16 = .ok (.ireturn, 1) := by decide +kernel
theorem dL_shardOf_17 : decode cL_shardOf 17 = .ok (.astore 4, 2) := by decide +kernel
theorem dL_shardOf_19 : decode cL_shardOf 19 = .ok (.iconst 2, 1) := by decide +kernel
theorem dL_shardOf_20 : decode cL_shardOf 20 = .ok (.ireturn, 1) := by decide +kernel
theorem dL_shardOf_21 : decode cL_shardOf 21 = .ok (.iconst 0, 1) := by decide +kernel
theorem dL_shardOf_22 : decode cL_shardOf 22 = .ok (.ireturn, 1) := by decide +kernel
theorem dL_longestShard_0 : decode cL_longestShard 0 = .ok (.aload_n 2, 1) := by decide +kernel
theorem dL_longestShard_1 : decode cL_longestShard 1 = .ok (.iconst 0, 1) := by decide +kernel
theorem dL_longestShard_2 : decode cL_longestShard 2 = .ok (.aload_n 0, 1) := by decide +kernel
theorem dL_longestShard_3 : decode cL_longestShard 3 = .ok (.iload_n 1, 1) := by decide +kernel
theorem dL_longestShard_4 : decode cL_longestShard 4 = .ok (.invokevirtual 74, 3) := by decide +kernel
theorem dL_longestShard_7 : decode cL_longestShard 7 = .ok (.i2l, 1) := by decide +kernel
theorem dL_longestShard_8 : decode cL_longestShard 8 = .ok (.lastore, 1) := by decide +kernel
theorem dL_longestShard_9 : decode cL_longestShard 9 = .ok (.goto 6, 3) := by decide +kernel
theorem dL_longestShard_12 : decode cL_longestShard 12 = .ok (.astore_n 3, 1) := by decide +kernel
theorem dL_longestShard_13 : decode cL_longestShard 13 = .ok (.iconst 1, 1) := by decide +kernel
theorem dL_longestShard_14 : decode cL_longestShard 14 = .ok (.ireturn, 1) := by decide +kernel
theorem dL_longestShard_15 : decode cL_longestShard 15 = .ok (.iconst 0, 1) := by decide +kernel
theorem dL_longestShard_16 : decode cL_longestShard 16 = .ok (.ireturn, 1) := by decide +kernel
theorem dL_shardsFor_0 : decode cL_shardsFor 0 = .ok (.aload_n 2, 1) := by decide +kernel
theorem dL_shardsFor_1 : decode cL_shardsFor 1 = .ok (.iconst 0, 1) := by decide +kernel
theorem dL_shardsFor_2 : decode cL_shardsFor 2 = .ok (.aload_n 0, 1) := by decide +kernel
theorem dL_shardsFor_3 : decode cL_shardsFor 3 = .ok (.iload_n 1, 1) := by decide +kernel
theorem dL_shardsFor_4 : decode cL_shardsFor 4 = .ok (.invokevirtual 77, 3) := by decide +kernel
theorem dL_shardsFor_7 : decode cL_shardsFor 7 = .ok (.i2l, 1) := by decide +kernel
theorem dL_shardsFor_8 : decode cL_shardsFor 8 = .ok (.lastore, 1) := by decide +kernel
theorem dL_shardsFor_9 : decode cL_shardsFor 9 = .ok (.goto 6, 3) := by decide +kernel
theorem dL_shardsFor_12 : decode cL_shardsFor 12 = .ok (.astore_n 3, 1) := by decide +kernel
theorem dL_shardsFor_13 : decode cL_shardsFor 13 = .ok (.iconst 1, 1) := by decide +kernel
theorem dL_shardsFor_14 : decode cL_shardsFor 14 = .ok (.ireturn, 1) := by decide +kernel
theorem dL_shardsFor_15 : decode cL_shardsFor 15 = .ok (.iconst 0, 1) := by decide +kernel
theorem dL_shardsFor_16 : decode cL_shardsFor 16 = .ok (.ireturn, 1) := by decide +kernel
theorem dL_addRule_0 : decode cL_addRule 0 = .ok (.aload_n 2, 1) := by decide +kernel
theorem dL_addRule_1 : decode cL_addRule 1 = .ok (.iconst 0, 1) := by decide +kernel
theorem dL_addRule_2 : decode cL_addRule 2 = .ok (.aload_n 0, 1) := by decide +kernel
theorem dL_addRule_3 : decode cL_addRule 3 = .ok (.iload_n 1, 1) := by decide +kernel
theorem dL_addRule_4 : decode cL_addRule 4 = .ok (.invokevirtual 80, 3) := by decide +kernel
theorem dL_addRule_7 : decode cL_addRule 7 = .ok (.i2l, 1) := by decide +kernel
theorem dL_addRule_8 : decode cL_addRule 8 = .ok (.lastore, 1) := by decide +kernel
theorem dL_addRule_9 : decode cL_addRule 9 = .ok (.goto 12, 3) := by decide +kernel
theorem dL_addRule_12 : decode cL_addRule 12 = .ok (.astore_n 3, 1) := by decide +kernel
theorem dL_addRule_13 : decode cL_addRule 13 = .ok (.iconst 1, 1) := by decide +kernel
theorem dL_addRule_14 : decode cL_addRule 14 = .ok (.ireturn, 1) := by decide +kernel
theorem dL_addRule_15 : decode cL_addRule 15 = .ok (.astore_n 3, 1) := by decide +kernel
theorem dL_addRule_16 : decode cL_addRule 16 = .ok (.iconst 2, 1) := by decide +kernel
theorem dL_addRule_17 : decode cL_addRule 17 = .ok (.ireturn, 1) := by decide +kernel
theorem dL_addRule_18 : decode cL_addRule 18 = .ok (.astore_n 3, 1) := by decide +kernel
theorem dL_addRule_19 : decode cL_addRule 19 = .ok (.iconst 3, 1) := by decide +kernel
theorem dL_addRule_20 : decode cL_addRule 20 = .ok (.ireturn, 1) := by decide +kernel
theorem dL_addRule_21 : decode cL_addRule 21 = .ok (.iconst 0, 1) := by decide +kernel
theorem dL_addRule_22 : decode cL_addRule 22 = .ok (.ireturn, 1) := by decide +kernel
theorem dL_ownerOf_0 : decode cL_ownerOf 0 = .ok (.aload_n 2, 1) := by decide +kernel
theorem dL_ownerOf_1 : decode cL_ownerOf 1 = .ok (.iconst 0, 1) := by decide +kernel
theorem dL_ownerOf_2 : decode cL_ownerOf 2 = .ok (.aload_n 0, 1) := by decide +kernel
theorem dL_ownerOf_3 : decode cL_ownerOf 3 = .ok (.iload_n 1, 1) := by decide +kernel
theorem dL_ownerOf_4 : decode cL_ownerOf 4 = .ok (.invokevirtual 83, 3) := by decide +kernel
theorem dL_ownerOf_7 : decode cL_ownerOf 7 = .ok (.i2l, 1) := by decide +kernel
theorem dL_ownerOf_8 : decode cL_ownerOf 8 = .ok (.lastore, 1) := by decide +kernel
theorem dL_ownerOf_9 : decode cL_ownerOf 9 = .ok (.goto 6, 3) := by decide +kernel
theorem dL_ownerOf_12 : decode cL_ownerOf 12 = .ok (.astore_n 3, 1) := by decide +kernel
theorem dL_ownerOf_13 : decode cL_ownerOf 13 = .ok (.iconst 1, 1) := by decide +kernel
theorem dL_ownerOf_14 : decode cL_ownerOf 14 = .ok (.ireturn, 1) := by decide +kernel
theorem dL_ownerOf_15 : decode cL_ownerOf 15 = .ok (.iconst 0, 1) := by decide +kernel
theorem dL_ownerOf_16 : decode cL_ownerOf 16 = .ok (.ireturn, 1) := by decide +kernel
theorem dL_law_0 : decode cL_law 0 = .ok (.new 8, 3) := by decide +kernel
theorem dL_law_3 : decode cL_law 3 = .ok (.dup, 1) := by decide +kernel
theorem dL_law_4 : decode cL_law 4 = .ok (.invokespecial 86, 3) := by decide +kernel
theorem dL_law_7 : decode cL_law 7 = .ok (.astore_n 1, 1) := by decide +kernel
theorem dL_law_8 : decode cL_law 8 = .ok (.new 87, 3) := by decide +kernel
theorem dL_law_11 : decode cL_law 11 = .ok (.dup, 1) := by decide +kernel
theorem dL_law_12 : decode cL_law 12 = .ok (.invokespecial 89, 3) := by decide +kernel
theorem dL_law_15 : decode cL_law 15 = .ok (.astore_n 2, 1) := by decide +kernel
theorem dL_law_16 : decode cL_law 16 = .ok (.iconst 1, 1) := by decide +kernel
theorem dL_law_17 : decode cL_law 17 = .ok (.newarray .long, 2) := by decide +kernel
theorem dL_law_19 : decode cL_law 19 = .ok (.astore_n 3, 1) := by decide +kernel
theorem dL_law_20 : decode cL_law 20 = .ok (.iconst 0, 1) := by decide +kernel
theorem dL_law_21 : decode cL_law 21 = .ok (.istore 4, 2) := by decide +kernel
theorem dL_law_23 : decode cL_law 23 = .ok (.iload 4, 2) := by decide +kernel
theorem dL_law_25 : decode cL_law 25 = .ok (.aload_n 0, 1) := by decide +kernel
theorem dL_law_26 : decode cL_law 26 = .ok (.arraylength, 1) := by decide +kernel
theorem dL_law_27 : decode cL_law 27 = .ok (.iconst 3, 1) := by decide +kernel
theorem dL_law_28 : decode cL_law 28 = .ok (.isub, 1) := by decide +kernel
theorem dL_law_29 : decode cL_law 29 = .ok (.if_icmp .gt 1569, 3) := by decide +kernel
theorem dL_law_32 : decode cL_law 32 = .ok (.aload_n 0, 1) := by decide +kernel
theorem dL_law_33 : decode cL_law 33 = .ok (.iload 4, 2) := by decide +kernel
theorem dL_law_35 : decode cL_law 35 = .ok (.iaload, 1) := by decide +kernel
theorem dL_law_36 : decode cL_law 36 = .ok (.bipush 63, 2) := by decide +kernel
theorem dL_law_38 : decode cL_law 38 = .ok (.iand, 1) := by decide +kernel
theorem dL_law_39 : decode cL_law 39 = .ok (.tableswitch 1553 0 32 #[145, 203, 216, 229, 242, 298, 311, 379, 435, 448, 511, 567, 623, 691, 704, 760, 816, 872, 928, 984, 1040, 1053, 1109, 1165, 1209, 1222, 1290, 1346, 1402, 1458, 1514, 1527, 1540], 145) := by decide +kernel
theorem dL_law_184 : decode cL_law 184 = .ok (.aload_n 1, 1) := by decide +kernel
theorem dL_law_185 : decode cL_law 185 = .ok (.aload_n 0, 1) := by decide +kernel
theorem dL_law_186 : decode cL_law 186 = .ok (.iload 4, 2) := by decide +kernel
theorem dL_law_188 : decode cL_law 188 = .ok (.iconst 1, 1) := by decide +kernel
theorem dL_law_189 : decode cL_law 189 = .ok (.iadd, 1) := by decide +kernel
theorem dL_law_190 : decode cL_law 190 = .ok (.iaload, 1) := by decide +kernel
theorem dL_law_191 : decode cL_law 191 = .ok (.i2c, 1) := by decide +kernel
theorem dL_law_192 : decode cL_law 192 = .ok (.aload_n 3, 1) := by decide +kernel
theorem dL_law_193 : decode cL_law 193 = .ok (.invokestatic 90, 3) := by decide +kernel
theorem dL_law_196 : decode cL_law 196 = .ok (.istore 5, 2) := by decide +kernel
theorem dL_law_198 : decode cL_law 198 = .ok (.aload_n 2, 1) := by decide +kernel
theorem dL_law_199 : decode cL_law 199 = .ok (.aload_n 0, 1) := by decide +kernel
theorem dL_law_200 : decode cL_law 200 = .ok (.iload 4, 2) := by decide +kernel
theorem dL_law_202 : decode cL_law 202 = .ok (.iconst 1, 1) := by decide +kernel
theorem dL_law_203 : decode cL_law 203 = .ok (.iadd, 1) := by decide +kernel
theorem dL_law_204 : decode cL_law 204 = .ok (.iaload, 1) := by decide +kernel
theorem dL_law_205 : decode cL_law 205 = .ok (.i2c, 1) := by decide +kernel
theorem dL_law_206 : decode cL_law 206 = .ok (.invokevirtual 95, 3) := by decide +kernel
theorem dL_law_209 : decode cL_law 209 = .ok (.istore 6, 2) := by decide +kernel
theorem dL_law_211 : decode cL_law 211 = .ok (.aload_n 2, 1) := by decide +kernel
theorem dL_law_212 : decode cL_law 212 = .ok (.invokevirtual 96, 3) := by decide +kernel
theorem dL_law_215 : decode cL_law 215 = .ok (.iload 5, 2) := by decide +kernel
theorem dL_law_217 : decode cL_law 217 = .ok (.if_icmp .eq 5, 3) := by decide +kernel
theorem dL_law_220 : decode cL_law 220 = .ok (.iconst 0, 1) := by decide +kernel
theorem dL_law_221 : decode cL_law 221 = .ok (.ireturn, 1) := by decide +kernel
theorem dL_law_222 : decode cL_law 222 = .ok (.iload 5, 2) := by decide +kernel
theorem dL_law_224 : decode cL_law 224 = .ok (.ifCond .ne 15, 3) := by decide +kernel
theorem dL_law_227 : decode cL_law 227 = .ok (.aload_n 3, 1) := by decide +kernel
theorem dL_law_228 : decode cL_law 228 = .ok (.iconst 0, 1) := by decide +kernel
theorem dL_law_229 : decode cL_law 229 = .ok (.laload, 1) := by decide +kernel
theorem dL_law_230 : decode cL_law 230 = .ok (.iload 6, 2) := by decide +kernel
theorem dL_law_232 : decode cL_law 232 = .ok (.i2l, 1) := by decide +kernel
theorem dL_law_233 : decode cL_law 233 = .ok (.lcmp, 1) := by decide +kernel
theorem dL_law_234 : decode cL_law 234 = .ok (.ifCond .eq 5, 3) := by decide +kernel
theorem dL_law_237 : decode cL_law 237 = .ok (.iconst 0, 1) := by decide +kernel
theorem dL_law_238 : decode cL_law 238 = .ok (.ireturn, 1) := by decide +kernel
theorem dL_law_239 : decode cL_law 239 = .ok (.goto 1353, 3) := by decide +kernel
theorem dL_law_242 : decode cL_law 242 = .ok (.aload_n 1, 1) := by decide +kernel
theorem dL_law_243 : decode cL_law 243 = .ok (.invokevirtual 99, 3) := by decide +kernel
theorem dL_law_246 : decode cL_law 246 = .ok (.aload_n 2, 1) := by decide +kernel
theorem dL_law_247 : decode cL_law 247 = .ok (.invokevirtual 102, 3) := by decide +kernel
theorem dL_law_250 : decode cL_law 250 = .ok (.if_icmp .eq 1342, 3) := by decide +kernel
theorem dL_law_253 : decode cL_law 253 = .ok (.iconst 0, 1) := by decide +kernel
theorem dL_law_254 : decode cL_law 254 = .ok (.ireturn, 1) := by decide +kernel
theorem dL_law_255 : decode cL_law 255 = .ok (.aload_n 1, 1) := by decide +kernel
theorem dL_law_256 : decode cL_law 256 = .ok (.invokevirtual 103, 3) := by decide +kernel
theorem dL_law_259 : decode cL_law 259 = .ok (.aload_n 2, 1) := by decide +kernel
theorem dL_law_260 : decode cL_law 260 = .ok (.invokevirtual 107, 3) := by decide +kernel
theorem dL_law_263 : decode cL_law 263 = .ok (.if_icmp .eq 1329, 3) := by decide +kernel
theorem dL_law_266 : decode cL_law 266 = .ok (.iconst 0, 1) := by decide +kernel
theorem dL_law_267 : decode cL_law 267 = .ok (.ireturn, 1) := by decide +kernel
theorem dL_law_268 : decode cL_law 268 = .ok (.aload_n 1, 1) := by decide +kernel
theorem dL_law_269 : decode cL_law 269 = .ok (.invokevirtual 108, 3) := by decide +kernel
theorem dL_law_272 : decode cL_law 272 = .ok (.aload_n 2, 1) := by decide +kernel
theorem dL_law_273 : decode cL_law 273 = .ok (.invokevirtual 111, 3) := by decide +kernel
theorem dL_law_276 : decode cL_law 276 = .ok (.if_icmp .eq 1316, 3) := by decide +kernel
theorem dL_law_279 : decode cL_law 279 = .ok (.iconst 0, 1) := by decide +kernel
theorem dL_law_280 : decode cL_law 280 = .ok (.ireturn, 1) := by decide +kernel
theorem dL_law_281 : decode cL_law 281 = .ok (.aload_n 1, 1) := by decide +kernel
theorem dL_law_282 : decode cL_law 282 = .ok (.aload_n 0, 1) := by decide +kernel
theorem dL_law_283 : decode cL_law 283 = .ok (.iload 4, 2) := by decide +kernel
theorem dL_law_285 : decode cL_law 285 = .ok (.iconst 1, 1) := by decide +kernel
theorem dL_law_286 : decode cL_law 286 = .ok (.iadd, 1) := by decide +kernel
theorem dL_law_287 : decode cL_law 287 = .ok (.iaload, 1) := by decide +kernel
theorem dL_law_288 : decode cL_law 288 = .ok (.aload_n 3, 1) := by decide +kernel
theorem dL_law_289 : decode cL_law 289 = .ok (.invokestatic 112, 3) := by decide +kernel
theorem dL_law_292 : decode cL_law 292 = .ok (.istore 5, 2) := by decide +kernel
theorem dL_law_294 : decode cL_law 294 = .ok (.aload_n 2, 1) := by decide +kernel
theorem dL_law_295 : decode cL_law 295 = .ok (.aload_n 0, 1) := by decide +kernel
theorem dL_law_296 : decode cL_law 296 = .ok (.iload 4, 2) := by decide +kernel
theorem dL_law_298 : decode cL_law 298 = .ok (.iconst 1, 1) := by decide +kernel
theorem dL_law_299 : decode cL_law 299 = .ok (.iadd, 1) := by decide +kernel
theorem dL_law_300 : decode cL_law 300 = .ok (.iaload, 1) := by decide +kernel
theorem dL_law_301 : decode cL_law 301 = .ok (.invokevirtual 115, 3) := by decide +kernel
theorem dL_law_304 : decode cL_law 304 = .ok (.istore 6, 2) := by decide +kernel
theorem dL_law_306 : decode cL_law 306 = .ok (.aload_n 2, 1) := by decide +kernel
theorem dL_law_307 : decode cL_law 307 = .ok (.invokevirtual 96, 3) := by decide +kernel
theorem dL_law_310 : decode cL_law 310 = .ok (.iload 5, 2) := by decide +kernel
theorem dL_law_312 : decode cL_law 312 = .ok (.if_icmp .eq 5, 3) := by decide +kernel
theorem dL_law_315 : decode cL_law 315 = .ok (.iconst 0, 1) := by decide +kernel
theorem dL_law_316 : decode cL_law 316 = .ok (.ireturn, 1) := by decide +kernel
theorem dL_law_317 : decode cL_law 317 = .ok (.iload 5, 2) := by decide +kernel
theorem dL_law_319 : decode cL_law 319 = .ok (.ifCond .ne 15, 3) := by decide +kernel
theorem dL_law_322 : decode cL_law 322 = .ok (.aload_n 3, 1) := by decide +kernel
theorem dL_law_323 : decode cL_law 323 = .ok (.iconst 0, 1) := by decide +kernel
theorem dL_law_324 : decode cL_law 324 = .ok (.laload, 1) := by decide +kernel
theorem dL_law_325 : decode cL_law 325 = .ok (.iload 6, 2) := by decide +kernel
theorem dL_law_327 : decode cL_law 327 = .ok (.i2l, 1) := by decide +kernel
theorem dL_law_328 : decode cL_law 328 = .ok (.lcmp, 1) := by decide +kernel
theorem dL_law_329 : decode cL_law 329 = .ok (.ifCond .eq 5, 3) := by decide +kernel
theorem dL_law_332 : decode cL_law 332 = .ok (.iconst 0, 1) := by decide +kernel
theorem dL_law_333 : decode cL_law 333 = .ok (.ireturn, 1) := by decide +kernel
theorem dL_law_334 : decode cL_law 334 = .ok (.goto 1258, 3) := by decide +kernel
theorem dL_law_337 : decode cL_law 337 = .ok (.aload_n 1, 1) := by decide +kernel
theorem dL_law_338 : decode cL_law 338 = .ok (.invokevirtual 116, 3) := by decide +kernel
theorem dL_law_341 : decode cL_law 341 = .ok (.aload_n 2, 1) := by decide +kernel
theorem dL_law_342 : decode cL_law 342 = .ok (.invokevirtual 119, 3) := by decide +kernel
theorem dL_law_345 : decode cL_law 345 = .ok (.if_icmp .eq 1247, 3) := by decide +kernel
theorem dL_law_348 : decode cL_law 348 = .ok (.iconst 0, 1) := by decide +kernel
theorem dL_law_349 : decode cL_law 349 = .ok (.ireturn, 1) := by decide +kernel
theorem dL_law_350 : decode cL_law 350 = .ok (.aload_n 1, 1) := by decide +kernel
theorem dL_law_351 : decode cL_law 351 = .ok (.aload_n 0, 1) := by decide +kernel
theorem dL_law_352 : decode cL_law 352 = .ok (.iload 4, 2) := by decide +kernel
theorem dL_law_354 : decode cL_law 354 = .ok (.iconst 1, 1) := by decide +kernel
theorem dL_law_355 : decode cL_law 355 = .ok (.iadd, 1) := by decide +kernel
theorem dL_law_356 : decode cL_law 356 = .ok (.iaload, 1) := by decide +kernel
theorem dL_law_357 : decode cL_law 357 = .ok (.aload_n 0, 1) := by decide +kernel
theorem dL_law_358 : decode cL_law 358 = .ok (.iload 4, 2) := by decide +kernel
theorem dL_law_360 : decode cL_law 360 = .ok (.iconst 2, 1) := by decide +kernel
theorem dL_law_361 : decode cL_law 361 = .ok (.iadd, 1) := by decide +kernel
theorem dL_law_362 : decode cL_law 362 = .ok (.iaload, 1) := by decide +kernel
theorem dL_law_363 : decode cL_law 363 = .ok (.aload_n 3, 1) := by decide +kernel
theorem dL_law_364 : decode cL_law 364 = .ok (.invokestatic 120, 3) := by decide +kernel
theorem dL_law_367 : decode cL_law 367 = .ok (.istore 5, 2) := by decide +kernel
theorem dL_law_369 : decode cL_law 369 = .ok (.aload_n 2, 1) := by decide +kernel
theorem dL_law_370 : decode cL_law 370 = .ok (.aload_n 0, 1) := by decide +kernel
theorem dL_law_371 : decode cL_law 371 = .ok (.iload 4, 2) := by decide +kernel
theorem dL_law_373 : decode cL_law 373 = .ok (.iconst 1, 1) := by decide +kernel
theorem dL_law_374 : decode cL_law 374 = .ok (.iadd, 1) := by decide +kernel
theorem dL_law_375 : decode cL_law 375 = .ok (.iaload, 1) := by decide +kernel
theorem dL_law_376 : decode cL_law 376 = .ok (.aload_n 0, 1) := by decide +kernel
theorem dL_law_377 : decode cL_law 377 = .ok (.iload 4, 2) := by decide +kernel
theorem dL_law_379 : decode cL_law 379 = .ok (.iconst 2, 1) := by decide +kernel
theorem dL_law_380 : decode cL_law 380 = .ok (.iadd, 1) := by decide +kernel
theorem dL_law_381 : decode cL_law 381 = .ok (.iaload, 1) := by decide +kernel
theorem dL_law_382 : decode cL_law 382 = .ok (.invokevirtual 123, 3) := by decide +kernel
theorem dL_law_385 : decode cL_law 385 = .ok (.istore 6, 2) := by decide +kernel
theorem dL_law_387 : decode cL_law 387 = .ok (.aload_n 2, 1) := by decide +kernel
theorem dL_law_388 : decode cL_law 388 = .ok (.invokevirtual 96, 3) := by decide +kernel
theorem dL_law_391 : decode cL_law 391 = .ok (.iload 5, 2) := by decide +kernel
theorem dL_law_393 : decode cL_law 393 = .ok (.if_icmp .eq 5, 3) := by decide +kernel
theorem dL_law_396 : decode cL_law 396 = .ok (.iconst 0, 1) := by decide +kernel
theorem dL_law_397 : decode cL_law 397 = .ok (.ireturn, 1) := by decide +kernel
theorem dL_law_398 : decode cL_law 398 = .ok (.iload 5, 2) := by decide +kernel
theorem dL_law_400 : decode cL_law 400 = .ok (.ifCond .ne 15, 3) := by decide +kernel
theorem dL_law_403 : decode cL_law 403 = .ok (.aload_n 3, 1) := by decide +kernel
theorem dL_law_404 : decode cL_law 404 = .ok (.iconst 0, 1) := by decide +kernel
theorem dL_law_405 : decode cL_law 405 = .ok (.laload, 1) := by decide +kernel
theorem dL_law_406 : decode cL_law 406 = .ok (.iload 6, 2) := by decide +kernel
theorem dL_law_408 : decode cL_law 408 = .ok (.i2l, 1) := by decide +kernel
theorem dL_law_409 : decode cL_law 409 = .ok (.lcmp, 1) := by decide +kernel
theorem dL_law_410 : decode cL_law 410 = .ok (.ifCond .eq 5, 3) := by decide +kernel
theorem dL_law_413 : decode cL_law 413 = .ok (.iconst 0, 1) := by decide +kernel
theorem dL_law_414 : decode cL_law 414 = .ok (.ireturn, 1) := by decide +kernel
theorem dL_law_415 : decode cL_law 415 = .ok (.goto 1177, 3) := by decide +kernel
theorem dL_law_418 : decode cL_law 418 = .ok (.aload_n 1, 1) := by decide +kernel
theorem dL_law_419 : decode cL_law 419 = .ok (.aload_n 0, 1) := by decide +kernel
theorem dL_law_420 : decode cL_law 420 = .ok (.iload 4, 2) := by decide +kernel
theorem dL_law_422 : decode cL_law 422 = .ok (.iconst 1, 1) := by decide +kernel
theorem dL_law_423 : decode cL_law 423 = .ok (.iadd, 1) := by decide +kernel
theorem dL_law_424 : decode cL_law 424 = .ok (.iaload, 1) := by decide +kernel
theorem dL_law_425 : decode cL_law 425 = .ok (.aload_n 3, 1) := by decide +kernel
theorem dL_law_426 : decode cL_law 426 = .ok (.invokestatic 124, 3) := by decide +kernel
theorem dL_law_429 : decode cL_law 429 = .ok (.istore 5, 2) := by decide +kernel
theorem dL_law_431 : decode cL_law 431 = .ok (.aload_n 2, 1) := by decide +kernel
theorem dL_law_432 : decode cL_law 432 = .ok (.aload_n 0, 1) := by decide +kernel
theorem dL_law_433 : decode cL_law 433 = .ok (.iload 4, 2) := by decide +kernel
theorem dL_law_435 : decode cL_law 435 = .ok (.iconst 1, 1) := by decide +kernel
theorem dL_law_436 : decode cL_law 436 = .ok (.iadd, 1) := by decide +kernel
theorem dL_law_437 : decode cL_law 437 = .ok (.iaload, 1) := by decide +kernel
theorem dL_law_438 : decode cL_law 438 = .ok (.invokevirtual 126, 3) := by decide +kernel
theorem dL_law_441 : decode cL_law 441 = .ok (.istore 6, 2) := by decide +kernel
theorem dL_law_443 : decode cL_law 443 = .ok (.aload_n 2, 1) := by decide +kernel
theorem dL_law_444 : decode cL_law 444 = .ok (.invokevirtual 96, 3) := by decide +kernel
theorem dL_law_447 : decode cL_law 447 = .ok (.iload 5, 2) := by decide +kernel
theorem dL_law_449 : decode cL_law 449 = .ok (.if_icmp .eq 5, 3) := by decide +kernel
theorem dL_law_452 : decode cL_law 452 = .ok (.iconst 0, 1) := by decide +kernel
theorem dL_law_453 : decode cL_law 453 = .ok (.ireturn, 1) := by decide +kernel
theorem dL_law_454 : decode cL_law 454 = .ok (.iload 5, 2) := by decide +kernel
theorem dL_law_456 : decode cL_law 456 = .ok (.ifCond .ne 15, 3) := by decide +kernel
theorem dL_law_459 : decode cL_law 459 = .ok (.aload_n 3, 1) := by decide +kernel
theorem dL_law_460 : decode cL_law 460 = .ok (.iconst 0, 1) := by decide +kernel
theorem dL_law_461 : decode cL_law 461 = .ok (.laload, 1) := by decide +kernel
theorem dL_law_462 : decode cL_law 462 = .ok (.iload 6, 2) := by decide +kernel
theorem dL_law_464 : decode cL_law 464 = .ok (.i2l, 1) := by decide +kernel
theorem dL_law_465 : decode cL_law 465 = .ok (.lcmp, 1) := by decide +kernel
theorem dL_law_466 : decode cL_law 466 = .ok (.ifCond .eq 5, 3) := by decide +kernel
theorem dL_law_469 : decode cL_law 469 = .ok (.iconst 0, 1) := by decide +kernel
theorem dL_law_470 : decode cL_law 470 = .ok (.ireturn, 1) := by decide +kernel
theorem dL_law_471 : decode cL_law 471 = .ok (.goto 1121, 3) := by decide +kernel
theorem dL_law_474 : decode cL_law 474 = .ok (.aload_n 1, 1) := by decide +kernel
theorem dL_law_475 : decode cL_law 475 = .ok (.invokevirtual 127, 3) := by decide +kernel
theorem dL_law_478 : decode cL_law 478 = .ok (.aload_n 2, 1) := by decide +kernel
theorem dL_law_479 : decode cL_law 479 = .ok (.invokevirtual 130, 3) := by decide +kernel
theorem dL_law_482 : decode cL_law 482 = .ok (.if_icmp .eq 1110, 3) := by decide +kernel
theorem dL_law_485 : decode cL_law 485 = .ok (.iconst 0, 1) := by decide +kernel
theorem dL_law_486 : decode cL_law 486 = .ok (.ireturn, 1) := by decide +kernel
theorem dL_law_487 : decode cL_law 487 = .ok (.aload_n 1, 1) := by decide +kernel
theorem dL_law_488 : decode cL_law 488 = .ok (.aload_n 0, 1) := by decide +kernel
theorem dL_law_489 : decode cL_law 489 = .ok (.iload 4, 2) := by decide +kernel
theorem dL_law_491 : decode cL_law 491 = .ok (.iconst 1, 1) := by decide +kernel
theorem dL_law_492 : decode cL_law 492 = .ok (.iadd, 1) := by decide +kernel
theorem dL_law_493 : decode cL_law 493 = .ok (.iaload, 1) := by decide +kernel
theorem dL_law_494 : decode cL_law 494 = .ok (.aload_n 3, 1) := by decide +kernel
theorem dL_law_495 : decode cL_law 495 = .ok (.invokestatic 131, 3) := by decide +kernel
theorem dL_law_498 : decode cL_law 498 = .ok (.istore 5, 2) := by decide +kernel
theorem dL_law_500 : decode cL_law 500 = .ok (.aload_n 2, 1) := by decide +kernel
theorem dL_law_501 : decode cL_law 501 = .ok (.aload_n 0, 1) := by decide +kernel
theorem dL_law_502 : decode cL_law 502 = .ok (.iload 4, 2) := by decide +kernel
theorem dL_law_504 : decode cL_law 504 = .ok (.iconst 1, 1) := by decide +kernel
theorem dL_law_505 : decode cL_law 505 = .ok (.iadd, 1) := by decide +kernel
theorem dL_law_506 : decode cL_law 506 = .ok (.iaload, 1) := by decide +kernel
theorem dL_law_507 : decode cL_law 507 = .ok (.invokevirtual 133, 3) := by decide +kernel
theorem dL_law_510 : decode cL_law 510 = .ok (.istore 6, 2) := by decide +kernel
theorem dL_law_512 : decode cL_law 512 = .ok (.aload_n 2, 1) := by decide +kernel
theorem dL_law_513 : decode cL_law 513 = .ok (.invokevirtual 96, 3) := by decide +kernel
theorem dL_law_516 : decode cL_law 516 = .ok (.iload 5, 2) := by decide +kernel
theorem dL_law_518 : decode cL_law 518 = .ok (.if_icmp .eq 5, 3) := by decide +kernel
theorem dL_law_521 : decode cL_law 521 = .ok (.iconst 0, 1) := by decide +kernel
theorem dL_law_522 : decode cL_law 522 = .ok (.ireturn, 1) := by decide +kernel
theorem dL_law_523 : decode cL_law 523 = .ok (.iload 5, 2) := by decide +kernel
theorem dL_law_525 : decode cL_law 525 = .ok (.ifCond .ne 22, 3) := by decide +kernel
theorem dL_law_528 : decode cL_law 528 = .ok (.aload_n 3, 1) := by decide +kernel
theorem dL_law_529 : decode cL_law 529 = .ok (.iconst 0, 1) := by decide +kernel
theorem dL_law_530 : decode cL_law 530 = .ok (.laload, 1) := by decide +kernel
theorem dL_law_531 : decode cL_law 531 = .ok (.iload 6, 2) := by decide +kernel
theorem dL_law_533 : decode cL_law 533 = .ok (.ifCond .eq 7, 3) := by decide +kernel
theorem dL_law_536 : decode cL_law 536 = .ok (.lconst 1, 1) := by decide +kernel
theorem dL_law_537 : decode cL_law 537 = .ok (.goto 4, 3) := by decide +kernel
theorem dL_law_540 : decode cL_law 540 = .ok (.lconst 0, 1) := by decide +kernel
theorem dL_law_541 : decode cL_law 541 = .ok (.lcmp, 1) := by decide +kernel
theorem dL_law_542 : decode cL_law 542 = .ok (.ifCond .eq 5, 3) := by decide +kernel
theorem dL_law_545 : decode cL_law 545 = .ok (.iconst 0, 1) := by decide +kernel
theorem dL_law_546 : decode cL_law 546 = .ok (.ireturn, 1) := by decide +kernel
theorem dL_law_547 : decode cL_law 547 = .ok (.goto 1045, 3) := by decide +kernel
theorem dL_law_550 : decode cL_law 550 = .ok (.aload_n 1, 1) := by decide +kernel
theorem dL_law_551 : decode cL_law 551 = .ok (.aload_n 0, 1) := by decide +kernel
theorem dL_law_552 : decode cL_law 552 = .ok (.iload 4, 2) := by decide +kernel
theorem dL_law_554 : decode cL_law 554 = .ok (.iconst 1, 1) := by decide +kernel
theorem dL_law_555 : decode cL_law 555 = .ok (.iadd, 1) := by decide +kernel
theorem dL_law_556 : decode cL_law 556 = .ok (.iaload, 1) := by decide +kernel
theorem dL_law_557 : decode cL_law 557 = .ok (.aload_n 3, 1) := by decide +kernel
theorem dL_law_558 : decode cL_law 558 = .ok (.invokestatic 134, 3) := by decide +kernel
theorem dL_law_561 : decode cL_law 561 = .ok (.istore 5, 2) := by decide +kernel
theorem dL_law_563 : decode cL_law 563 = .ok (.aload_n 2, 1) := by decide +kernel
theorem dL_law_564 : decode cL_law 564 = .ok (.aload_n 0, 1) := by decide +kernel
theorem dL_law_565 : decode cL_law 565 = .ok (.iload 4, 2) := by decide +kernel
theorem dL_law_567 : decode cL_law 567 = .ok (.iconst 1, 1) := by decide +kernel
theorem dL_law_568 : decode cL_law 568 = .ok (.iadd, 1) := by decide +kernel
theorem dL_law_569 : decode cL_law 569 = .ok (.iaload, 1) := by decide +kernel
theorem dL_law_570 : decode cL_law 570 = .ok (.invokevirtual 136, 3) := by decide +kernel
theorem dL_law_573 : decode cL_law 573 = .ok (.istore 6, 2) := by decide +kernel
theorem dL_law_575 : decode cL_law 575 = .ok (.aload_n 2, 1) := by decide +kernel
theorem dL_law_576 : decode cL_law 576 = .ok (.invokevirtual 96, 3) := by decide +kernel
theorem dL_law_579 : decode cL_law 579 = .ok (.iload 5, 2) := by decide +kernel
theorem dL_law_581 : decode cL_law 581 = .ok (.if_icmp .eq 5, 3) := by decide +kernel
theorem dL_law_584 : decode cL_law 584 = .ok (.iconst 0, 1) := by decide +kernel
theorem dL_law_585 : decode cL_law 585 = .ok (.ireturn, 1) := by decide +kernel
theorem dL_law_586 : decode cL_law 586 = .ok (.iload 5, 2) := by decide +kernel
theorem dL_law_588 : decode cL_law 588 = .ok (.ifCond .ne 15, 3) := by decide +kernel
theorem dL_law_591 : decode cL_law 591 = .ok (.aload_n 3, 1) := by decide +kernel
theorem dL_law_592 : decode cL_law 592 = .ok (.iconst 0, 1) := by decide +kernel
theorem dL_law_593 : decode cL_law 593 = .ok (.laload, 1) := by decide +kernel
theorem dL_law_594 : decode cL_law 594 = .ok (.iload 6, 2) := by decide +kernel
theorem dL_law_596 : decode cL_law 596 = .ok (.i2l, 1) := by decide +kernel
theorem dL_law_597 : decode cL_law 597 = .ok (.lcmp, 1) := by decide +kernel
theorem dL_law_598 : decode cL_law 598 = .ok (.ifCond .eq 5, 3) := by decide +kernel
theorem dL_law_601 : decode cL_law 601 = .ok (.iconst 0, 1) := by decide +kernel
theorem dL_law_602 : decode cL_law 602 = .ok (.ireturn, 1) := by decide +kernel
theorem dL_law_603 : decode cL_law 603 = .ok (.goto 989, 3) := by decide +kernel
theorem dL_law_606 : decode cL_law 606 = .ok (.aload_n 1, 1) := by decide +kernel
theorem dL_law_607 : decode cL_law 607 = .ok (.aload_n 0, 1) := by decide +kernel
theorem dL_law_608 : decode cL_law 608 = .ok (.iload 4, 2) := by decide +kernel
theorem dL_law_610 : decode cL_law 610 = .ok (.iconst 1, 1) := by decide +kernel
theorem dL_law_611 : decode cL_law 611 = .ok (.iadd, 1) := by decide +kernel
theorem dL_law_612 : decode cL_law 612 = .ok (.iaload, 1) := by decide +kernel
theorem dL_law_613 : decode cL_law 613 = .ok (.aload_n 3, 1) := by decide +kernel
theorem dL_law_614 : decode cL_law 614 = .ok (.invokestatic 137, 3) := by decide +kernel
theorem dL_law_617 : decode cL_law 617 = .ok (.istore 5, 2) := by decide +kernel
theorem dL_law_619 : decode cL_law 619 = .ok (.aload_n 2, 1) := by decide +kernel
theorem dL_law_620 : decode cL_law 620 = .ok (.aload_n 0, 1) := by decide +kernel
theorem dL_law_621 : decode cL_law 621 = .ok (.iload 4, 2) := by decide +kernel
theorem dL_law_623 : decode cL_law 623 = .ok (.iconst 1, 1) := by decide +kernel
theorem dL_law_624 : decode cL_law 624 = .ok (.iadd, 1) := by decide +kernel
theorem dL_law_625 : decode cL_law 625 = .ok (.iaload, 1) := by decide +kernel
theorem dL_law_626 : decode cL_law 626 = .ok (.invokevirtual 139, 3) := by decide +kernel
theorem dL_law_629 : decode cL_law 629 = .ok (.istore 6, 2) := by decide +kernel
theorem dL_law_631 : decode cL_law 631 = .ok (.aload_n 2, 1) := by decide +kernel
theorem dL_law_632 : decode cL_law 632 = .ok (.invokevirtual 96, 3) := by decide +kernel
theorem dL_law_635 : decode cL_law 635 = .ok (.iload 5, 2) := by decide +kernel
theorem dL_law_637 : decode cL_law 637 = .ok (.if_icmp .eq 5, 3) := by decide +kernel
theorem dL_law_640 : decode cL_law 640 = .ok (.iconst 0, 1) := by decide +kernel
theorem dL_law_641 : decode cL_law 641 = .ok (.ireturn, 1) := by decide +kernel
theorem dL_law_642 : decode cL_law 642 = .ok (.iload 5, 2) := by decide +kernel
theorem dL_law_644 : decode cL_law 644 = .ok (.ifCond .ne 15, 3) := by decide +kernel
theorem dL_law_647 : decode cL_law 647 = .ok (.aload_n 3, 1) := by decide +kernel
theorem dL_law_648 : decode cL_law 648 = .ok (.iconst 0, 1) := by decide +kernel
theorem dL_law_649 : decode cL_law 649 = .ok (.laload, 1) := by decide +kernel
theorem dL_law_650 : decode cL_law 650 = .ok (.iload 6, 2) := by decide +kernel
theorem dL_law_652 : decode cL_law 652 = .ok (.i2l, 1) := by decide +kernel
theorem dL_law_653 : decode cL_law 653 = .ok (.lcmp, 1) := by decide +kernel
theorem dL_law_654 : decode cL_law 654 = .ok (.ifCond .eq 5, 3) := by decide +kernel
theorem dL_law_657 : decode cL_law 657 = .ok (.iconst 0, 1) := by decide +kernel
theorem dL_law_658 : decode cL_law 658 = .ok (.ireturn, 1) := by decide +kernel
theorem dL_law_659 : decode cL_law 659 = .ok (.goto 933, 3) := by decide +kernel
theorem dL_law_662 : decode cL_law 662 = .ok (.aload_n 1, 1) := by decide +kernel
theorem dL_law_663 : decode cL_law 663 = .ok (.aload_n 0, 1) := by decide +kernel
theorem dL_law_664 : decode cL_law 664 = .ok (.iload 4, 2) := by decide +kernel
theorem dL_law_666 : decode cL_law 666 = .ok (.iconst 1, 1) := by decide +kernel
theorem dL_law_667 : decode cL_law 667 = .ok (.iadd, 1) := by decide +kernel
theorem dL_law_668 : decode cL_law 668 = .ok (.iaload, 1) := by decide +kernel
theorem dL_law_669 : decode cL_law 669 = .ok (.aload_n 0, 1) := by decide +kernel
theorem dL_law_670 : decode cL_law 670 = .ok (.iload 4, 2) := by decide +kernel
theorem dL_law_672 : decode cL_law 672 = .ok (.iconst 2, 1) := by decide +kernel
theorem dL_law_673 : decode cL_law 673 = .ok (.iadd, 1) := by decide +kernel
theorem dL_law_674 : decode cL_law 674 = .ok (.iaload, 1) := by decide +kernel
theorem dL_law_675 : decode cL_law 675 = .ok (.aload_n 3, 1) := by decide +kernel
theorem dL_law_676 : decode cL_law 676 = .ok (.invokestatic 140, 3) := by decide +kernel
theorem dL_law_679 : decode cL_law 679 = .ok (.istore 5, 2) := by decide +kernel
theorem dL_law_681 : decode cL_law 681 = .ok (.aload_n 2, 1) := by decide +kernel
theorem dL_law_682 : decode cL_law 682 = .ok (.aload_n 0, 1) := by decide +kernel
theorem dL_law_683 : decode cL_law 683 = .ok (.iload 4, 2) := by decide +kernel
theorem dL_law_685 : decode cL_law 685 = .ok (.iconst 1, 1) := by decide +kernel
theorem dL_law_686 : decode cL_law 686 = .ok (.iadd, 1) := by decide +kernel
theorem dL_law_687 : decode cL_law 687 = .ok (.iaload, 1) := by decide +kernel
theorem dL_law_688 : decode cL_law 688 = .ok (.aload_n 0, 1) := by decide +kernel
theorem dL_law_689 : decode cL_law 689 = .ok (.iload 4, 2) := by decide +kernel
theorem dL_law_691 : decode cL_law 691 = .ok (.iconst 2, 1) := by decide +kernel
theorem dL_law_692 : decode cL_law 692 = .ok (.iadd, 1) := by decide +kernel
theorem dL_law_693 : decode cL_law 693 = .ok (.iaload, 1) := by decide +kernel
theorem dL_law_694 : decode cL_law 694 = .ok (.invokevirtual 142, 3) := by decide +kernel
theorem dL_law_697 : decode cL_law 697 = .ok (.istore 6, 2) := by decide +kernel
theorem dL_law_699 : decode cL_law 699 = .ok (.aload_n 2, 1) := by decide +kernel
theorem dL_law_700 : decode cL_law 700 = .ok (.invokevirtual 96, 3) := by decide +kernel
theorem dL_law_703 : decode cL_law 703 = .ok (.iload 5, 2) := by decide +kernel
theorem dL_law_705 : decode cL_law 705 = .ok (.if_icmp .eq 5, 3) := by decide +kernel
theorem dL_law_708 : decode cL_law 708 = .ok (.iconst 0, 1) := by decide +kernel
theorem dL_law_709 : decode cL_law 709 = .ok (.ireturn, 1) := by decide +kernel
theorem dL_law_710 : decode cL_law 710 = .ok (.iload 5, 2) := by decide +kernel
theorem dL_law_712 : decode cL_law 712 = .ok (.ifCond .ne 15, 3) := by decide +kernel
theorem dL_law_715 : decode cL_law 715 = .ok (.aload_n 3, 1) := by decide +kernel
theorem dL_law_716 : decode cL_law 716 = .ok (.iconst 0, 1) := by decide +kernel
theorem dL_law_717 : decode cL_law 717 = .ok (.laload, 1) := by decide +kernel
theorem dL_law_718 : decode cL_law 718 = .ok (.iload 6, 2) := by decide +kernel
theorem dL_law_720 : decode cL_law 720 = .ok (.i2l, 1) := by decide +kernel
theorem dL_law_721 : decode cL_law 721 = .ok (.lcmp, 1) := by decide +kernel
theorem dL_law_722 : decode cL_law 722 = .ok (.ifCond .eq 5, 3) := by decide +kernel
theorem dL_law_725 : decode cL_law 725 = .ok (.iconst 0, 1) := by decide +kernel
theorem dL_law_726 : decode cL_law 726 = .ok (.ireturn, 1) := by decide +kernel
theorem dL_law_727 : decode cL_law 727 = .ok (.goto 865, 3) := by decide +kernel
theorem dL_law_730 : decode cL_law 730 = .ok (.aload_n 1, 1) := by decide +kernel
theorem dL_law_731 : decode cL_law 731 = .ok (.invokevirtual 143, 3) := by decide +kernel
theorem dL_law_734 : decode cL_law 734 = .ok (.aload_n 2, 1) := by decide +kernel
theorem dL_law_735 : decode cL_law 735 = .ok (.invokevirtual 146, 3) := by decide +kernel
theorem dL_law_738 : decode cL_law 738 = .ok (.if_icmp .eq 854, 3) := by decide +kernel
theorem dL_law_741 : decode cL_law 741 = .ok (.iconst 0, 1) := by decide +kernel
theorem dL_law_742 : decode cL_law 742 = .ok (.ireturn, 1) := by decide +kernel
theorem dL_law_743 : decode cL_law 743 = .ok (.aload_n 1, 1) := by decide +kernel
theorem dL_law_744 : decode cL_law 744 = .ok (.aload_n 0, 1) := by decide +kernel
theorem dL_law_745 : decode cL_law 745 = .ok (.iload 4, 2) := by decide +kernel
theorem dL_law_747 : decode cL_law 747 = .ok (.iconst 1, 1) := by decide +kernel
theorem dL_law_748 : decode cL_law 748 = .ok (.iadd, 1) := by decide +kernel
theorem dL_law_749 : decode cL_law 749 = .ok (.iaload, 1) := by decide +kernel
theorem dL_law_750 : decode cL_law 750 = .ok (.aload_n 3, 1) := by decide +kernel
theorem dL_law_751 : decode cL_law 751 = .ok (.invokestatic 147, 3) := by decide +kernel
theorem dL_law_754 : decode cL_law 754 = .ok (.istore 5, 2) := by decide +kernel
theorem dL_law_756 : decode cL_law 756 = .ok (.aload_n 2, 1) := by decide +kernel
theorem dL_law_757 : decode cL_law 757 = .ok (.aload_n 0, 1) := by decide +kernel
theorem dL_law_758 : decode cL_law 758 = .ok (.iload 4, 2) := by decide +kernel
theorem dL_law_760 : decode cL_law 760 = .ok (.iconst 1, 1) := by decide +kernel
theorem dL_law_761 : decode cL_law 761 = .ok (.iadd, 1) := by decide +kernel
theorem dL_law_762 : decode cL_law 762 = .ok (.iaload, 1) := by decide +kernel
theorem dL_law_763 : decode cL_law 763 = .ok (.invokevirtual 149, 3) := by decide +kernel
theorem dL_law_766 : decode cL_law 766 = .ok (.istore 6, 2) := by decide +kernel
theorem dL_law_768 : decode cL_law 768 = .ok (.aload_n 2, 1) := by decide +kernel
theorem dL_law_769 : decode cL_law 769 = .ok (.invokevirtual 96, 3) := by decide +kernel
theorem dL_law_772 : decode cL_law 772 = .ok (.iload 5, 2) := by decide +kernel
theorem dL_law_774 : decode cL_law 774 = .ok (.if_icmp .eq 5, 3) := by decide +kernel
theorem dL_law_777 : decode cL_law 777 = .ok (.iconst 0, 1) := by decide +kernel
theorem dL_law_778 : decode cL_law 778 = .ok (.ireturn, 1) := by decide +kernel
theorem dL_law_779 : decode cL_law 779 = .ok (.iload 5, 2) := by decide +kernel
theorem dL_law_781 : decode cL_law 781 = .ok (.ifCond .ne 15, 3) := by decide +kernel
theorem dL_law_784 : decode cL_law 784 = .ok (.aload_n 3, 1) := by decide +kernel
theorem dL_law_785 : decode cL_law 785 = .ok (.iconst 0, 1) := by decide +kernel
theorem dL_law_786 : decode cL_law 786 = .ok (.laload, 1) := by decide +kernel
theorem dL_law_787 : decode cL_law 787 = .ok (.iload 6, 2) := by decide +kernel
theorem dL_law_789 : decode cL_law 789 = .ok (.i2l, 1) := by decide +kernel
theorem dL_law_790 : decode cL_law 790 = .ok (.lcmp, 1) := by decide +kernel
theorem dL_law_791 : decode cL_law 791 = .ok (.ifCond .eq 5, 3) := by decide +kernel
theorem dL_law_794 : decode cL_law 794 = .ok (.iconst 0, 1) := by decide +kernel
theorem dL_law_795 : decode cL_law 795 = .ok (.ireturn, 1) := by decide +kernel
theorem dL_law_796 : decode cL_law 796 = .ok (.goto 796, 3) := by decide +kernel
theorem dL_law_799 : decode cL_law 799 = .ok (.aload_n 1, 1) := by decide +kernel
theorem dL_law_800 : decode cL_law 800 = .ok (.aload_n 0, 1) := by decide +kernel
theorem dL_law_801 : decode cL_law 801 = .ok (.iload 4, 2) := by decide +kernel
theorem dL_law_803 : decode cL_law 803 = .ok (.iconst 1, 1) := by decide +kernel
theorem dL_law_804 : decode cL_law 804 = .ok (.iadd, 1) := by decide +kernel
theorem dL_law_805 : decode cL_law 805 = .ok (.iaload, 1) := by decide +kernel
theorem dL_law_806 : decode cL_law 806 = .ok (.aload_n 3, 1) := by decide +kernel
theorem dL_law_807 : decode cL_law 807 = .ok (.invokestatic 150, 3) := by decide +kernel
theorem dL_law_810 : decode cL_law 810 = .ok (.istore 5, 2) := by decide +kernel
theorem dL_law_812 : decode cL_law 812 = .ok (.aload_n 2, 1) := by decide +kernel
theorem dL_law_813 : decode cL_law 813 = .ok (.aload_n 0, 1) := by decide +kernel
theorem dL_law_814 : decode cL_law 814 = .ok (.iload 4, 2) := by decide +kernel
theorem dL_law_816 : decode cL_law 816 = .ok (.iconst 1, 1) := by decide +kernel
theorem dL_law_817 : decode cL_law 817 = .ok (.iadd, 1) := by decide +kernel
theorem dL_law_818 : decode cL_law 818 = .ok (.iaload, 1) := by decide +kernel
theorem dL_law_819 : decode cL_law 819 = .ok (.invokevirtual 152, 3) := by decide +kernel
theorem dL_law_822 : decode cL_law 822 = .ok (.istore 6, 2) := by decide +kernel
theorem dL_law_824 : decode cL_law 824 = .ok (.aload_n 2, 1) := by decide +kernel
theorem dL_law_825 : decode cL_law 825 = .ok (.invokevirtual 96, 3) := by decide +kernel
theorem dL_law_828 : decode cL_law 828 = .ok (.iload 5, 2) := by decide +kernel
theorem dL_law_830 : decode cL_law 830 = .ok (.if_icmp .eq 5, 3) := by decide +kernel
theorem dL_law_833 : decode cL_law 833 = .ok (.iconst 0, 1) := by decide +kernel
theorem dL_law_834 : decode cL_law 834 = .ok (.ireturn, 1) := by decide +kernel
theorem dL_law_835 : decode cL_law 835 = .ok (.iload 5, 2) := by decide +kernel
theorem dL_law_837 : decode cL_law 837 = .ok (.ifCond .ne 15, 3) := by decide +kernel
theorem dL_law_840 : decode cL_law 840 = .ok (.aload_n 3, 1) := by decide +kernel
theorem dL_law_841 : decode cL_law 841 = .ok (.iconst 0, 1) := by decide +kernel
theorem dL_law_842 : decode cL_law 842 = .ok (.laload, 1) := by decide +kernel
theorem dL_law_843 : decode cL_law 843 = .ok (.iload 6, 2) := by decide +kernel
theorem dL_law_845 : decode cL_law 845 = .ok (.i2l, 1) := by decide +kernel
theorem dL_law_846 : decode cL_law 846 = .ok (.lcmp, 1) := by decide +kernel
theorem dL_law_847 : decode cL_law 847 = .ok (.ifCond .eq 5, 3) := by decide +kernel
theorem dL_law_850 : decode cL_law 850 = .ok (.iconst 0, 1) := by decide +kernel
theorem dL_law_851 : decode cL_law 851 = .ok (.ireturn, 1) := by decide +kernel
theorem dL_law_852 : decode cL_law 852 = .ok (.goto 740, 3) := by decide +kernel
theorem dL_law_855 : decode cL_law 855 = .ok (.aload_n 1, 1) := by decide +kernel
theorem dL_law_856 : decode cL_law 856 = .ok (.aload_n 0, 1) := by decide +kernel
theorem dL_law_857 : decode cL_law 857 = .ok (.iload 4, 2) := by decide +kernel
theorem dL_law_859 : decode cL_law 859 = .ok (.iconst 1, 1) := by decide +kernel
theorem dL_law_860 : decode cL_law 860 = .ok (.iadd, 1) := by decide +kernel
theorem dL_law_861 : decode cL_law 861 = .ok (.iaload, 1) := by decide +kernel
theorem dL_law_862 : decode cL_law 862 = .ok (.aload_n 3, 1) := by decide +kernel
theorem dL_law_863 : decode cL_law 863 = .ok (.invokestatic 153, 3) := by decide +kernel
theorem dL_law_866 : decode cL_law 866 = .ok (.istore 5, 2) := by decide +kernel
theorem dL_law_868 : decode cL_law 868 = .ok (.aload_n 2, 1) := by decide +kernel
theorem dL_law_869 : decode cL_law 869 = .ok (.aload_n 0, 1) := by decide +kernel
theorem dL_law_870 : decode cL_law 870 = .ok (.iload 4, 2) := by decide +kernel
theorem dL_law_872 : decode cL_law 872 = .ok (.iconst 1, 1) := by decide +kernel
theorem dL_law_873 : decode cL_law 873 = .ok (.iadd, 1) := by decide +kernel
theorem dL_law_874 : decode cL_law 874 = .ok (.iaload, 1) := by decide +kernel
theorem dL_law_875 : decode cL_law 875 = .ok (.invokevirtual 155, 3) := by decide +kernel
theorem dL_law_878 : decode cL_law 878 = .ok (.istore 6, 2) := by decide +kernel
theorem dL_law_880 : decode cL_law 880 = .ok (.aload_n 2, 1) := by decide +kernel
theorem dL_law_881 : decode cL_law 881 = .ok (.invokevirtual 96, 3) := by decide +kernel
theorem dL_law_884 : decode cL_law 884 = .ok (.iload 5, 2) := by decide +kernel
theorem dL_law_886 : decode cL_law 886 = .ok (.if_icmp .eq 5, 3) := by decide +kernel
theorem dL_law_889 : decode cL_law 889 = .ok (.iconst 0, 1) := by decide +kernel
theorem dL_law_890 : decode cL_law 890 = .ok (.ireturn, 1) := by decide +kernel
theorem dL_law_891 : decode cL_law 891 = .ok (.iload 5, 2) := by decide +kernel
theorem dL_law_893 : decode cL_law 893 = .ok (.ifCond .ne 15, 3) := by decide +kernel
theorem dL_law_896 : decode cL_law 896 = .ok (.aload_n 3, 1) := by decide +kernel
theorem dL_law_897 : decode cL_law 897 = .ok (.iconst 0, 1) := by decide +kernel
theorem dL_law_898 : decode cL_law 898 = .ok (.laload, 1) := by decide +kernel
theorem dL_law_899 : decode cL_law 899 = .ok (.iload 6, 2) := by decide +kernel
theorem dL_law_901 : decode cL_law 901 = .ok (.i2l, 1) := by decide +kernel
theorem dL_law_902 : decode cL_law 902 = .ok (.lcmp, 1) := by decide +kernel
theorem dL_law_903 : decode cL_law 903 = .ok (.ifCond .eq 5, 3) := by decide +kernel
theorem dL_law_906 : decode cL_law 906 = .ok (.iconst 0, 1) := by decide +kernel
theorem dL_law_907 : decode cL_law 907 = .ok (.ireturn, 1) := by decide +kernel
theorem dL_law_908 : decode cL_law 908 = .ok (.goto 684, 3) := by decide +kernel
theorem dL_law_911 : decode cL_law 911 = .ok (.aload_n 1, 1) := by decide +kernel
theorem dL_law_912 : decode cL_law 912 = .ok (.aload_n 0, 1) := by decide +kernel
theorem dL_law_913 : decode cL_law 913 = .ok (.iload 4, 2) := by decide +kernel
theorem dL_law_915 : decode cL_law 915 = .ok (.iconst 1, 1) := by decide +kernel
theorem dL_law_916 : decode cL_law 916 = .ok (.iadd, 1) := by decide +kernel
theorem dL_law_917 : decode cL_law 917 = .ok (.iaload, 1) := by decide +kernel
theorem dL_law_918 : decode cL_law 918 = .ok (.aload_n 3, 1) := by decide +kernel
theorem dL_law_919 : decode cL_law 919 = .ok (.invokestatic 156, 3) := by decide +kernel
theorem dL_law_922 : decode cL_law 922 = .ok (.istore 5, 2) := by decide +kernel
theorem dL_law_924 : decode cL_law 924 = .ok (.aload_n 2, 1) := by decide +kernel
theorem dL_law_925 : decode cL_law 925 = .ok (.aload_n 0, 1) := by decide +kernel
theorem dL_law_926 : decode cL_law 926 = .ok (.iload 4, 2) := by decide +kernel
theorem dL_law_928 : decode cL_law 928 = .ok (.iconst 1, 1) := by decide +kernel
theorem dL_law_929 : decode cL_law 929 = .ok (.iadd, 1) := by decide +kernel
theorem dL_law_930 : decode cL_law 930 = .ok (.iaload, 1) := by decide +kernel
theorem dL_law_931 : decode cL_law 931 = .ok (.invokevirtual 158, 3) := by decide +kernel
theorem dL_law_934 : decode cL_law 934 = .ok (.istore 6, 2) := by decide +kernel
theorem dL_law_936 : decode cL_law 936 = .ok (.aload_n 2, 1) := by decide +kernel
theorem dL_law_937 : decode cL_law 937 = .ok (.invokevirtual 96, 3) := by decide +kernel
theorem dL_law_940 : decode cL_law 940 = .ok (.iload 5, 2) := by decide +kernel
theorem dL_law_942 : decode cL_law 942 = .ok (.if_icmp .eq 5, 3) := by decide +kernel
theorem dL_law_945 : decode cL_law 945 = .ok (.iconst 0, 1) := by decide +kernel
theorem dL_law_946 : decode cL_law 946 = .ok (.ireturn, 1) := by decide +kernel
theorem dL_law_947 : decode cL_law 947 = .ok (.iload 5, 2) := by decide +kernel
theorem dL_law_949 : decode cL_law 949 = .ok (.ifCond .ne 15, 3) := by decide +kernel
theorem dL_law_952 : decode cL_law 952 = .ok (.aload_n 3, 1) := by decide +kernel
theorem dL_law_953 : decode cL_law 953 = .ok (.iconst 0, 1) := by decide +kernel
theorem dL_law_954 : decode cL_law 954 = .ok (.laload, 1) := by decide +kernel
theorem dL_law_955 : decode cL_law 955 = .ok (.iload 6, 2) := by decide +kernel
theorem dL_law_957 : decode cL_law 957 = .ok (.i2l, 1) := by decide +kernel
theorem dL_law_958 : decode cL_law 958 = .ok (.lcmp, 1) := by decide +kernel
theorem dL_law_959 : decode cL_law 959 = .ok (.ifCond .eq 5, 3) := by decide +kernel
theorem dL_law_962 : decode cL_law 962 = .ok (.iconst 0, 1) := by decide +kernel
theorem dL_law_963 : decode cL_law 963 = .ok (.ireturn, 1) := by decide +kernel
theorem dL_law_964 : decode cL_law 964 = .ok (.goto 628, 3) := by decide +kernel
theorem dL_law_967 : decode cL_law 967 = .ok (.aload_n 1, 1) := by decide +kernel
theorem dL_law_968 : decode cL_law 968 = .ok (.aload_n 0, 1) := by decide +kernel
theorem dL_law_969 : decode cL_law 969 = .ok (.iload 4, 2) := by decide +kernel
theorem dL_law_971 : decode cL_law 971 = .ok (.iconst 1, 1) := by decide +kernel
theorem dL_law_972 : decode cL_law 972 = .ok (.iadd, 1) := by decide +kernel
theorem dL_law_973 : decode cL_law 973 = .ok (.iaload, 1) := by decide +kernel
theorem dL_law_974 : decode cL_law 974 = .ok (.aload_n 3, 1) := by decide +kernel
theorem dL_law_975 : decode cL_law 975 = .ok (.invokestatic 159, 3) := by decide +kernel
theorem dL_law_978 : decode cL_law 978 = .ok (.istore 5, 2) := by decide +kernel
theorem dL_law_980 : decode cL_law 980 = .ok (.aload_n 2, 1) := by decide +kernel
theorem dL_law_981 : decode cL_law 981 = .ok (.aload_n 0, 1) := by decide +kernel
theorem dL_law_982 : decode cL_law 982 = .ok (.iload 4, 2) := by decide +kernel
theorem dL_law_984 : decode cL_law 984 = .ok (.iconst 1, 1) := by decide +kernel
theorem dL_law_985 : decode cL_law 985 = .ok (.iadd, 1) := by decide +kernel
theorem dL_law_986 : decode cL_law 986 = .ok (.iaload, 1) := by decide +kernel
theorem dL_law_987 : decode cL_law 987 = .ok (.invokevirtual 161, 3) := by decide +kernel
theorem dL_law_990 : decode cL_law 990 = .ok (.istore 6, 2) := by decide +kernel
theorem dL_law_992 : decode cL_law 992 = .ok (.aload_n 2, 1) := by decide +kernel
theorem dL_law_993 : decode cL_law 993 = .ok (.invokevirtual 96, 3) := by decide +kernel
theorem dL_law_996 : decode cL_law 996 = .ok (.iload 5, 2) := by decide +kernel
theorem dL_law_998 : decode cL_law 998 = .ok (.if_icmp .eq 5, 3) := by decide +kernel
theorem dL_law_1001 : decode cL_law 1001 = .ok (.iconst 0, 1) := by decide +kernel
theorem dL_law_1002 : decode cL_law 1002 = .ok (.ireturn, 1) := by decide +kernel
theorem dL_law_1003 : decode cL_law 1003 = .ok (.iload 5, 2) := by decide +kernel
theorem dL_law_1005 : decode cL_law 1005 = .ok (.ifCond .ne 15, 3) := by decide +kernel
theorem dL_law_1008 : decode cL_law 1008 = .ok (.aload_n 3, 1) := by decide +kernel
theorem dL_law_1009 : decode cL_law 1009 = .ok (.iconst 0, 1) := by decide +kernel
theorem dL_law_1010 : decode cL_law 1010 = .ok (.laload, 1) := by decide +kernel
theorem dL_law_1011 : decode cL_law 1011 = .ok (.iload 6, 2) := by decide +kernel
theorem dL_law_1013 : decode cL_law 1013 = .ok (.i2l, 1) := by decide +kernel
theorem dL_law_1014 : decode cL_law 1014 = .ok (.lcmp, 1) := by decide +kernel
theorem dL_law_1015 : decode cL_law 1015 = .ok (.ifCond .eq 5, 3) := by decide +kernel
theorem dL_law_1018 : decode cL_law 1018 = .ok (.iconst 0, 1) := by decide +kernel
theorem dL_law_1019 : decode cL_law 1019 = .ok (.ireturn, 1) := by decide +kernel
theorem dL_law_1020 : decode cL_law 1020 = .ok (.goto 572, 3) := by decide +kernel
theorem dL_law_1023 : decode cL_law 1023 = .ok (.aload_n 1, 1) := by decide +kernel
theorem dL_law_1024 : decode cL_law 1024 = .ok (.aload_n 0, 1) := by decide +kernel
theorem dL_law_1025 : decode cL_law 1025 = .ok (.iload 4, 2) := by decide +kernel
theorem dL_law_1027 : decode cL_law 1027 = .ok (.iconst 1, 1) := by decide +kernel
theorem dL_law_1028 : decode cL_law 1028 = .ok (.iadd, 1) := by decide +kernel
theorem dL_law_1029 : decode cL_law 1029 = .ok (.iaload, 1) := by decide +kernel
theorem dL_law_1030 : decode cL_law 1030 = .ok (.aload_n 3, 1) := by decide +kernel
theorem dL_law_1031 : decode cL_law 1031 = .ok (.invokestatic 162, 3) := by decide +kernel
theorem dL_law_1034 : decode cL_law 1034 = .ok (.istore 5, 2) := by decide +kernel
theorem dL_law_1036 : decode cL_law 1036 = .ok (.aload_n 2, 1) := by decide +kernel
theorem dL_law_1037 : decode cL_law 1037 = .ok (.aload_n 0, 1) := by decide +kernel
theorem dL_law_1038 : decode cL_law 1038 = .ok (.iload 4, 2) := by decide +kernel
theorem dL_law_1040 : decode cL_law 1040 = .ok (.iconst 1, 1) := by decide +kernel
theorem dL_law_1041 : decode cL_law 1041 = .ok (.iadd, 1) := by decide +kernel
theorem dL_law_1042 : decode cL_law 1042 = .ok (.iaload, 1) := by decide +kernel
theorem dL_law_1043 : decode cL_law 1043 = .ok (.invokevirtual 164, 3) := by decide +kernel
theorem dL_law_1046 : decode cL_law 1046 = .ok (.istore 6, 2) := by decide +kernel
theorem dL_law_1048 : decode cL_law 1048 = .ok (.aload_n 2, 1) := by decide +kernel
theorem dL_law_1049 : decode cL_law 1049 = .ok (.invokevirtual 96, 3) := by decide +kernel
theorem dL_law_1052 : decode cL_law 1052 = .ok (.iload 5, 2) := by decide +kernel
theorem dL_law_1054 : decode cL_law 1054 = .ok (.if_icmp .eq 5, 3) := by decide +kernel
theorem dL_law_1057 : decode cL_law 1057 = .ok (.iconst 0, 1) := by decide +kernel
theorem dL_law_1058 : decode cL_law 1058 = .ok (.ireturn, 1) := by decide +kernel
theorem dL_law_1059 : decode cL_law 1059 = .ok (.iload 5, 2) := by decide +kernel
theorem dL_law_1061 : decode cL_law 1061 = .ok (.ifCond .ne 15, 3) := by decide +kernel
theorem dL_law_1064 : decode cL_law 1064 = .ok (.aload_n 3, 1) := by decide +kernel
theorem dL_law_1065 : decode cL_law 1065 = .ok (.iconst 0, 1) := by decide +kernel
theorem dL_law_1066 : decode cL_law 1066 = .ok (.laload, 1) := by decide +kernel
theorem dL_law_1067 : decode cL_law 1067 = .ok (.iload 6, 2) := by decide +kernel
theorem dL_law_1069 : decode cL_law 1069 = .ok (.i2l, 1) := by decide +kernel
theorem dL_law_1070 : decode cL_law 1070 = .ok (.lcmp, 1) := by decide +kernel
theorem dL_law_1071 : decode cL_law 1071 = .ok (.ifCond .eq 5, 3) := by decide +kernel
theorem dL_law_1074 : decode cL_law 1074 = .ok (.iconst 0, 1) := by decide +kernel
theorem dL_law_1075 : decode cL_law 1075 = .ok (.ireturn, 1) := by decide +kernel
theorem dL_law_1076 : decode cL_law 1076 = .ok (.goto 516, 3) := by decide +kernel
theorem dL_law_1079 : decode cL_law 1079 = .ok (.aload_n 1, 1) := by decide +kernel
theorem dL_law_1080 : decode cL_law 1080 = .ok (.invokevirtual 165, 3) := by decide +kernel
theorem dL_law_1083 : decode cL_law 1083 = .ok (.aload_n 2, 1) := by decide +kernel
theorem dL_law_1084 : decode cL_law 1084 = .ok (.invokevirtual 168, 3) := by decide +kernel
theorem dL_law_1087 : decode cL_law 1087 = .ok (.if_icmp .eq 505, 3) := by decide +kernel
theorem dL_law_1090 : decode cL_law 1090 = .ok (.iconst 0, 1) := by decide +kernel
theorem dL_law_1091 : decode cL_law 1091 = .ok (.ireturn, 1) := by decide +kernel
theorem dL_law_1092 : decode cL_law 1092 = .ok (.aload_n 1, 1) := by decide +kernel
theorem dL_law_1093 : decode cL_law 1093 = .ok (.aload_n 0, 1) := by decide +kernel
theorem dL_law_1094 : decode cL_law 1094 = .ok (.iload 4, 2) := by decide +kernel
theorem dL_law_1096 : decode cL_law 1096 = .ok (.iconst 1, 1) := by decide +kernel
theorem dL_law_1097 : decode cL_law 1097 = .ok (.iadd, 1) := by decide +kernel
theorem dL_law_1098 : decode cL_law 1098 = .ok (.iaload, 1) := by decide +kernel
theorem dL_law_1099 : decode cL_law 1099 = .ok (.aload_n 3, 1) := by decide +kernel
theorem dL_law_1100 : decode cL_law 1100 = .ok (.invokestatic 169, 3) := by decide +kernel
theorem dL_law_1103 : decode cL_law 1103 = .ok (.istore 5, 2) := by decide +kernel
theorem dL_law_1105 : decode cL_law 1105 = .ok (.aload_n 2, 1) := by decide +kernel
theorem dL_law_1106 : decode cL_law 1106 = .ok (.aload_n 0, 1) := by decide +kernel
theorem dL_law_1107 : decode cL_law 1107 = .ok (.iload 4, 2) := by decide +kernel
theorem dL_law_1109 : decode cL_law 1109 = .ok (.iconst 1, 1) := by decide +kernel
theorem dL_law_1110 : decode cL_law 1110 = .ok (.iadd, 1) := by decide +kernel
theorem dL_law_1111 : decode cL_law 1111 = .ok (.iaload, 1) := by decide +kernel
theorem dL_law_1112 : decode cL_law 1112 = .ok (.invokevirtual 171, 3) := by decide +kernel
theorem dL_law_1115 : decode cL_law 1115 = .ok (.istore 6, 2) := by decide +kernel
theorem dL_law_1117 : decode cL_law 1117 = .ok (.aload_n 2, 1) := by decide +kernel
theorem dL_law_1118 : decode cL_law 1118 = .ok (.invokevirtual 96, 3) := by decide +kernel
theorem dL_law_1121 : decode cL_law 1121 = .ok (.iload 5, 2) := by decide +kernel
theorem dL_law_1123 : decode cL_law 1123 = .ok (.if_icmp .eq 5, 3) := by decide +kernel
theorem dL_law_1126 : decode cL_law 1126 = .ok (.iconst 0, 1) := by decide +kernel
theorem dL_law_1127 : decode cL_law 1127 = .ok (.ireturn, 1) := by decide +kernel
theorem dL_law_1128 : decode cL_law 1128 = .ok (.iload 5, 2) := by decide +kernel
theorem dL_law_1130 : decode cL_law 1130 = .ok (.ifCond .ne 15, 3) := by decide +kernel
theorem dL_law_1133 : decode cL_law 1133 = .ok (.aload_n 3, 1) := by decide +kernel
theorem dL_law_1134 : decode cL_law 1134 = .ok (.iconst 0, 1) := by decide +kernel
theorem dL_law_1135 : decode cL_law 1135 = .ok (.laload, 1) := by decide +kernel
theorem dL_law_1136 : decode cL_law 1136 = .ok (.iload 6, 2) := by decide +kernel
theorem dL_law_1138 : decode cL_law 1138 = .ok (.i2l, 1) := by decide +kernel
theorem dL_law_1139 : decode cL_law 1139 = .ok (.lcmp, 1) := by decide +kernel
theorem dL_law_1140 : decode cL_law 1140 = .ok (.ifCond .eq 5, 3) := by decide +kernel
theorem dL_law_1143 : decode cL_law 1143 = .ok (.iconst 0, 1) := by decide +kernel
theorem dL_law_1144 : decode cL_law 1144 = .ok (.ireturn, 1) := by decide +kernel
theorem dL_law_1145 : decode cL_law 1145 = .ok (.goto 447, 3) := by decide +kernel
theorem dL_law_1148 : decode cL_law 1148 = .ok (.aload_n 1, 1) := by decide +kernel
theorem dL_law_1149 : decode cL_law 1149 = .ok (.aload_n 0, 1) := by decide +kernel
theorem dL_law_1150 : decode cL_law 1150 = .ok (.iload 4, 2) := by decide +kernel
theorem dL_law_1152 : decode cL_law 1152 = .ok (.iconst 1, 1) := by decide +kernel
theorem dL_law_1153 : decode cL_law 1153 = .ok (.iadd, 1) := by decide +kernel
theorem dL_law_1154 : decode cL_law 1154 = .ok (.iaload, 1) := by decide +kernel
theorem dL_law_1155 : decode cL_law 1155 = .ok (.aload_n 3, 1) := by decide +kernel
theorem dL_law_1156 : decode cL_law 1156 = .ok (.invokestatic 172, 3) := by decide +kernel
theorem dL_law_1159 : decode cL_law 1159 = .ok (.istore 5, 2) := by decide +kernel
theorem dL_law_1161 : decode cL_law 1161 = .ok (.aload_n 2, 1) := by decide +kernel
theorem dL_law_1162 : decode cL_law 1162 = .ok (.aload_n 0, 1) := by decide +kernel
theorem dL_law_1163 : decode cL_law 1163 = .ok (.iload 4, 2) := by decide +kernel
theorem dL_law_1165 : decode cL_law 1165 = .ok (.iconst 1, 1) := by decide +kernel
theorem dL_law_1166 : decode cL_law 1166 = .ok (.iadd, 1) := by decide +kernel
theorem dL_law_1167 : decode cL_law 1167 = .ok (.iaload, 1) := by decide +kernel
theorem dL_law_1168 : decode cL_law 1168 = .ok (.invokevirtual 174, 3) := by decide +kernel
theorem dL_law_1171 : decode cL_law 1171 = .ok (.istore 6, 2) := by decide +kernel
theorem dL_law_1173 : decode cL_law 1173 = .ok (.aload_n 2, 1) := by decide +kernel
theorem dL_law_1174 : decode cL_law 1174 = .ok (.invokevirtual 96, 3) := by decide +kernel
theorem dL_law_1177 : decode cL_law 1177 = .ok (.iload 5, 2) := by decide +kernel
theorem dL_law_1179 : decode cL_law 1179 = .ok (.if_icmp .eq 5, 3) := by decide +kernel
theorem dL_law_1182 : decode cL_law 1182 = .ok (.iconst 0, 1) := by decide +kernel
theorem dL_law_1183 : decode cL_law 1183 = .ok (.ireturn, 1) := by decide +kernel
theorem dL_law_1184 : decode cL_law 1184 = .ok (.iload 5, 2) := by decide +kernel
theorem dL_law_1186 : decode cL_law 1186 = .ok (.ifCond .ne 15, 3) := by decide +kernel
theorem dL_law_1189 : decode cL_law 1189 = .ok (.aload_n 3, 1) := by decide +kernel
theorem dL_law_1190 : decode cL_law 1190 = .ok (.iconst 0, 1) := by decide +kernel
theorem dL_law_1191 : decode cL_law 1191 = .ok (.laload, 1) := by decide +kernel
theorem dL_law_1192 : decode cL_law 1192 = .ok (.iload 6, 2) := by decide +kernel
theorem dL_law_1194 : decode cL_law 1194 = .ok (.i2l, 1) := by decide +kernel
theorem dL_law_1195 : decode cL_law 1195 = .ok (.lcmp, 1) := by decide +kernel
theorem dL_law_1196 : decode cL_law 1196 = .ok (.ifCond .eq 5, 3) := by decide +kernel
theorem dL_law_1199 : decode cL_law 1199 = .ok (.iconst 0, 1) := by decide +kernel
theorem dL_law_1200 : decode cL_law 1200 = .ok (.ireturn, 1) := by decide +kernel
theorem dL_law_1201 : decode cL_law 1201 = .ok (.goto 391, 3) := by decide +kernel
theorem dL_law_1204 : decode cL_law 1204 = .ok (.aload_n 1, 1) := by decide +kernel
theorem dL_law_1205 : decode cL_law 1205 = .ok (.aload_n 3, 1) := by decide +kernel
theorem dL_law_1206 : decode cL_law 1206 = .ok (.invokestatic 175, 3) := by decide +kernel
theorem dL_law_1209 : decode cL_law 1209 = .ok (.istore 5, 2) := by decide +kernel
theorem dL_law_1211 : decode cL_law 1211 = .ok (.aload_n 2, 1) := by decide +kernel
theorem dL_law_1212 : decode cL_law 1212 = .ok (.invokevirtual 178, 3) := by decide +kernel
theorem dL_law_1215 : decode cL_law 1215 = .ok (.istore 6, 2) := by decide +kernel
theorem dL_law_1217 : decode cL_law 1217 = .ok (.aload_n 2, 1) := by decide +kernel
theorem dL_law_1218 : decode cL_law 1218 = .ok (.invokevirtual 96, 3) := by decide +kernel
theorem dL_law_1221 : decode cL_law 1221 = .ok (.iload 5, 2) := by decide +kernel
theorem dL_law_1223 : decode cL_law 1223 = .ok (.if_icmp .eq 5, 3) := by decide +kernel
theorem dL_law_1226 : decode cL_law 1226 = .ok (.iconst 0, 1) := by decide +kernel
theorem dL_law_1227 : decode cL_law 1227 = .ok (.ireturn, 1) := by decide +kernel
theorem dL_law_1228 : decode cL_law 1228 = .ok (.iload 5, 2) := by decide +kernel
theorem dL_law_1230 : decode cL_law 1230 = .ok (.ifCond .ne 15, 3) := by decide +kernel
theorem dL_law_1233 : decode cL_law 1233 = .ok (.aload_n 3, 1) := by decide +kernel
theorem dL_law_1234 : decode cL_law 1234 = .ok (.iconst 0, 1) := by decide +kernel
theorem dL_law_1235 : decode cL_law 1235 = .ok (.laload, 1) := by decide +kernel
theorem dL_law_1236 : decode cL_law 1236 = .ok (.iload 6, 2) := by decide +kernel
theorem dL_law_1238 : decode cL_law 1238 = .ok (.i2l, 1) := by decide +kernel
theorem dL_law_1239 : decode cL_law 1239 = .ok (.lcmp, 1) := by decide +kernel
theorem dL_law_1240 : decode cL_law 1240 = .ok (.ifCond .eq 5, 3) := by decide +kernel
theorem dL_law_1243 : decode cL_law 1243 = .ok (.iconst 0, 1) := by decide +kernel
theorem dL_law_1244 : decode cL_law 1244 = .ok (.ireturn, 1) := by decide +kernel
theorem dL_law_1245 : decode cL_law 1245 = .ok (.goto 347, 3) := by decide +kernel
theorem dL_law_1248 : decode cL_law 1248 = .ok (.aload_n 1, 1) := by decide +kernel
theorem dL_law_1249 : decode cL_law 1249 = .ok (.invokevirtual 179, 3) := by decide +kernel
theorem dL_law_1252 : decode cL_law 1252 = .ok (.aload_n 2, 1) := by decide +kernel
theorem dL_law_1253 : decode cL_law 1253 = .ok (.invokevirtual 182, 3) := by decide +kernel
theorem dL_law_1256 : decode cL_law 1256 = .ok (.if_icmp .eq 336, 3) := by decide +kernel
theorem dL_law_1259 : decode cL_law 1259 = .ok (.iconst 0, 1) := by decide +kernel
theorem dL_law_1260 : decode cL_law 1260 = .ok (.ireturn, 1) := by decide +kernel
theorem dL_law_1261 : decode cL_law 1261 = .ok (.aload_n 1, 1) := by decide +kernel
theorem dL_law_1262 : decode cL_law 1262 = .ok (.aload_n 0, 1) := by decide +kernel
theorem dL_law_1263 : decode cL_law 1263 = .ok (.iload 4, 2) := by decide +kernel
theorem dL_law_1265 : decode cL_law 1265 = .ok (.iconst 1, 1) := by decide +kernel
theorem dL_law_1266 : decode cL_law 1266 = .ok (.iadd, 1) := by decide +kernel
theorem dL_law_1267 : decode cL_law 1267 = .ok (.iaload, 1) := by decide +kernel
theorem dL_law_1268 : decode cL_law 1268 = .ok (.aload_n 0, 1) := by decide +kernel
theorem dL_law_1269 : decode cL_law 1269 = .ok (.iload 4, 2) := by decide +kernel
theorem dL_law_1271 : decode cL_law 1271 = .ok (.iconst 2, 1) := by decide +kernel
theorem dL_law_1272 : decode cL_law 1272 = .ok (.iadd, 1) := by decide +kernel
theorem dL_law_1273 : decode cL_law 1273 = .ok (.iaload, 1) := by decide +kernel
theorem dL_law_1274 : decode cL_law 1274 = .ok (.aload_n 3, 1) := by decide +kernel
theorem dL_law_1275 : decode cL_law 1275 = .ok (.invokestatic 183, 3) := by decide +kernel
theorem dL_law_1278 : decode cL_law 1278 = .ok (.istore 5, 2) := by decide +kernel
theorem dL_law_1280 : decode cL_law 1280 = .ok (.aload_n 2, 1) := by decide +kernel
theorem dL_law_1281 : decode cL_law 1281 = .ok (.aload_n 0, 1) := by decide +kernel
theorem dL_law_1282 : decode cL_law 1282 = .ok (.iload 4, 2) := by decide +kernel
theorem dL_law_1284 : decode cL_law 1284 = .ok (.iconst 1, 1) := by decide +kernel
theorem dL_law_1285 : decode cL_law 1285 = .ok (.iadd, 1) := by decide +kernel
theorem dL_law_1286 : decode cL_law 1286 = .ok (.iaload, 1) := by decide +kernel
theorem dL_law_1287 : decode cL_law 1287 = .ok (.aload_n 0, 1) := by decide +kernel
theorem dL_law_1288 : decode cL_law 1288 = .ok (.iload 4, 2) := by decide +kernel
theorem dL_law_1290 : decode cL_law 1290 = .ok (.iconst 2, 1) := by decide +kernel
theorem dL_law_1291 : decode cL_law 1291 = .ok (.iadd, 1) := by decide +kernel
theorem dL_law_1292 : decode cL_law 1292 = .ok (.iaload, 1) := by decide +kernel
theorem dL_law_1293 : decode cL_law 1293 = .ok (.invokevirtual 185, 3) := by decide +kernel
theorem dL_law_1296 : decode cL_law 1296 = .ok (.istore 6, 2) := by decide +kernel
theorem dL_law_1298 : decode cL_law 1298 = .ok (.aload_n 2, 1) := by decide +kernel
theorem dL_law_1299 : decode cL_law 1299 = .ok (.invokevirtual 96, 3) := by decide +kernel
theorem dL_law_1302 : decode cL_law 1302 = .ok (.iload 5, 2) := by decide +kernel
theorem dL_law_1304 : decode cL_law 1304 = .ok (.if_icmp .eq 5, 3) := by decide +kernel
theorem dL_law_1307 : decode cL_law 1307 = .ok (.iconst 0, 1) := by decide +kernel
theorem dL_law_1308 : decode cL_law 1308 = .ok (.ireturn, 1) := by decide +kernel
theorem dL_law_1309 : decode cL_law 1309 = .ok (.iload 5, 2) := by decide +kernel
theorem dL_law_1311 : decode cL_law 1311 = .ok (.ifCond .ne 15, 3) := by decide +kernel
theorem dL_law_1314 : decode cL_law 1314 = .ok (.aload_n 3, 1) := by decide +kernel
theorem dL_law_1315 : decode cL_law 1315 = .ok (.iconst 0, 1) := by decide +kernel
theorem dL_law_1316 : decode cL_law 1316 = .ok (.laload, 1) := by decide +kernel
theorem dL_law_1317 : decode cL_law 1317 = .ok (.iload 6, 2) := by decide +kernel
theorem dL_law_1319 : decode cL_law 1319 = .ok (.i2l, 1) := by decide +kernel
theorem dL_law_1320 : decode cL_law 1320 = .ok (.lcmp, 1) := by decide +kernel
theorem dL_law_1321 : decode cL_law 1321 = .ok (.ifCond .eq 5, 3) := by decide +kernel
theorem dL_law_1324 : decode cL_law 1324 = .ok (.iconst 0, 1) := by decide +kernel
theorem dL_law_1325 : decode cL_law 1325 = .ok (.ireturn, 1) := by decide +kernel
theorem dL_law_1326 : decode cL_law 1326 = .ok (.goto 266, 3) := by decide +kernel
theorem dL_law_1329 : decode cL_law 1329 = .ok (.aload_n 1, 1) := by decide +kernel
theorem dL_law_1330 : decode cL_law 1330 = .ok (.aload_n 0, 1) := by decide +kernel
theorem dL_law_1331 : decode cL_law 1331 = .ok (.iload 4, 2) := by decide +kernel
theorem dL_law_1333 : decode cL_law 1333 = .ok (.iconst 1, 1) := by decide +kernel
theorem dL_law_1334 : decode cL_law 1334 = .ok (.iadd, 1) := by decide +kernel
theorem dL_law_1335 : decode cL_law 1335 = .ok (.iaload, 1) := by decide +kernel
theorem dL_law_1336 : decode cL_law 1336 = .ok (.aload_n 3, 1) := by decide +kernel
theorem dL_law_1337 : decode cL_law 1337 = .ok (.invokestatic 186, 3) := by decide +kernel
theorem dL_law_1340 : decode cL_law 1340 = .ok (.istore 5, 2) := by decide +kernel
theorem dL_law_1342 : decode cL_law 1342 = .ok (.aload_n 2, 1) := by decide +kernel
theorem dL_law_1343 : decode cL_law 1343 = .ok (.aload_n 0, 1) := by decide +kernel
theorem dL_law_1344 : decode cL_law 1344 = .ok (.iload 4, 2) := by decide +kernel
theorem dL_law_1346 : decode cL_law 1346 = .ok (.iconst 1, 1) := by decide +kernel
theorem dL_law_1347 : decode cL_law 1347 = .ok (.iadd, 1) := by decide +kernel
theorem dL_law_1348 : decode cL_law 1348 = .ok (.iaload, 1) := by decide +kernel
theorem dL_law_1349 : decode cL_law 1349 = .ok (.invokevirtual 188, 3) := by decide +kernel
theorem dL_law_1352 : decode cL_law 1352 = .ok (.istore 6, 2) := by decide +kernel
theorem dL_law_1354 : decode cL_law 1354 = .ok (.aload_n 2, 1) := by decide +kernel
theorem dL_law_1355 : decode cL_law 1355 = .ok (.invokevirtual 96, 3) := by decide +kernel
theorem dL_law_1358 : decode cL_law 1358 = .ok (.iload 5, 2) := by decide +kernel
theorem dL_law_1360 : decode cL_law 1360 = .ok (.if_icmp .eq 5, 3) := by decide +kernel
theorem dL_law_1363 : decode cL_law 1363 = .ok (.iconst 0, 1) := by decide +kernel
theorem dL_law_1364 : decode cL_law 1364 = .ok (.ireturn, 1) := by decide +kernel
theorem dL_law_1365 : decode cL_law 1365 = .ok (.iload 5, 2) := by decide +kernel
theorem dL_law_1367 : decode cL_law 1367 = .ok (.ifCond .ne 15, 3) := by decide +kernel
theorem dL_law_1370 : decode cL_law 1370 = .ok (.aload_n 3, 1) := by decide +kernel
theorem dL_law_1371 : decode cL_law 1371 = .ok (.iconst 0, 1) := by decide +kernel
theorem dL_law_1372 : decode cL_law 1372 = .ok (.laload, 1) := by decide +kernel
theorem dL_law_1373 : decode cL_law 1373 = .ok (.iload 6, 2) := by decide +kernel
theorem dL_law_1375 : decode cL_law 1375 = .ok (.i2l, 1) := by decide +kernel
theorem dL_law_1376 : decode cL_law 1376 = .ok (.lcmp, 1) := by decide +kernel
theorem dL_law_1377 : decode cL_law 1377 = .ok (.ifCond .eq 5, 3) := by decide +kernel
theorem dL_law_1380 : decode cL_law 1380 = .ok (.iconst 0, 1) := by decide +kernel
theorem dL_law_1381 : decode cL_law 1381 = .ok (.ireturn, 1) := by decide +kernel
theorem dL_law_1382 : decode cL_law 1382 = .ok (.goto 210, 3) := by decide +kernel
theorem dL_law_1385 : decode cL_law 1385 = .ok (.aload_n 1, 1) := by decide +kernel
theorem dL_law_1386 : decode cL_law 1386 = .ok (.aload_n 0, 1) := by decide +kernel
theorem dL_law_1387 : decode cL_law 1387 = .ok (.iload 4, 2) := by decide +kernel
theorem dL_law_1389 : decode cL_law 1389 = .ok (.iconst 1, 1) := by decide +kernel
theorem dL_law_1390 : decode cL_law 1390 = .ok (.iadd, 1) := by decide +kernel
theorem dL_law_1391 : decode cL_law 1391 = .ok (.iaload, 1) := by decide +kernel
theorem dL_law_1392 : decode cL_law 1392 = .ok (.aload_n 3, 1) := by decide +kernel
theorem dL_law_1393 : decode cL_law 1393 = .ok (.invokestatic 189, 3) := by decide +kernel
theorem dL_law_1396 : decode cL_law 1396 = .ok (.istore 5, 2) := by decide +kernel
theorem dL_law_1398 : decode cL_law 1398 = .ok (.aload_n 2, 1) := by decide +kernel
theorem dL_law_1399 : decode cL_law 1399 = .ok (.aload_n 0, 1) := by decide +kernel
theorem dL_law_1400 : decode cL_law 1400 = .ok (.iload 4, 2) := by decide +kernel
theorem dL_law_1402 : decode cL_law 1402 = .ok (.iconst 1, 1) := by decide +kernel
theorem dL_law_1403 : decode cL_law 1403 = .ok (.iadd, 1) := by decide +kernel
theorem dL_law_1404 : decode cL_law 1404 = .ok (.iaload, 1) := by decide +kernel
theorem dL_law_1405 : decode cL_law 1405 = .ok (.invokevirtual 191, 3) := by decide +kernel
theorem dL_law_1408 : decode cL_law 1408 = .ok (.istore 6, 2) := by decide +kernel
theorem dL_law_1410 : decode cL_law 1410 = .ok (.aload_n 2, 1) := by decide +kernel
theorem dL_law_1411 : decode cL_law 1411 = .ok (.invokevirtual 96, 3) := by decide +kernel
theorem dL_law_1414 : decode cL_law 1414 = .ok (.iload 5, 2) := by decide +kernel
theorem dL_law_1416 : decode cL_law 1416 = .ok (.if_icmp .eq 5, 3) := by decide +kernel
theorem dL_law_1419 : decode cL_law 1419 = .ok (.iconst 0, 1) := by decide +kernel
theorem dL_law_1420 : decode cL_law 1420 = .ok (.ireturn, 1) := by decide +kernel
theorem dL_law_1421 : decode cL_law 1421 = .ok (.iload 5, 2) := by decide +kernel
theorem dL_law_1423 : decode cL_law 1423 = .ok (.ifCond .ne 15, 3) := by decide +kernel
theorem dL_law_1426 : decode cL_law 1426 = .ok (.aload_n 3, 1) := by decide +kernel
theorem dL_law_1427 : decode cL_law 1427 = .ok (.iconst 0, 1) := by decide +kernel
theorem dL_law_1428 : decode cL_law 1428 = .ok (.laload, 1) := by decide +kernel
theorem dL_law_1429 : decode cL_law 1429 = .ok (.iload 6, 2) := by decide +kernel
theorem dL_law_1431 : decode cL_law 1431 = .ok (.i2l, 1) := by decide +kernel
theorem dL_law_1432 : decode cL_law 1432 = .ok (.lcmp, 1) := by decide +kernel
theorem dL_law_1433 : decode cL_law 1433 = .ok (.ifCond .eq 5, 3) := by decide +kernel
theorem dL_law_1436 : decode cL_law 1436 = .ok (.iconst 0, 1) := by decide +kernel
theorem dL_law_1437 : decode cL_law 1437 = .ok (.ireturn, 1) := by decide +kernel
theorem dL_law_1438 : decode cL_law 1438 = .ok (.goto 154, 3) := by decide +kernel
theorem dL_law_1441 : decode cL_law 1441 = .ok (.aload_n 1, 1) := by decide +kernel
theorem dL_law_1442 : decode cL_law 1442 = .ok (.aload_n 0, 1) := by decide +kernel
theorem dL_law_1443 : decode cL_law 1443 = .ok (.iload 4, 2) := by decide +kernel
theorem dL_law_1445 : decode cL_law 1445 = .ok (.iconst 1, 1) := by decide +kernel
theorem dL_law_1446 : decode cL_law 1446 = .ok (.iadd, 1) := by decide +kernel
theorem dL_law_1447 : decode cL_law 1447 = .ok (.iaload, 1) := by decide +kernel
theorem dL_law_1448 : decode cL_law 1448 = .ok (.aload_n 3, 1) := by decide +kernel
theorem dL_law_1449 : decode cL_law 1449 = .ok (.invokestatic 192, 3) := by decide +kernel
theorem dL_law_1452 : decode cL_law 1452 = .ok (.istore 5, 2) := by decide +kernel
theorem dL_law_1454 : decode cL_law 1454 = .ok (.aload_n 2, 1) := by decide +kernel
theorem dL_law_1455 : decode cL_law 1455 = .ok (.aload_n 0, 1) := by decide +kernel
theorem dL_law_1456 : decode cL_law 1456 = .ok (.iload 4, 2) := by decide +kernel
theorem dL_law_1458 : decode cL_law 1458 = .ok (.iconst 1, 1) := by decide +kernel
theorem dL_law_1459 : decode cL_law 1459 = .ok (.iadd, 1) := by decide +kernel
theorem dL_law_1460 : decode cL_law 1460 = .ok (.iaload, 1) := by decide +kernel
theorem dL_law_1461 : decode cL_law 1461 = .ok (.invokevirtual 194, 3) := by decide +kernel
theorem dL_law_1464 : decode cL_law 1464 = .ok (.istore 6, 2) := by decide +kernel
theorem dL_law_1466 : decode cL_law 1466 = .ok (.aload_n 2, 1) := by decide +kernel
theorem dL_law_1467 : decode cL_law 1467 = .ok (.invokevirtual 96, 3) := by decide +kernel
theorem dL_law_1470 : decode cL_law 1470 = .ok (.iload 5, 2) := by decide +kernel
theorem dL_law_1472 : decode cL_law 1472 = .ok (.if_icmp .eq 5, 3) := by decide +kernel
theorem dL_law_1475 : decode cL_law 1475 = .ok (.iconst 0, 1) := by decide +kernel
theorem dL_law_1476 : decode cL_law 1476 = .ok (.ireturn, 1) := by decide +kernel
theorem dL_law_1477 : decode cL_law 1477 = .ok (.iload 5, 2) := by decide +kernel
theorem dL_law_1479 : decode cL_law 1479 = .ok (.ifCond .ne 15, 3) := by decide +kernel
theorem dL_law_1482 : decode cL_law 1482 = .ok (.aload_n 3, 1) := by decide +kernel
theorem dL_law_1483 : decode cL_law 1483 = .ok (.iconst 0, 1) := by decide +kernel
theorem dL_law_1484 : decode cL_law 1484 = .ok (.laload, 1) := by decide +kernel
theorem dL_law_1485 : decode cL_law 1485 = .ok (.iload 6, 2) := by decide +kernel
theorem dL_law_1487 : decode cL_law 1487 = .ok (.i2l, 1) := by decide +kernel
theorem dL_law_1488 : decode cL_law 1488 = .ok (.lcmp, 1) := by decide +kernel
theorem dL_law_1489 : decode cL_law 1489 = .ok (.ifCond .eq 5, 3) := by decide +kernel
theorem dL_law_1492 : decode cL_law 1492 = .ok (.iconst 0, 1) := by decide +kernel
theorem dL_law_1493 : decode cL_law 1493 = .ok (.ireturn, 1) := by decide +kernel
theorem dL_law_1494 : decode cL_law 1494 = .ok (.goto 98, 3) := by decide +kernel
theorem dL_law_1497 : decode cL_law 1497 = .ok (.aload_n 1, 1) := by decide +kernel
theorem dL_law_1498 : decode cL_law 1498 = .ok (.aload_n 0, 1) := by decide +kernel
theorem dL_law_1499 : decode cL_law 1499 = .ok (.iload 4, 2) := by decide +kernel
theorem dL_law_1501 : decode cL_law 1501 = .ok (.iconst 1, 1) := by decide +kernel
theorem dL_law_1502 : decode cL_law 1502 = .ok (.iadd, 1) := by decide +kernel
theorem dL_law_1503 : decode cL_law 1503 = .ok (.iaload, 1) := by decide +kernel
theorem dL_law_1504 : decode cL_law 1504 = .ok (.aload_n 3, 1) := by decide +kernel
theorem dL_law_1505 : decode cL_law 1505 = .ok (.invokestatic 195, 3) := by decide +kernel
theorem dL_law_1508 : decode cL_law 1508 = .ok (.istore 5, 2) := by decide +kernel
theorem dL_law_1510 : decode cL_law 1510 = .ok (.aload_n 2, 1) := by decide +kernel
theorem dL_law_1511 : decode cL_law 1511 = .ok (.aload_n 0, 1) := by decide +kernel
theorem dL_law_1512 : decode cL_law 1512 = .ok (.iload 4, 2) := by decide +kernel
theorem dL_law_1514 : decode cL_law 1514 = .ok (.iconst 1, 1) := by decide +kernel
theorem dL_law_1515 : decode cL_law 1515 = .ok (.iadd, 1) := by decide +kernel
theorem dL_law_1516 : decode cL_law 1516 = .ok (.iaload, 1) := by decide +kernel
theorem dL_law_1517 : decode cL_law 1517 = .ok (.invokevirtual 197, 3) := by decide +kernel
theorem dL_law_1520 : decode cL_law 1520 = .ok (.istore 6, 2) := by decide +kernel
theorem dL_law_1522 : decode cL_law 1522 = .ok (.aload_n 2, 1) := by decide +kernel
theorem dL_law_1523 : decode cL_law 1523 = .ok (.invokevirtual 96, 3) := by decide +kernel
theorem dL_law_1526 : decode cL_law 1526 = .ok (.iload 5, 2) := by decide +kernel
theorem dL_law_1528 : decode cL_law 1528 = .ok (.if_icmp .eq 5, 3) := by decide +kernel
theorem dL_law_1531 : decode cL_law 1531 = .ok (.iconst 0, 1) := by decide +kernel
theorem dL_law_1532 : decode cL_law 1532 = .ok (.ireturn, 1) := by decide +kernel
theorem dL_law_1533 : decode cL_law 1533 = .ok (.iload 5, 2) := by decide +kernel
theorem dL_law_1535 : decode cL_law 1535 = .ok (.ifCond .ne 15, 3) := by decide +kernel
theorem dL_law_1538 : decode cL_law 1538 = .ok (.aload_n 3, 1) := by decide +kernel
theorem dL_law_1539 : decode cL_law 1539 = .ok (.iconst 0, 1) := by decide +kernel
theorem dL_law_1540 : decode cL_law 1540 = .ok (.laload, 1) := by decide +kernel
theorem dL_law_1541 : decode cL_law 1541 = .ok (.iload 6, 2) := by decide +kernel
theorem dL_law_1543 : decode cL_law 1543 = .ok (.i2l, 1) := by decide +kernel
theorem dL_law_1544 : decode cL_law 1544 = .ok (.lcmp, 1) := by decide +kernel
theorem dL_law_1545 : decode cL_law 1545 = .ok (.ifCond .eq 5, 3) := by decide +kernel
theorem dL_law_1548 : decode cL_law 1548 = .ok (.iconst 0, 1) := by decide +kernel
theorem dL_law_1549 : decode cL_law 1549 = .ok (.ireturn, 1) := by decide +kernel
theorem dL_law_1550 : decode cL_law 1550 = .ok (.goto 42, 3) := by decide +kernel
theorem dL_law_1553 : decode cL_law 1553 = .ok (.aload_n 1, 1) := by decide +kernel
theorem dL_law_1554 : decode cL_law 1554 = .ok (.invokevirtual 198, 3) := by decide +kernel
theorem dL_law_1557 : decode cL_law 1557 = .ok (.aload_n 2, 1) := by decide +kernel
theorem dL_law_1558 : decode cL_law 1558 = .ok (.invokevirtual 201, 3) := by decide +kernel
theorem dL_law_1561 : decode cL_law 1561 = .ok (.if_icmp .eq 31, 3) := by decide +kernel
theorem dL_law_1564 : decode cL_law 1564 = .ok (.iconst 0, 1) := by decide +kernel
theorem dL_law_1565 : decode cL_law 1565 = .ok (.ireturn, 1) := by decide +kernel
theorem dL_law_1566 : decode cL_law 1566 = .ok (.aload_n 1, 1) := by decide +kernel
theorem dL_law_1567 : decode cL_law 1567 = .ok (.invokevirtual 202, 3) := by decide +kernel
theorem dL_law_1570 : decode cL_law 1570 = .ok (.aload_n 2, 1) := by decide +kernel
theorem dL_law_1571 : decode cL_law 1571 = .ok (.invokevirtual 205, 3) := by decide +kernel
theorem dL_law_1574 : decode cL_law 1574 = .ok (.if_icmp .eq 18, 3) := by decide +kernel
theorem dL_law_1577 : decode cL_law 1577 = .ok (.iconst 0, 1) := by decide +kernel
theorem dL_law_1578 : decode cL_law 1578 = .ok (.ireturn, 1) := by decide +kernel
theorem dL_law_1579 : decode cL_law 1579 = .ok (.aload_n 1, 1) := by decide +kernel
theorem dL_law_1580 : decode cL_law 1580 = .ok (.invokevirtual 206, 3) := by decide +kernel
theorem dL_law_1583 : decode cL_law 1583 = .ok (.aload_n 2, 1) := by decide +kernel
theorem dL_law_1584 : decode cL_law 1584 = .ok (.invokevirtual 209, 3) := by decide +kernel
theorem dL_law_1587 : decode cL_law 1587 = .ok (.if_icmp .eq 5, 3) := by decide +kernel
theorem dL_law_1590 : decode cL_law 1590 = .ok (.iconst 0, 1) := by decide +kernel
theorem dL_law_1591 : decode cL_law 1591 = .ok (.ireturn, 1) := by decide +kernel
theorem dL_law_1592 : decode cL_law 1592 = .ok (.iinc 4 3, 3) := by decide +kernel
theorem dL_law_1595 : decode cL_law 1595 = .ok (.goto (-1572), 3) := by decide +kernel
theorem dL_law_1598 : decode cL_law 1598 = .ok (.iconst 1, 1) := by decide +kernel
theorem dL_law_1599 : decode cL_law 1599 = .ok (.ireturn, 1) := by decide +kernel
end
section
def gx_strs : List (Nat × String) := [(59, "not a letter a to z, '/', '*' or '?'"), (70, "the text is full"), (280, "the content is not 0 to 9999"), (94, "the text is no path"), (104, "the file is there"), (107, "there are 24 files"), (287, "there is no such file, or it is deleted"), (285, "there is no such file"), (132, "the text is no glob"), (142, "the cost is not 1 to 1000"), (145, "there are 16 targets"), (290, "there is no such target"), (163, "the target has 4 globs"), (186, "it depends on the other one already"), (191, "both are the same, or the other one is above"), (199, "there are not so many targets"), (229, "a target on which it depends needs to run"), (234, "200 keys were given"), (239, "more than 200 keys would be given"), (292, "the shards are not 1 to 8"), (257, "the limit is not 1 to 16000"), (259, "there is no such owner"), (262, "there are 12 rules")]
def gx_nst : List (String × Nat × MethodName) := [(RX7, 9, yX6_init), (RX0, 24, yX6_init), (RX1, 31, yX6_init), (RX7, 41, yX5_init), (RX7, 48, yX4_init), (RX2, 42, yX7_holds), (RX3, 97, yX7_holds), (RX0, 36, yX7_holds), (RX1, 43, yX7_holds), (RX4, 47, yX7_holds), (RX6, 42, yX7_holds), (RX5, 52, yX7_holds)]
end
section
/-! ONE MEMORY FOR ALL. Every cell that the law's run keeps has a number k < 499; what it holds that can change is a row of ints, C k (the class's side) or M k (the reference's); what it refers to never changes. gx_W says: the heap holds the cells of C and M. -/
def TsG : List Cond := lw_tbl.filter goodWord
theorem TsG_of {w : Cond} (h : w ∈ lw_tbl) (hg : goodWord w = true) : w ∈ TsG := List.mem_filter.mpr ⟨h, hg⟩
theorem TsG_t {w : Cond} (h : w ∈ tables_1) (hg : goodWord w = true) : w ∈ TsG := TsG_of (List.mem_append_right _ h) hg
theorem TsG_s {q : MethodName × Nat} (h : q ∈ lw_privs) : Cond.selects q.1.cls q.1 q.1 ∈ TsG := TsG_of (List.mem_append_left _ (List.mem_map.mpr ⟨q, h, rfl⟩)) rfl
theorem TsG_g {w : Cond} (h : w ∈ TsG) : (w.onTables && w.keeps) = true ∨ ∃ ty, w = .arrayClass ty := good_of_word (List.mem_filter.mp h).2
theorem TsG_l {w : Cond} (h : w ∈ TsG) : w ∈ lw_tbl := (List.mem_filter.mp h).1
theorem gi_all {big ws : List Cond} (h : ∀ w ∈ ws, w ∈ TsG) (h2 : ∀ w ∈ TsG, w ∈ big) : GoodIn big ws := fun w hw => ⟨h2 w (h w hw), TsG_g (h w hw)⟩
/-- what is to be known of a method that is called: its words are among the tables' -/
def Pk (y : MethodName) (bytes : ByteArray) (maxL : Nat) (ret : Option FieldType) (n : Nat) : Prop :=
  Cond.code y bytes maxL ret ∈ TsG ∧ Cond.initialized y.cls ∈ TsG ∧ y.cls ≠ "java/lang/invoke/MethodHandle" ∧ y.cls ≠ "java/lang/invoke/VarHandle" ∧ (parseMethodDescriptor y.desc).map (fun d => d.parameters.length) = some n
def PkV (y : MethodName) (bytes : ByteArray) (maxL : Nat) (ret : Option FieldType) (n : Nat) : Prop :=
  Pk y bytes maxL ret n ∧ Cond.instanceMethod y ∈ TsG ∧ Cond.selects y.cls y y ∈ TsG
def PkS (y : MethodName) (bytes : ByteArray) (maxL : Nat) (ret : Option FieldType) (n : Nat) : Prop :=
  Pk y bytes maxL ret n ∧ Cond.static y ∈ TsG
/-! the memory -/
abbrev Mem : Type := Nat → Nat → Int32
def mset (C : Mem) (k j : Nat) (x : Int32) : Mem := fun k' => if k' = k then upd (C k) j x else C k'
/-- the addresses, the array classes, the classes' numbers and slots, the lowest address of ours -/
abbrev gx_G : Type := (Nat → Nat) × (Nat → ClassId) × va_G × Nat
/-- what kind of cell k is -/
def shp (k : Nat) : Nat :=
  if k < 55 then (if k < 7 then (if k = 0 then 4 else if k = 1 then 1 else if k = 2 then 2 else if k = 3 then 5 else if k = 4 then 6 else 3) else if k % 2 = 1 then 1 else 2)
  else if k < 60 then (if k = 55 then 7 else if k = 58 then 8 else 3)
  else if k < 236 then (if (k - 60) % 11 = 0 then 9 else if (k - 60) % 11 = 1 then 10 else if (k - 60) % 11 = 2 then 3 else if (k - 60) % 11 % 2 = 1 then 1 else 2)
  else if k < 443 then (if k = 236 then 11 else if k = 237 then 12 else 3)
  else if k < 475 then (if k = 443 then 13 else if k = 446 then 14 else if k = 448 then 9 else if k = 449 then 10 else if k < 451 then 3 else if k % 2 = 1 then 1 else 2)
  else if k < 499 then (if k = 475 then 16 else if k = 480 then 17 else if k = 482 then 17 else if k = 498 then 18 else 19)
  else 0
/-- how long the row k is -/
def ln (k : Nat) : Nat :=
  if k < 55 then 24
  else if k < 60 then 16
  else if k < 236 then (if (k - 60) % 11 < 3 then 4 else 24)
  else if k < 239 then 201
  else if k < 241 then 16
  else if k < 443 then 40
  else if k < 475 then (if k = 444 then 8 else if k = 445 then 16 else if k < 451 then 12 else 24)
  else if k < 484 then (if k = 476 then 1848 else if k = 477 then 77 else if k = 478 then 576 else 24)
  else if k < 488 then 16
  else if k < 492 then (if k = 488 then 12 else 200)
  else if k < 494 then (if k = 492 then 4800 else 3200)
  else if k = 496 then 8 else if k = 498 then 1 else 16
def gx_cc (Γ : gx_G) (k : Nat) (v w : Nat → Int32) : va_E := match shp k with
  | 1 => .inr (6, [.ref (Γ.1 (k + 1)), .int (v 1)])
  | 2 => .inl (Γ.2.1 0, 24, .inl v)
  | 3 => .inl (Γ.2.1 1, ln k, .inl v)
  | 4 => .inr (7, [.ref (Γ.1 1), .ref (Γ.1 3), .ref (Γ.1 55), .ref (Γ.1 236), .ref (Γ.1 443), .ref (Γ.1 446)])
  | 5 => .inr (0, [.ref (Γ.1 4), .ref (Γ.1 5), .ref (Γ.1 6), .int (v 3), .int (v 4), .int (v 5)])
  | 6 => .inl (Γ.2.1 4, 24, .inr (.inr (.inr (.inr (fun i => some (Γ.1 (7 + 2 * i)))))))
  | 7 => .inr (2, [.ref (Γ.1 56), .ref (Γ.1 57), .ref (Γ.1 58), .ref (Γ.1 59), .int (v 4)])
  | 8 => .inl (Γ.2.1 5, 16, .inr (.inr (.inr (.inr (fun i => some (Γ.1 (60 + 11 * i)))))))
  | 9 => .inr (1, [.ref (Γ.1 (k + 1)), .ref (Γ.1 (k + 2)), .int (v 2), .int (v 3)])
  | 10 => .inl (Γ.2.1 4, ln k, .inr (.inr (.inr (.inr (fun i => some (Γ.1 (k + 2 + 2 * i)))))))
  | 11 => .inr (3, [.ref (Γ.1 3), .ref (Γ.1 55), .ref (Γ.1 237), .ref (Γ.1 238), .ref (Γ.1 239), .ref (Γ.1 240), .ref (Γ.1 241), .int (v 7)])
  | 12 => .inl (Γ.2.1 6, 201, .inr (.inr (.inr (.inr (fun i => some (Γ.1 (242 + i)))))))
  | 13 => .inr (5, [.ref (Γ.1 444), .ref (Γ.1 445)])
  | 14 => .inr (4, [.ref (Γ.1 448), .ref (Γ.1 447)])
  | 16 => .inr (8, [.ref (Γ.1 476), .ref (Γ.1 477), .int (w 2), .ref (Γ.1 478), .ref (Γ.1 479), .ref (Γ.1 480), .ref (Γ.1 481), .ref (Γ.1 482), .ref (Γ.1 483), .int (w 9), .ref (Γ.1 484), .ref (Γ.1 485), .ref (Γ.1 486), .ref (Γ.1 487), .int (w 14), .ref (Γ.1 488), .int (w 16), .ref (Γ.1 489), .ref (Γ.1 490), .ref (Γ.1 491), .ref (Γ.1 492), .ref (Γ.1 493), .ref (Γ.1 494), .ref (Γ.1 495), .ref (Γ.1 496), .ref (Γ.1 497), .int (w 26)])
  | 17 => .inl (Γ.2.1 2, ln k, .inl w)
  | 18 => .inl (Γ.2.1 3, 1, .inr (.inl (fun j => (w j).toInt64)))
  | _ => .inl (Γ.2.1 1, ln k, .inl w)
def gx_ws (Γ : gx_G) (C M : Mem) : va_W := (List.range 499).map (fun k => (Γ.1 k, gx_cc Γ k (C k) (M k)))
def gx_W (Γ : gx_G) (C M : Mem) (H : Heap) : Prop := va_P Γ.2.2.1 vwCl (gx_ws Γ C M) H
def gx_tys (Γ : gx_G) : List (ClassId × FieldType) := [(Γ.2.1 0, .char), (Γ.2.1 1, .int), (Γ.2.1 2, .boolean), (Γ.2.1 3, .long), (Γ.2.1 4, .object "Monobuild$Text"), (Γ.2.1 5, .object "Monobuild$Globs"), (Γ.2.1 6, .array .int)]
def gA (Γ : gx_G) : Nat → Prop := fun q => Γ.2.2.2 ≤ q
def gx_I (Γ : gx_G) : Prop := (∀ i j : Nat, i < 499 → j < 499 → Γ.1 i = Γ.1 j → i = j) ∧ ∀ k : Nat, k < 499 → Γ.2.2.2 ≤ Γ.1 k
/-- what a throw needs of the machine -/
def gx_T (Γ : gx_G) (U : State) : Prop := vx_Zq Bundle.tN "UNASSIGNED_STACK" Bundle.steD (gA Γ) U U.heap ∧ vx_Zq Bundle.tN "SUPPRESSED_SENTINEL" Bundle.listD (gA Γ) U U.heap ∧ ∀ q ∈ gx_strs, ∃ sa, vk_R RX7 q.1 q.2 sa U
def gx_N (U : State) : Prop := ∀ q ∈ gx_nst, va_Nw (.methodLinkNest q.1 q.2.1 q.2.2 RX7) U
def gx_K (Γ : gx_G) (U : State) : Prop := va_K Γ.2.2.1 vwCl (gx_tys Γ) U ∧ gx_I Γ ∧ Γ.2.2.2 ≤ U.heap.size ∧ gx_T Γ U ∧ gx_N U
def gx_P (Γ : gx_G) (C M : Mem) (U : State) : Prop := gx_K Γ U ∧ gx_W Γ C M U.heap
theorem gx_at {Γ : gx_G} {C M : Mem} {k : Nat} (hk : k < 499) : (gx_ws Γ C M)[k]? = some (Γ.1 k, gx_cc Γ k (C k) (M k)) := by simp [gx_ws, hk]
theorem gx_at_c {Γ : gx_G} {C M : Mem} {k : Nat} {e : va_E} (hk : k < 499) (he : gx_cc Γ k (C k) (M k) = e) : (gx_ws Γ C M)[k]? = some (Γ.1 k, e) := by rw [← he]; exact gx_at hk
theorem gx_setC {Γ : gx_G} {C M : Mem} {k : Nat} (hk : k < 499) (v : Nat → Int32) : (gx_ws Γ C M).set k (Γ.1 k, gx_cc Γ k v (M k)) = gx_ws Γ (fun k' => if k' = k then v else C k') M := by
  apply List.ext_getElem?
  intro i
  rw [List.getElem?_set]
  by_cases h : k = i
  · subst h
    simp [gx_ws, hk]
  · by_cases hi : i < 499
    · simp [gx_ws, h, hi, Ne.symm h]
    · simp [gx_ws, h, hi]
theorem gx_setM {Γ : gx_G} {C M : Mem} {k : Nat} (hk : k < 499) (v : Nat → Int32) : (gx_ws Γ C M).set k (Γ.1 k, gx_cc Γ k (C k) v) = gx_ws Γ C (fun k' => if k' = k then v else M k') := by
  apply List.ext_getElem?
  intro i
  rw [List.getElem?_set]
  by_cases h : k = i
  · subst h
    simp [gx_ws, hk]
  · by_cases hi : i < 499
    · simp [gx_ws, h, hi, Ne.symm h]
    · simp [gx_ws, h, hi]
theorem gx_D {Γ : gx_G} (C M : Mem) (h : gx_I Γ) : va_D (gA Γ) (gx_ws Γ C M) := by
  have key : ∀ (k : Nat) (q : Nat × va_E), (gx_ws Γ C M)[k]? = some q → k < 499 ∧ q.1 = Γ.1 k := by
    intro k q hq
    by_cases hk : k < 499
    · rw [gx_at hk] at hq
      cases hq
      exact ⟨hk, rfl⟩
    · simp [gx_ws, hk] at hq
  refine ⟨fun i j p q hp hq hpq => ?_, fun k q hq => ?_⟩
  · obtain ⟨hi, e1⟩ := key i p hp
    obtain ⟨hj, e2⟩ := key j q hq
    exact h.1 i j hi hj (by rw [← e1, ← e2]; exact hpq)
  · obtain ⟨hk, e1⟩ := key k q hq
    show Γ.2.2.2 ≤ q.1
    rw [e1]
    exact h.2 k hk
theorem gx_K_blind {Γ : gx_G} {U : State} {a : Array Value} {g : JFrame} {mk : MethodId} (h : gx_K Γ U) : gx_K Γ (U.calling g mk a) := by
  obtain ⟨h1, h2, h3, ⟨h4, h5, h6⟩, h7⟩ := h
  refine ⟨va_K.moved (u := U) (U := U.calling g mk a) (Vm.Alike.refl U.vm) h1, h2, h3, ⟨vx_Zq.moved (u := U) (U := U.calling g mk a) (Vm.Alike.refl U.vm) h4, vx_Zq.moved (u := U) (U := U.calling g mk a) (Vm.Alike.refl U.vm) h5, fun q hq => ?_⟩, fun q hq => ?_⟩
  · obtain ⟨sa, hs⟩ := h6 q hq
    exact ⟨sa, vk_R.same (u := U) (U := U.calling g mk a) rfl hs⟩
  · exact va_Nw.same (u := U) (U := U.calling g mk a) rfl rfl (h7 q hq)
theorem gx_P_blind {Γ : gx_G} {C M : Mem} (av : List Value) : FrameBlind (va_Pc av (gx_P Γ C M)) := fun _ _ _ _ h => ⟨h.1, gx_K_blind h.2.1, h.2.2⟩
theorem gx_K_on {Γ : gx_G} {s U : State} {H : Heap} {locs : List Loc} (h : gx_K Γ s) (hS : va_S (gA Γ) s.heap H locs) (hU : U.heap = H) (hW : s.WarmedH U.vm) : gx_K Γ U := by
  obtain ⟨h1, h2, h3, ⟨h4, h5, h6⟩, h7⟩ := h
  have kp : ∀ a : Nat, a < s.heap.size → ¬ gA Γ a → U.heap[a]? = s.heap[a]? := fun a ha hn => by rw [hU]; exact hS.2.1 a ha hn
  refine ⟨va_K.moved hW.alike h1, h2, Nat.le_trans h3 (by rw [hU]; exact hS.1), ⟨vx_Zq.moved hW.alike (vx_Zq.kept h4 kp), vx_Zq.moved hW.alike (vx_Zq.kept h5 kp), fun q hq => ?_⟩, fun q hq => ?_⟩
  · obtain ⟨sa, hs⟩ := h6 q hq
    exact ⟨sa, vk_R.warm hW hs⟩
  · exact va_Nw.warmM hW (h7 q hq)
theorem gx_A {Γ : gx_G} {s : State} (h : gx_K Γ s) : ∀ q : Nat, s.heap.size ≤ q → gA Γ q := fun q hq => Nat.le_trans h.2.2.1 hq
/-! branches of the written functions, and their loops -/
noncomputable def cnd {α : Sort _} (p : Prop) (a b : α) : α := @ite α p (Classical.propDecidable p) a b
theorem cnd_t {α : Sort _} {p : Prop} {a b : α} (h : p) : cnd p a b = a := @if_pos p (Classical.propDecidable p) h α a b
theorem cnd_f {α : Sort _} {p : Prop} {a b : α} (h : ¬ p) : cnd p a b = b := @if_neg p (Classical.propDecidable p) h α a b
theorem cnd_ite {α : Sort _} {p : Prop} [d : Decidable p] {a b : α} : cnd p a b = if p then a else b := by
  by_cases h : p
  · rw [cnd_t h, if_pos h]
  · rw [cnd_f h, if_neg h]
theorem cn_t {α : Type} {p : Prop} {a b r : α} (h : p) (hf : cnd p a b = r) : a = r := (cnd_t h).symm.trans hf
theorem cn_f {α : Type} {p : Prop} {a b r : α} (h : ¬ p) (hf : cnd p a b = r) : b = r := (cnd_f h).symm.trans hf
/-- a check: what the machine would throw at is 'none' -/
noncomputable def chk {α : Type} (p : Prop) (a : Option α) : Option α := cnd p a none
theorem ck_p {α : Type} {p : Prop} {a : Option α} {r : α} (hf : chk p a = some r) : p := by
  by_cases h : p
  · exact h
  · rw [chk, cnd_f h] at hf
    cases hf
theorem ck_r {α : Type} {p : Prop} {a : Option α} {r : α} (hf : chk p a = some r) : a = some r := by
  rw [chk, cnd_t (ck_p hf)] at hf
  exact hf
theorem chk_t {α : Type} {p : Prop} {a : Option α} (h : p) : chk p a = a := cnd_t h
def bnd {α β : Type} (o : Option α) (k : α → Option β) : Option β := match o with
  | none => none
  | some a => k a
theorem bnd_e {α β : Type} {o : Option α} {k : α → Option β} {b : β} (h : bnd o k = some b) : ∃ a, o = some a ∧ k a = some b := by
  cases o with
  | none => cases h
  | some a => exact ⟨a, rfl, h⟩
theorem bnd_s {α β : Type} (a : α) (k : α → Option β) : bnd (some a) k = k a := rfl
/-- a loop's rounds: on with a new state, or out with an answer -/
def lpN {σ ρ : Type} (it : σ → Option (σ ⊕ ρ)) : Nat → σ → Option ρ
  | 0, _ => none
  | n + 1, s => match it s with
    | none => none
    | some (.inl s') => lpN it n s'
    | some (.inr r) => some r
theorem lpN_more {σ ρ : Type} {it : σ → Option (σ ⊕ ρ)} {r : ρ} : ∀ (n k : Nat) (s : σ), lpN it n s = some r → lpN it (n + k) s = some r
  | 0, _, _, h => by cases h
  | n + 1, k, s, h => by
    rw [show n + 1 + k = (n + k) + 1 by omega]
    simp only [lpN] at h ⊢
    cases hi : it s with
    | none => rw [hi] at h; cases h
    | some x =>
      rw [hi] at h
      cases x with
      | inl s' => exact lpN_more n k s' h
      | inr r' => exact h
noncomputable def lp {σ ρ : Type} (it : σ → Option (σ ⊕ ρ)) (s : σ) : Option ρ :=
  @dite (Option ρ) (∃ (n : Nat) (r : ρ), lpN it n s = some r) (Classical.propDecidable _) (fun h => lpN it (Classical.choose h) s) (fun _ => none)
theorem lp_of {σ ρ : Type} {it : σ → Option (σ ⊕ ρ)} {s : σ} {n : Nat} {r : ρ} (h : lpN it n s = some r) : lp it s = some r := by
  have hx : ∃ (n : Nat) (r : ρ), lpN it n s = some r := ⟨n, r, h⟩
  have e : lp it s = lpN it (Classical.choose hx) s := @dif_pos _ (Classical.propDecidable _) hx _ _ _
  obtain ⟨r', h'⟩ := Classical.choose_spec hx
  have h1 := lpN_more _ n _ h'
  have h2 := lpN_more _ (Classical.choose hx) _ h
  rw [Nat.add_comm] at h1
  have : some r = some r' := h2.symm.trans h1
  rw [e, h', this]
theorem lp_to {σ ρ : Type} {it : σ → Option (σ ⊕ ρ)} {s : σ} {r : ρ} (h : lp it s = some r) : ∃ n : Nat, lpN it n s = some r := by
  by_cases hx : ∃ (n : Nat) (r : ρ), lpN it n s = some r
  · have e : lp it s = lpN it (Classical.choose hx) s := @dif_pos _ (Classical.propDecidable _) hx _ _ _
    exact ⟨_, e.symm.trans h⟩
  · have e : lp it s = none := @dif_neg _ (Classical.propDecidable _) hx _ _ _
    rw [e] at h
    cases h
theorem lp_go {σ ρ : Type} {it : σ → Option (σ ⊕ ρ)} {s s' : σ} (h : it s = some (.inl s')) : lp it s = lp it s' := by
  apply Option.ext
  intro r
  constructor
  · intro hr
    obtain ⟨n, hn⟩ := lp_to hr
    cases n with
    | zero => cases hn
    | succ n =>
      simp only [lpN, h] at hn
      exact lp_of hn
  · intro hr
    obtain ⟨n, hn⟩ := lp_to hr
    refine lp_of (n := n + 1) ?_
    simp only [lpN, h]
    exact hn
theorem lp_out {σ ρ : Type} {it : σ → Option (σ ⊕ ρ)} {s : σ} {r : ρ} (h : it s = some (.inr r)) : lp it s = some r := lp_of (n := 1) (by simp only [lpN, h])
theorem lp_ind {σ ρ : Type} {it : σ → Option (σ ⊕ ρ)} {x : ρ} {P : σ → Prop} (h : ∀ (s : σ) (y : σ ⊕ ρ), it s = some y → (∀ s', y = .inl s' → P s') → (∀ x', y = .inr x' → x' = x) → P s) : ∀ s : σ, lp it s = some x → P s := by
  intro s hs
  obtain ⟨n, hn⟩ := lp_to hs
  induction n generalizing s with
  | zero => cases hn
  | succ n ih =>
    simp only [lpN] at hn
    cases hi : it s with
    | none => rw [hi] at hn; cases hn
    | some y =>
      rw [hi] at hn
      refine h s y hi (fun s' e => ?_) (fun x' e => ?_)
      · subst e
        exact ih s' (lp_of hn) hn
      · subst e
        exact Option.some.inj hn
/-- out of a loop, with what comes behind it -/
def exR {σ ρ : Type} (o : Option ρ) : Option (σ ⊕ ρ) := bnd o (fun r => some (.inr r))
theorem exR_e {σ ρ : Type} {o : Option ρ} {y : σ ⊕ ρ} (h : exR o = some y) : ∃ r, o = some r ∧ y = .inr r := by
  obtain ⟨r, h1, h2⟩ := bnd_e h
  exact ⟨r, h1, (Option.some.inj h2).symm⟩
theorem lp_exR {σ ρ : Type} {it : σ → Option (σ ⊕ ρ)} {s : σ} {o : Option ρ} {r : ρ} (h : it s = exR o) (ho : o = some r) : lp it s = some r := lp_out (by rw [h, ho]; rfl)
/-! the kinds of cells -/
theorem sh_lt {k : Nat} (h : shp k ≠ 0) : k < 499 := by
  rcases Nat.lt_or_ge k 499 with q | q
  · exact q
  · exact absurd (by unfold shp; simp [show ¬ k < 55 by omega, show ¬ k < 60 by omega, show ¬ k < 236 by omega, show ¬ k < 443 by omega, show ¬ k < 475 by omega, show ¬ k < 499 by omega]) h
theorem sh_lt1 {k : Nat} (h : shp k = 1) : k < 499 := sh_lt (by rw [h]; decide)
theorem sh_lt9 {k : Nat} (h : shp k = 9) : k < 499 := sh_lt (by rw [h]; decide)
theorem sh_t1 {k : Nat} (h : shp k = 1) : shp (k + 1) = 2 := (by decide +kernel : ∀ k, k < 499 → shp k = 1 → shp (k + 1) = 2) k (sh_lt1 h) h
theorem sh_g1 {k : Nat} (h : shp k = 9) : shp (k + 1) = 10 := (by decide +kernel : ∀ k, k < 499 → shp k = 9 → shp (k + 1) = 10) k (sh_lt9 h) h
theorem sh_g2 {k : Nat} (h : shp k = 9) : shp (k + 2) = 3 := (by decide +kernel : ∀ k, k < 499 → shp k = 9 → shp (k + 2) = 3) k (sh_lt9 h) h
theorem ln_g1 {k : Nat} (h : shp k = 9) : ln (k + 1) = ln k := (by decide +kernel : ∀ k, k < 499 → shp k = 9 → ln (k + 1) = ln k) k (sh_lt9 h) h
theorem ln_g2 {k : Nat} (h : shp k = 9) : ln (k + 2) = ln k := (by decide +kernel : ∀ k, k < 499 → shp k = 9 → ln (k + 2) = ln k) k (sh_lt9 h) h
theorem sh_gp {k : Nat} (h : shp k = 9) {j : Nat} (hj : j < ln k) : shp (k + 3 + 2 * j) = 1 := (by decide +kernel : ∀ k, k < 499 → shp k = 9 → ∀ j, j < ln k → shp (k + 3 + 2 * j) = 1) k (sh_lt9 h) h j hj
theorem sh_path {i : Nat} (h : i < 24) : shp (7 + 2 * i) = 1 := (by decide +kernel : ∀ i, i < 24 → shp (7 + 2 * i) = 1) i h
theorem sh_glob {i : Nat} (h : i < 16) : shp (60 + 11 * i) = 9 := (by decide +kernel : ∀ i, i < 16 → shp (60 + 11 * i) = 9) i h
theorem sh_row {i : Nat} (h : i < 201) : shp (242 + i) = 3 := (by decide +kernel : ∀ i, i < 201 → shp (242 + i) = 3) i h
theorem ln_row {i : Nat} (h : i < 201) : ln (242 + i) = 40 := (by decide +kernel : ∀ i, i < 201 → ln (242 + i) = 40) i h
theorem in_lt {x : Int32} {n : Nat} (h : vp_in x n) : x.toNatClampNeg < n := Nat.not_le.mp fun q => h (Or.inr q)
theorem cc_1 {Γ : gx_G} {k : Nat} (h : shp k = 1) (v w : Nat → Int32) : gx_cc Γ k v w = .inr (6, [.ref (Γ.1 (k + 1)), .int (v 1)]) := by simp only [gx_cc, h]
theorem cc_2 {Γ : gx_G} {k : Nat} (h : shp k = 2) (v w : Nat → Int32) : gx_cc Γ k v w = .inl (Γ.2.1 0, 24, .inl v) := by simp only [gx_cc, h]
theorem cc_3 {Γ : gx_G} {k : Nat} (h : shp k = 3) (v w : Nat → Int32) : gx_cc Γ k v w = .inl (Γ.2.1 1, ln k, .inl v) := by simp only [gx_cc, h]
theorem cc_9 {Γ : gx_G} {k : Nat} (h : shp k = 9) (v w : Nat → Int32) : gx_cc Γ k v w = .inr (1, [.ref (Γ.1 (k + 1)), .ref (Γ.1 (k + 2)), .int (v 2), .int (v 3)]) := by simp only [gx_cc, h]
theorem cc_10 {Γ : gx_G} {k : Nat} (h : shp k = 10) (v w : Nat → Int32) : gx_cc Γ k v w = .inl (Γ.2.1 4, ln k, .inr (.inr (.inr (.inr (fun i => some (Γ.1 (k + 2 + 2 * i))))))) := by simp only [gx_cc, h]
theorem cc_17 {Γ : gx_G} {k : Nat} (h : shp k = 17) (v w : Nat → Int32) : gx_cc Γ k v w = .inl (Γ.2.1 2, ln k, .inl w) := by simp only [gx_cc, h]
theorem cc_19 {Γ : gx_G} {k : Nat} (h : shp k = 19) (v w : Nat → Int32) : gx_cc Γ k v w = .inl (Γ.2.1 1, ln k, .inl w) := by simp only [gx_cc, h]
end
section
/-! rows over the one memory: fields, rows of numbers, calls -/
section GR
variable {p : Program} {l : Launch} {e : Env} {R : Room} {s : State} {m : MethodId} {args : Array Value} {below : List Frame} {meth : Method} {c : Code} {H : Heap} {locs : List Loc} {cells slots : Nat} {Q : State → Prop}
variable {cc : ByteArray} {nL pc : Nat} {ls : Array Slot} {rest : List Value} {Γ : gx_G} {C M : Mem} {own : String}
theorem gg_get (S : CallFix p m c cc nL s args TsG own) (hG : gx_K Γ s) (hW : gx_W Γ C M H) {k ci N : Nat} {fs : List Value} {CC : String} {T : u_T} (hk : k < 499) (he : gx_cc Γ k (C k) (M k) = .inr (ci, fs)) (hc : vwCl[ci]? = some (CC, T, N)) (hin : ∀ w ∈ u_ws CC T N, w ∈ TsG) (j : Nat) (hj : j < N) {index : Nat} (hlink : Cond.fieldLink own index (T j).1 (T j).2.1 (T j).2.2.1 ∈ TsG) {v : Value} (hv : fs[j]? = some v) (hdg : decode cc pc = .ok (.getfield index, 3))
    (kk : W p l e R s m args below meth c H locs cells slots Q (F0 m (pc + 3) ls (v :: rest))) : W p l e R s m args below meth c H locs cells slots Q (F0 m pc ls (.ref (Γ.1 k) :: rest)) :=
  va_get (D := Γ.2.2.1) (ci := ci) (v := v) (C := CC) (T := T) (N := N) S.1 S.2.1 S.2.2.2.2 hin S.2.2.2.1 hG.1 hW k (gx_at_c hk he) hc j hj (S.2.2.2.2 _ hlink) (fun _ h9 => h9) hv hdg kk
theorem gg_putC (S : CallFix p m c cc nL s args TsG own) (hG : gx_K Γ s) (hW : gx_W Γ C M H) (hS : va_S (gA Γ) s.heap H locs) {k ci N : Nat} {fs : List Value} {CC : String} {T : u_T} (hk : k < 499) (he : gx_cc Γ k (C k) (M k) = .inr (ci, fs)) (hc : vwCl[ci]? = some (CC, T, N)) (hin : ∀ w ∈ u_ws CC T N, w ∈ TsG) (ty0 : Nat → FieldType) (hty : ∀ k, k < N → parseFieldDescriptor (T k).2.2.1 = some (ty0 k)) (hnm : ∀ a, a < N → ∀ b, b < N → a ≠ b → (T a).2.1 ≠ (T b).2.1) (j : Nat) (hj : j < N) {index : Nat} (hlink : Cond.fieldLink own index (T j).1 (T j).2.1 (T j).2.2.1 ∈ TsG) (hfin : (T j).2.2.2 = false) (hd : parseFieldDescriptor (T j).2.2.1 = some .int) (hl : j < fs.length) {x : Int32} (he2 : gx_cc Γ k (upd (C k) j x) (M k) = .inr (ci, fs.set j (.int x))) (hdg : decode cc pc = .ok (.putfield index, 3))
    (kk : ∀ (H1 : Heap) (locs1 : List Loc), gx_W Γ (mset C k j x) M H1 → va_S (gA Γ) s.heap H1 locs1 → W p l e R s m args below meth c H1 locs1 cells slots Q (F0 m (pc + 3) ls rest)) : W p l e R s m args below meth c H locs cells slots Q (F0 m pc ls (.int x :: .ref (Γ.1 k) :: rest)) :=
  va_put (D := Γ.2.2.1) (ci := ci) (v := .int x) (ty := .int) (C := CC) (T := T) (N := N) S.1 S.2.1 S.2.2.2.2 hin ty0 hty hnm S.2.2.2.1 hG.1 hW (gx_D C M hG.2.1) hS k (gx_at_c hk he) hc j hj (S.2.2.2.2 _ hlink) (fun _ h9 => h9) hfin hd rfl rfl hl hdg (fun H1 locs1 hP _ hS1 => kk H1 locs1 (by rw [← he2, gx_setC hk] at hP; exact hP) hS1)
theorem gg_putM (S : CallFix p m c cc nL s args TsG own) (hG : gx_K Γ s) (hW : gx_W Γ C M H) (hS : va_S (gA Γ) s.heap H locs) {k ci N : Nat} {fs : List Value} {CC : String} {T : u_T} (hk : k < 499) (he : gx_cc Γ k (C k) (M k) = .inr (ci, fs)) (hc : vwCl[ci]? = some (CC, T, N)) (hin : ∀ w ∈ u_ws CC T N, w ∈ TsG) (ty0 : Nat → FieldType) (hty : ∀ k, k < N → parseFieldDescriptor (T k).2.2.1 = some (ty0 k)) (hnm : ∀ a, a < N → ∀ b, b < N → a ≠ b → (T a).2.1 ≠ (T b).2.1) (j : Nat) (hj : j < N) {index : Nat} (hlink : Cond.fieldLink own index (T j).1 (T j).2.1 (T j).2.2.1 ∈ TsG) (hfin : (T j).2.2.2 = false) (hd : parseFieldDescriptor (T j).2.2.1 = some .int) (hl : j < fs.length) {x : Int32} (he2 : gx_cc Γ k (C k) (upd (M k) j x) = .inr (ci, fs.set j (.int x))) (hdg : decode cc pc = .ok (.putfield index, 3))
    (kk : ∀ (H1 : Heap) (locs1 : List Loc), gx_W Γ C (mset M k j x) H1 → va_S (gA Γ) s.heap H1 locs1 → W p l e R s m args below meth c H1 locs1 cells slots Q (F0 m (pc + 3) ls rest)) : W p l e R s m args below meth c H locs cells slots Q (F0 m pc ls (.int x :: .ref (Γ.1 k) :: rest)) :=
  va_put (D := Γ.2.2.1) (ci := ci) (v := .int x) (ty := .int) (C := CC) (T := T) (N := N) S.1 S.2.1 S.2.2.2.2 hin ty0 hty hnm S.2.2.2.1 hG.1 hW (gx_D C M hG.2.1) hS k (gx_at_c hk he) hc j hj (S.2.2.2.2 _ hlink) (fun _ h9 => h9) hfin hd rfl rfl hl hdg (fun H1 locs1 hP _ hS1 => kk H1 locs1 (by rw [← he2, gx_setM hk] at hP; exact hP) hS1)
/-! rows of numbers -/
theorem ald_c (S : CallFix p m c cc nL s args TsG own) (hG : gx_K Γ s) (hW : gx_W Γ C M H) {k : Nat} (hk : shp k = 2) {i : Int32} (hin : vp_in i 24) (hdg : decode cc pc = .ok (.caload, 1))
    (kk : W p l e R s m args below meth c H locs cells slots Q (F0 m (pc + 1) ls (.int (C k i.toNatClampNeg) :: rest))) : W p l e R s m args below meth c H locs cells slots Q (F0 m pc ls (.int i :: .ref (Γ.1 k) :: rest)) :=
  va_cald (D := Γ.2.2.1) S.1 S.2.1 hG.1 hW k 0 (gx_at_c (sh_lt (by rw [hk]; decide)) (cc_2 hk _ _)) rfl hin hdg kk
theorem ast_c (S : CallFix p m c cc nL s args TsG own) (hG : gx_K Γ s) (hW : gx_W Γ C M H) (hS : va_S (gA Γ) s.heap H locs) {k : Nat} (hk : shp k = 2) {i x : Int32} (hin : vp_in i 24) (hdg : decode cc pc = .ok (.castore, 1))
    (kk : ∀ (H1 : Heap) (locs1 : List Loc), gx_W Γ (mset C k i.toNatClampNeg (vp_nar .char x)) M H1 → va_S (gA Γ) s.heap H1 locs1 → W p l e R s m args below meth c H1 locs1 cells slots Q (F0 m (pc + 1) ls rest)) : W p l e R s m args below meth c H locs cells slots Q (F0 m pc ls (.int x :: .int i :: .ref (Γ.1 k) :: rest)) :=
  va_cast (D := Γ.2.2.1) S.1 S.2.1 hG.1 hW (gx_D C M hG.2.1) hS k 0 (gx_at_c (sh_lt (by rw [hk]; decide)) (cc_2 hk _ _)) rfl hin hdg (fun H1 locs1 hP _ hS1 => kk H1 locs1 (by rw [← cc_2 hk _ (M k), gx_setC (sh_lt (by rw [hk]; decide))] at hP; exact hP) hS1)
theorem ald_i (S : CallFix p m c cc nL s args TsG own) (hG : gx_K Γ s) (hW : gx_W Γ C M H) {k n : Nat} (hk : shp k = 3) (hn : ln k = n) {i : Int32} (hin : vp_in i n) (hdg : decode cc pc = .ok (.iaload, 1))
    (kk : W p l e R s m args below meth c H locs cells slots Q (F0 m (pc + 1) ls (.int (C k i.toNatClampNeg) :: rest))) : W p l e R s m args below meth c H locs cells slots Q (F0 m pc ls (.int i :: .ref (Γ.1 k) :: rest)) :=
  va_iald (D := Γ.2.2.1) S.1 S.2.1 hG.1 hW k 1 (gx_at_c (sh_lt (by rw [hk]; decide)) (cc_3 hk _ _)) rfl (by rw [hn]; exact hin) hdg kk
theorem ast_i (S : CallFix p m c cc nL s args TsG own) (hG : gx_K Γ s) (hW : gx_W Γ C M H) (hS : va_S (gA Γ) s.heap H locs) {k n : Nat} (hk : shp k = 3) (hn : ln k = n) {i x : Int32} (hin : vp_in i n) (hdg : decode cc pc = .ok (.iastore, 1))
    (kk : ∀ (H1 : Heap) (locs1 : List Loc), gx_W Γ (mset C k i.toNatClampNeg x) M H1 → va_S (gA Γ) s.heap H1 locs1 → W p l e R s m args below meth c H1 locs1 cells slots Q (F0 m (pc + 1) ls rest)) : W p l e R s m args below meth c H locs cells slots Q (F0 m pc ls (.int x :: .int i :: .ref (Γ.1 k) :: rest)) :=
  va_iast (D := Γ.2.2.1) S.1 S.2.1 hG.1 hW (gx_D C M hG.2.1) hS k 1 (gx_at_c (sh_lt (by rw [hk]; decide)) (cc_3 hk _ _)) rfl (by rw [hn]; exact hin) hdg (fun H1 locs1 hP _ hS1 => kk H1 locs1 (by rw [← cc_3 hk _ (M k), gx_setC (sh_lt (by rw [hk]; decide))] at hP; exact hP) hS1)
theorem alen_i (S : CallFix p m c cc nL s args TsG own) (hG : gx_K Γ s) (hW : gx_W Γ C M H) {k n : Nat} (hk : shp k = 3) (hn : ln k = n) (hdg : decode cc pc = .ok (.arraylength, 1))
    (kk : W p l e R s m args below meth c H locs cells slots Q (F0 m (pc + 1) ls (.int (nI n) :: rest))) : W p l e R s m args below meth c H locs cells slots Q (F0 m pc ls (.ref (Γ.1 k) :: rest)) :=
  va_alen (D := Γ.2.2.1) S.1 S.2.1 hG.1 hW k 1 (gx_at_c (sh_lt (by rw [hk]; decide)) (cc_3 hk _ _)) rfl (by rw [hn]; rfl) hdg kk
theorem ald_m (S : CallFix p m c cc nL s args TsG own) (hG : gx_K Γ s) (hW : gx_W Γ C M H) {k n : Nat} (hk : shp k = 19) (hn : ln k = n) {i : Int32} (hin : vp_in i n) (hdg : decode cc pc = .ok (.iaload, 1))
    (kk : W p l e R s m args below meth c H locs cells slots Q (F0 m (pc + 1) ls (.int (M k i.toNatClampNeg) :: rest))) : W p l e R s m args below meth c H locs cells slots Q (F0 m pc ls (.int i :: .ref (Γ.1 k) :: rest)) :=
  va_iald (D := Γ.2.2.1) S.1 S.2.1 hG.1 hW k 1 (gx_at_c (sh_lt (by rw [hk]; decide)) (cc_19 hk _ _)) rfl (by rw [hn]; exact hin) hdg kk
theorem ast_m (S : CallFix p m c cc nL s args TsG own) (hG : gx_K Γ s) (hW : gx_W Γ C M H) (hS : va_S (gA Γ) s.heap H locs) {k n : Nat} (hk : shp k = 19) (hn : ln k = n) {i x : Int32} (hin : vp_in i n) (hdg : decode cc pc = .ok (.iastore, 1))
    (kk : ∀ (H1 : Heap) (locs1 : List Loc), gx_W Γ C (mset M k i.toNatClampNeg x) H1 → va_S (gA Γ) s.heap H1 locs1 → W p l e R s m args below meth c H1 locs1 cells slots Q (F0 m (pc + 1) ls rest)) : W p l e R s m args below meth c H locs cells slots Q (F0 m pc ls (.int x :: .int i :: .ref (Γ.1 k) :: rest)) :=
  va_iast (D := Γ.2.2.1) S.1 S.2.1 hG.1 hW (gx_D C M hG.2.1) hS k 1 (gx_at_c (sh_lt (by rw [hk]; decide)) (cc_19 hk _ _)) rfl (by rw [hn]; exact hin) hdg (fun H1 locs1 hP _ hS1 => kk H1 locs1 (by rw [← cc_19 hk (C k), gx_setM (sh_lt (by rw [hk]; decide))] at hP; exact hP) hS1)
theorem ald_z (S : CallFix p m c cc nL s args TsG own) (hG : gx_K Γ s) (hW : gx_W Γ C M H) {k n : Nat} (hk : shp k = 17) (hn : ln k = n) {i : Int32} (hin : vp_in i n) (hdg : decode cc pc = .ok (.baload, 1))
    (kk : W p l e R s m args below meth c H locs cells slots Q (F0 m (pc + 1) ls (.int (M k i.toNatClampNeg) :: rest))) : W p l e R s m args below meth c H locs cells slots Q (F0 m pc ls (.int i :: .ref (Γ.1 k) :: rest)) :=
  va_zald (D := Γ.2.2.1) S.1 S.2.1 hG.1 hW k 2 (gx_at_c (sh_lt (by rw [hk]; decide)) (cc_17 hk _ _)) rfl (by rw [hn]; exact hin) hdg kk
theorem ast_z (S : CallFix p m c cc nL s args TsG own) (hG : gx_K Γ s) (hW : gx_W Γ C M H) (hS : va_S (gA Γ) s.heap H locs) {k n : Nat} (hk : shp k = 17) (hn : ln k = n) {i x : Int32} (hin : vp_in i n) (hdg : decode cc pc = .ok (.bastore, 1))
    (kk : ∀ (H1 : Heap) (locs1 : List Loc), gx_W Γ C (mset M k i.toNatClampNeg (vp_nar .boolean x)) H1 → va_S (gA Γ) s.heap H1 locs1 → W p l e R s m args below meth c H1 locs1 cells slots Q (F0 m (pc + 1) ls rest)) : W p l e R s m args below meth c H locs cells slots Q (F0 m pc ls (.int x :: .int i :: .ref (Γ.1 k) :: rest)) :=
  va_zast (D := Γ.2.2.1) S.1 S.2.1 hG.1 hW (gx_D C M hG.2.1) hS k 2 (gx_at_c (sh_lt (by rw [hk]; decide)) (cc_17 hk _ _)) rfl (by rw [hn]; exact hin) hdg (fun H1 locs1 hP _ hS1 => kk H1 locs1 (by rw [← cc_17 hk (C k), gx_setM (sh_lt (by rw [hk]; decide))] at hP; exact hP) hS1)
/-! rows of references -/
theorem ald_paths (S : CallFix p m c cc nL s args TsG own) (hG : gx_K Γ s) (hW : gx_W Γ C M H) {i : Int32} (hin : vp_in i 24) (hdg : decode cc pc = .ok (.aaload, 1))
    (kk : W p l e R s m args below meth c H locs cells slots Q (F0 m (pc + 1) ls (.ref (Γ.1 (7 + 2 * i.toNatClampNeg)) :: rest))) : W p l e R s m args below meth c H locs cells slots Q (F0 m pc ls (.int i :: .ref (Γ.1 4) :: rest)) :=
  va_aldq (D := Γ.2.2.1) (C := "Monobuild$Text") S.1 S.2.1 hG.1 hW 4 4 (gx_at_c (k := 4) (by decide) rfl) rfl hin hdg kk
theorem ald_globs (S : CallFix p m c cc nL s args TsG own) (hG : gx_K Γ s) (hW : gx_W Γ C M H) {i : Int32} (hin : vp_in i 16) (hdg : decode cc pc = .ok (.aaload, 1))
    (kk : W p l e R s m args below meth c H locs cells slots Q (F0 m (pc + 1) ls (.ref (Γ.1 (60 + 11 * i.toNatClampNeg)) :: rest))) : W p l e R s m args below meth c H locs cells slots Q (F0 m pc ls (.int i :: .ref (Γ.1 58) :: rest)) :=
  va_aldq (D := Γ.2.2.1) (C := "Monobuild$Globs") S.1 S.2.1 hG.1 hW 58 5 (gx_at_c (k := 58) (by decide) rfl) rfl hin hdg kk
theorem ald_pat (S : CallFix p m c cc nL s args TsG own) (hG : gx_K Γ s) (hW : gx_W Γ C M H) {g : Nat} (hg : shp g = 9) {i : Int32} (hin : vp_in i (ln g)) (hdg : decode cc pc = .ok (.aaload, 1))
    (kk : W p l e R s m args below meth c H locs cells slots Q (F0 m (pc + 1) ls (.ref (Γ.1 (g + 3 + 2 * i.toNatClampNeg)) :: rest))) : W p l e R s m args below meth c H locs cells slots Q (F0 m pc ls (.int i :: .ref (Γ.1 (g + 1)) :: rest)) :=
  va_aldq (D := Γ.2.2.1) (C := "Monobuild$Text") S.1 S.2.1 hG.1 hW (g + 1) 4 (gx_at_c (sh_lt (by rw [sh_g1 hg]; decide)) (cc_10 (sh_g1 hg) _ _)) rfl (by rw [ln_g1 hg]; exact hin) hdg kk
theorem ald_qq {D : va_G} {cl : List vw_C} {tys : List (ClassId × FieldType)} {ws : va_W} (hexec : p.tables.exec = Jvm.exec) (hb : c.code = cc) (hK : va_K D cl tys s) (hP : va_P D cl ws H) (q0 t0 : Nat) {a : Nat} {cA : ClassId} {ty : FieldType} {n : Nat} {f : Nat → Option Nat} (ha : ws[q0]? = some (a, .inl (cA, n, .inr (.inr (.inr (.inr f)))))) (ht : tys[t0]? = some (cA, .array ty)) {i : Int32} (hin : vp_in i n) (hdg : decode cc pc = .ok (.aaload, 1))
    (kk : W p l e R s m args below meth c H locs cells slots Q (F0 m (pc + 1) ls (va_rf (f i.toNatClampNeg) :: rest))) : W p l e R s m args below meth c H locs cells slots Q (F0 m pc ls (.int i :: .ref a :: rest)) := by
  have hlt : i.toNatClampNeg < n := Nat.not_le.mp fun q => hin (Or.inr q)
  exact W.aald (v := va_rf (f i.toNatClampNeg)) (ty := .array ty) hexec hb (hP q0 _ ha) ((hK.2 t0 _ ht).1 n (fun j => va_rf (f j))) rfl (fun q => by cases q) (by show ¬ (i < 0 ∨ (arrV _ _ _).slots.size ≤ _); rw [arrV_size]; exact hin) (by show (arrV _ _ _).slots[_]? = _; rw [arrV_read _ _ hlt]) rfl rfl hdg kk
theorem ald_rows (S : CallFix p m c cc nL s args TsG own) (hG : gx_K Γ s) (hW : gx_W Γ C M H) {i : Int32} (hin : vp_in i 201) (hdg : decode cc pc = .ok (.aaload, 1))
    (kk : W p l e R s m args below meth c H locs cells slots Q (F0 m (pc + 1) ls (.ref (Γ.1 (242 + i.toNatClampNeg)) :: rest))) : W p l e R s m args below meth c H locs cells slots Q (F0 m pc ls (.int i :: .ref (Γ.1 237) :: rest)) :=
  ald_qq (D := Γ.2.2.1) S.1 S.2.1 hG.1 hW 237 6 (gx_at_c (k := 237) (by decide) rfl) rfl hin hdg kk
/-- a row of ints copied upon another one -/
theorem cpy_i (S : CallFix p m c cc nL s args TsG own) (hG : gx_K Γ s) (hW : gx_W Γ C M H) (hS : va_S (gA Γ) s.heap H locs) (hsz : ls.size = nL) {a b na nb : Nat} (ha : shp a = 3) (hna : ln a = na) (hb : shp b = 3) (hnb : ln b = nb) {sp dp n : Int32} (h1 : ¬ sp < 0) (h2 : ¬ dp < 0) (h3 : ¬ n < 0) (h4 : sp.toNatClampNeg + n.toNatClampNeg ≤ na) (h5 : dp.toNatClampNeg + n.toNatClampNeg ≤ nb) {index : Nat} (hlink : Cond.methodLink own index arraycopyName ∈ TsG) (hnat : Cond.native arraycopyName ∈ TsG) (hstat : Cond.static arraycopyName ∈ TsG) (hini : Cond.initialized "java/lang/System" ∈ TsG)
    (hframes : 1 ≤ R.frames) (hlocals : (rest.map fun v => v.category).sum + (nativeFrameWords "java/lang/System" "arraycopy" 5 + 11) ≤ R.locals) (hdg : decode cc pc = .ok (.invokestatic index, 3))
    (kk : ∀ (H1 : Heap) (locs1 : List Loc), gx_W Γ (fun k => if k = b then va_cpy (C a) (C b) sp.toNatClampNeg dp.toNatClampNeg n.toNatClampNeg else C k) M H1 → va_S (gA Γ) s.heap H1 locs1 → W p l e R s m args below meth c H1 locs1 cells slots Q (F0 m (pc + 3) ls rest)) : W p l e R s m args below meth c H locs cells slots Q (F0 m pc ls (.int n :: .int dp :: .ref (Γ.1 b) :: .int sp :: .ref (Γ.1 a) :: rest)) :=
  va_copyi (D := Γ.2.2.1) S.1 S.2.1 (S.2.2.1.trans hsz.symm) S.2.2.2.1 (S.2.2.2.2 _ hlink) (S.2.2.2.2 _ hnat) (S.2.2.2.2 _ hstat) (S.2.2.2.2 _ hini) hG.1 hW (gx_D C M hG.2.1) hS a b 1 1 (gx_at_c (sh_lt (by rw [ha]; decide)) (cc_3 ha _ _)) (gx_at_c (sh_lt (by rw [hb]; decide)) (cc_3 hb _ _)) rfl rfl rfl h1 h2 h3 (by rw [hna]; exact h4) (by rw [hnb]; exact h5) (fun _ _ => rfl) hframes hlocals hdg (fun H1 locs1 hP _ hS1 => kk H1 locs1 (by rw [← cc_3 hb _ (M b), gx_setC (sh_lt (by rw [hb]; decide))] at hP; exact hP) hS1)
/-! a method's body, its ends -/
theorem gm_of {l : Launch} {Γ : gx_G} {C M : Mem} {y : MethodName} {bytes : ByteArray} {maxL : Nat} {ret : Option FieldType} {rm : Room} {av : List Value} {Qc : Array Value → State → Outcome → State → Prop} {mc ms : Nat} {free : Addr → Prop} (hy : plainName y.cls = true) (hsz : (lg_sl av).length ≤ maxL)
    (body : ∀ (p : Program) (e : Env) (s : State) (m : MethodId) (below : List Frame) (meth : Method) (c : Code), CallFix p m c bytes maxL s av.toArray TsG y.cls → meth.locks = false → meth.sig.returnType = ret → gx_K Γ s → ∀ (ls : Array Slot) (H : Heap) (locs : List Loc), lv_has ls maxL (lv_args 0 av) → gx_W Γ C M H → va_S (gA Γ) s.heap H locs → W p l e rm s m av.toArray below meth c H locs 0 0 (MQ below Qc av.toArray s mc ms free) (F0 m 0 ls [])) :
    Met l y (.code y bytes maxL ret :: TsG) rm (va_Pc av (gx_P Γ C M)) Qc mc ms free := by
  refine Met.ofW (cc := bytes) (maxL := maxL) (ret := ret) hy rfl ?_
  intro p e s m args below meth c s₁ B hml hv
  obtain ⟨rfl, hG, hW⟩ := hv
  have hts := atoms_spec (ws := Cond.code y bytes maxL ret :: TsG) B.pre
  rw [lg_entry_eq]
  exact body p e s m below meth c ⟨B.exec, B.bytes, hml, findClass_of_methodNamed B.named, fun w h => hts w (List.mem_cons_of_mem _ h)⟩ B.notSynchronized B.returns hG _ _ _ (lv_entry av hsz) hW va_S.rf
/-- what a method answers: r, a cell, nothing; C', M' behind it -/
def gx_Qi (Γ : gx_G) (r : Int32) (C M : Mem) : Array Value → State → Outcome → State → Prop := va_Qi (S := Unit) (fun r' _ => r' = r) (fun _ t => gx_W Γ C M t.heap) (gA Γ)
def gx_Qv (Γ : gx_G) (C M : Mem) : Array Value → State → Outcome → State → Prop := va_Qv (S := Unit) (fun _ => True) (fun _ t => gx_W Γ C M t.heap) (gA Γ)
def gx_Qr (Γ : gx_G) (k : Nat) (C M : Mem) : Array Value → State → Outcome → State → Prop := va_Qr (S := Unit) (fun _ => True) (fun _ a t => a = Γ.1 k ∧ gx_W Γ C M t.heap) (gA Γ)
theorem gr_i (S : CallFix p m c cc nL s args TsG own) (hlk : meth.locks = false) {ty : FieldType} (hr : meth.sig.returnType = some ty) (hW : gx_W Γ C M H) (hS : va_S (gA Γ) s.heap H locs) {v r : Int32} (hn : narrow ty (.int v) = .int v) (hv : v = r) (hdg : decode cc pc = .ok (.ireturn, 1)) :
    W p l e R s m args below meth c H locs cells slots (MQ below (gx_Qi Γ r C M) args s cells slots (gA Γ)) (F0 m pc ls [.int v]) :=
  W.zret S.1 S.2.1 hr hn (fun t ht _ => ⟨⟨v, (), rfl, hv, by show gx_W Γ C M t.heap; rw [ht]; exact hW⟩, hS.F ht⟩) hS.2.2 hdg hlk
theorem gr_v (S : CallFix p m c cc nL s args TsG own) (hlk : meth.locks = false) (hr : meth.sig.returnType = none) (hW : gx_W Γ C M H) (hS : va_S (gA Γ) s.heap H locs) (hdg : decode cc pc = .ok (.return_, 1)) :
    W p l e R s m args below meth c H locs cells slots (MQ below (gx_Qv Γ C M) args s cells slots (gA Γ)) (F0 m pc ls []) :=
  W.vret S.1 S.2.1 hr (fun t ht _ => ⟨⟨(), rfl, trivial, by show gx_W Γ C M t.heap; rw [ht]; exact hW⟩, hS.F ht⟩) hS.2.2 hdg hlk
theorem gr_r (S : CallFix p m c cc nL s args TsG own) (hlk : meth.locks = false) {ty : FieldType} (hr : meth.sig.returnType = some ty) (hty : (∃ n, ty = .object n) ∨ ∃ t, ty = .array t) (hW : gx_W Γ C M H) (hS : va_S (gA Γ) s.heap H locs) {k k' : Nat} (hk : k = k') (hdg : decode cc pc = .ok (.areturn, 1)) :
    W p l e R s m args below meth c H locs cells slots (MQ below (gx_Qr Γ k' C M) args s cells slots (gA Γ)) (F0 m pc ls [.ref (Γ.1 k)]) :=
  W.aret S.1 S.2.1 hr hty (Or.inr ⟨_, rfl⟩) (fun t ht _ => ⟨⟨(), Γ.1 k, rfl, trivial, by rw [hk], by rw [ht]; exact hW⟩, hS.F ht⟩) hS.2.2 hdg hlk
/-! calls -/
theorem gc_pre {y : MethodName} {As : List Value} (hG : gx_K Γ s) (hW : gx_W Γ C M H) (hS : va_S (gA Γ) s.heap H locs) : PreS s H (va_Pc As (gx_P Γ C M)) As :=
  ⟨gx_P_blind As, fun _ hU hWm => ⟨rfl, gx_K_on hG hS hU hWm, by rw [hU]; exact hW⟩⟩
theorem gc_preV {As : List Value} (hG : gx_K Γ s) (hW : gx_W Γ C M H) (hS : va_S (gA Γ) s.heap H locs) {k ci N : Nat} {fs : List Value} {CC : String} {T : u_T} (hk : k < 499) (he : gx_cc Γ k (C k) (M k) = .inr (ci, fs)) (hc : vwCl[ci]? = some (CC, T, N)) : PreV s H CC (Γ.1 k) (va_Pc (.ref (Γ.1 k) :: As) (gx_P Γ C M)) As :=
  ⟨gx_P_blind _, va_recv hG.1 hW hc (gx_at_c hk he), fun _ hU hWm => ⟨rfl, gx_K_on hG hS hU hWm, by rw [hU]; exact hW⟩⟩
theorem gc_cwV (S : CallFix p m c cc nL s args TsG own) {y : MethodName} {bytes : ByteArray} {maxL n index mc ms : Nat} {ret : Option FieldType} {rm : Room} (pk : PkV y bytes maxL ret n) (ml : Cond.methodLink own index y ∈ TsG) (hrc : rm.cells = mc) (hrs : rm.slots = ms) (hR : rm.frames + 1 ≤ R.frames ∧ 8 + (maxL + 11) + rm.locals ≤ R.locals) :
    CallW R s args own y.cls index y bytes maxL ret (.code y bytes maxL ret :: TsG) rm mc ms n := by
  obtain ⟨⟨h1, h2, h3, h4, h5⟩, h6, h7⟩ := pk
  refine cwV n S.2.2.2.2 (gi_all (fun w hw => ?_) (fun _ h => h)) rfl hrc hrs ⟨rfl, h3, h4, h5⟩ hR
  rcases List.mem_append.mp hw with hw | hw
  · rcases List.mem_cons.mp hw with rfl | hw
    · exact ml
    · rcases List.mem_cons.mp hw with rfl | hw
      · exact h6
      · rcases List.mem_cons.mp hw with rfl | hw
        · exact h7
        · rcases List.mem_cons.mp hw with rfl | hw
          · exact h2
          · cases hw
  · rcases List.mem_cons.mp hw with rfl | hw
    · exact h1
    · exact hw
theorem gc_good {y : MethodName} {bytes : ByteArray} {maxL : Nat} {ret : Option FieldType} (h1 : Cond.code y bytes maxL ret ∈ TsG) : GoodIn TsG (.code y bytes maxL ret :: TsG) :=
  gi_all (fun w hw => by
    rcases List.mem_cons.mp hw with rfl | hw
    · exact h1
    · exact hw) (fun _ h => h)
theorem gc_cwS (S : CallFix p m c cc nL s args TsG own) {y : MethodName} {bytes : ByteArray} {maxL n index mc ms : Nat} {ret : Option FieldType} {rm : Room} (pk : PkS y bytes maxL ret n) (ml : Cond.methodLink own index y ∈ TsG) (hrc : rm.cells = mc) (hrs : rm.slots = ms) (hR : rm.frames + 1 ≤ R.frames ∧ 8 + (maxL + 11) + rm.locals ≤ R.locals) :
    CallB R s args own index y bytes maxL ret (.code y bytes maxL ret :: TsG) rm mc ms n ∧ (Cond.static y).before args s = true := by
  obtain ⟨⟨h1, h2, h3, h4, h5⟩, h6⟩ := pk
  exact ⟨callB_of n S.2.2.2.2 (gc_good h1) rfl hrc hrs (S.2.2.2.2 _ h2) (S.2.2.2.2 _ ml) ⟨h3, h4, h5⟩ hR, S.2.2.2.2 _ h6⟩
theorem gc_cwN (S : CallFix p m c cc nL s args TsG own) (hG : gx_K Γ s) {y : MethodName} {bytes : ByteArray} {maxL n index mc ms : Nat} {ret : Option FieldType} {rm : Room} (pk : PkS y bytes maxL ret n) (ml : (own, index, y) ∈ gx_nst) (hrc : rm.cells = mc) (hrs : rm.slots = ms) (hR : rm.frames + 1 ≤ R.frames ∧ 8 + (maxL + 11) + rm.locals ≤ R.locals) :
    va_CN R s args own index y RX7 bytes maxL ret (.code y bytes maxL ret :: TsG) rm mc ms n ∧ (Cond.static y).before args s = true ∧ True := by
  obtain ⟨⟨h1, h2, h3, h4, h5⟩, h6⟩ := pk
  exact ⟨va_cnB n S.2.2.2.2 (gc_good h1) rfl hrc hrs (hG.2.2.2.2 _ ml) (S.2.2.2.2 _ h2) ⟨h3, h4, h5⟩ hR, S.2.2.2.2 _ h6, trivial⟩
section Calls
variable {y : MethodName} {bytes : ByteArray} {maxL n index mc ms : Nat} {ret : Option FieldType} {rm : Room} {C' M' : Mem} {r : Int32} {As : List Value} {st0 : List Value}
theorem gk_i (hS : va_S (gA Γ) s.heap H locs) {a : Array Value} (hr : va_Run p l e R s m args below meth c H locs cells slots mc ms (F0 m pc ls st0) rest (gx_Qi Γ r C' M' a) (gA Γ))
    (kk : ∀ (H1 : Heap) (locs1 : List Loc), gx_W Γ C' M' H1 → va_S (gA Γ) s.heap H1 locs1 → W p l e R s m args below meth c H1 locs1 (cells + mc) (slots + ms) Q (F0 m (pc + 3) ls (.int r :: rest))) : W p l e R s m args below meth c H locs cells slots Q (F0 m pc ls st0) :=
  va_calli hr hS (fun _ _ h => h) (fun _ h => h) (fun r' _ t H1 locs1 ht _ hp hb _ _ hS1 => by subst hp; exact kk H1 locs1 (by rw [← ht]; exact hb) hS1)
theorem gk_v (hS : va_S (gA Γ) s.heap H locs) {a : Array Value} (hr : va_Run p l e R s m args below meth c H locs cells slots mc ms (F0 m pc ls st0) rest (gx_Qv Γ C' M' a) (gA Γ))
    (kk : ∀ (H1 : Heap) (locs1 : List Loc), gx_W Γ C' M' H1 → va_S (gA Γ) s.heap H1 locs1 → W p l e R s m args below meth c H1 locs1 (cells + mc) (slots + ms) Q (F0 m (pc + 3) ls rest)) : W p l e R s m args below meth c H locs cells slots Q (F0 m pc ls st0) :=
  va_callv hr hS (fun _ _ h => h) (fun _ h => h) (fun _ t H1 locs1 ht _ _ hb _ _ hS1 => kk H1 locs1 (by rw [← ht]; exact hb) hS1)
theorem gk_r (hS : va_S (gA Γ) s.heap H locs) {k : Nat} {a : Array Value} (hr : va_Run p l e R s m args below meth c H locs cells slots mc ms (F0 m pc ls st0) rest (gx_Qr Γ k C' M' a) (gA Γ))
    (kk : ∀ (H1 : Heap) (locs1 : List Loc), gx_W Γ C' M' H1 → va_S (gA Γ) s.heap H1 locs1 → W p l e R s m args below meth c H1 locs1 (cells + mc) (slots + ms) Q (F0 m (pc + 3) ls (.ref (Γ.1 k) :: rest))) : W p l e R s m args below meth c H locs cells slots Q (F0 m pc ls st0) :=
  va_callr hr hS (fun _ _ h => h) (fun _ h => h) (fun _ ra t H1 locs1 ht _ _ hb _ _ hS1 => by obtain ⟨e1, e2⟩ := hb; subst e1; exact kk H1 locs1 (by rw [← ht]; exact e2) hS1)
variable {Qc : Array Value → State → Outcome → State → Prop}
theorem gv_run (S : CallFix p m c cc nL s args TsG own) (hG : gx_K Γ s) (hW : gx_W Γ C M H) (hS : va_S (gA Γ) s.heap H locs) {k ci N : Nat} {fs : List Value} {T : u_T} (As : List Value) (hM : Met l y (.code y bytes maxL ret :: TsG) rm (va_Pc (.ref (Γ.1 k) :: As) (gx_P Γ C M)) Qc mc ms (gA Γ)) (pk : PkV y bytes maxL ret n) (ml : Cond.methodLink own index y ∈ TsG)
    (hk : k < 499) (he : gx_cc Γ k (C k) (M k) = .inr (ci, fs)) (hc : vwCl[ci]? = some (y.cls, T, N)) (hrc : rm.cells = mc) (hrs : rm.slots = ms) (hR : rm.frames + 1 ≤ R.frames ∧ 8 + (maxL + 11) + rm.locals ≤ R.locals) (hn : As.length = n) (hsz : ls.size = nL) (hst : st0 = As.reverse ++ .ref (Γ.1 k) :: rest) (hroom : (rest.map fun v => v.category).sum ≤ 8) (hdg : decode cc pc = .ok (.invokevirtual index, 3)) (hf : cells + mc ≤ R.cells ∧ slots + ms ≤ R.slots) :
    va_Run p l e R s m args below meth c H locs cells slots mc ms (F0 m pc ls st0) rest (Qc (Value.ref (Γ.1 k) :: As).toArray) (gA Γ) :=
  va_runV (As := As) (rest := rest) S hM (gc_cwV S pk ml hrc hrs hR) (gc_preV hG hW hS hk he hc) rfl hn hsz hst (lv_room hroom) hdg hf
theorem gs_run (S : CallFix p m c cc nL s args TsG own) (hG : gx_K Γ s) (hW : gx_W Γ C M H) (hS : va_S (gA Γ) s.heap H locs) (As : List Value) (hM : Met l y (.code y bytes maxL ret :: TsG) rm (va_Pc As (gx_P Γ C M)) Qc mc ms (gA Γ)) (pk : PkS y bytes maxL ret n) (ml : Cond.methodLink own index y ∈ TsG)
    (hrc : rm.cells = mc) (hrs : rm.slots = ms) (hR : rm.frames + 1 ≤ R.frames ∧ 8 + (maxL + 11) + rm.locals ≤ R.locals) (hn : As.length = n) (hsz : ls.size = nL) (hst : st0 = As.reverse ++ rest) (hroom : (rest.map fun v => v.category).sum ≤ 8) (hdg : decode cc pc = .ok (.invokestatic index, 3)) (hf : cells + mc ≤ R.cells ∧ slots + ms ≤ R.slots) :
    va_Run p l e R s m args below meth c H locs cells slots mc ms (F0 m pc ls st0) rest (Qc As.toArray) (gA Γ) :=
  va_runS (As := As) (rest := rest) S hM (gc_cwS S pk ml hrc hrs hR) (gc_pre (y := y) hG hW hS) rfl hn hsz hst (lv_room hroom) hdg hf
theorem gn_run (S : CallFix p m c cc nL s args TsG own) (hG : gx_K Γ s) (hW : gx_W Γ C M H) (hS : va_S (gA Γ) s.heap H locs) (As : List Value) (hM : Met l y (.code y bytes maxL ret :: TsG) rm (va_Pc As (gx_P Γ C M)) Qc mc ms (gA Γ)) (pk : PkS y bytes maxL ret n) (ml : (own, index, y) ∈ gx_nst)
    (hrc : rm.cells = mc) (hrs : rm.slots = ms) (hR : rm.frames + 1 ≤ R.frames ∧ 8 + (maxL + 11) + rm.locals ≤ R.locals) (hn : As.length = n) (hsz : ls.size = nL) (hst : st0 = As.reverse ++ rest) (hroom : (rest.map fun v => v.category).sum ≤ 8) (hdg : decode cc pc = .ok (.invokestatic index, 3)) (hf : cells + mc ≤ R.cells ∧ slots + ms ≤ R.slots) :
    va_Run p l e R s m args below meth c H locs cells slots mc ms (F0 m pc ls st0) rest (Qc As.toArray) (gA Γ) :=
  va_runSN (As := As) (rest := rest) S hM (gc_cwN S hG pk ml hrc hrs hR) (gc_pre (y := y) hG hW hS) rfl hn hsz hst (lv_room hroom) hdg hf
end Calls
end GR
end
section
/-! printed by gen2.py: the words by their places in the tables; the packages of the methods; the rows of the fields -/
theorem fl_X0_11 : Cond.fieldLink RX0 11 "Monobuild$FileTable" "paths" "[LMonobuild$Text;" ∈ TsG := TsG_t (List.mem_of_getElem? (i := 51) (by decide +kernel)) (by decide +kernel)
theorem fl_X0_17 : Cond.fieldLink RX0 17 "Monobuild$FileTable" "contents" "[I" ∈ TsG := TsG_t (List.mem_of_getElem? (i := 52) (by decide +kernel)) (by decide +kernel)
theorem fl_X0_21 : Cond.fieldLink RX0 21 "Monobuild$FileTable" "markedContents" "[I" ∈ TsG := TsG_t (List.mem_of_getElem? (i := 53) (by decide +kernel)) (by decide +kernel)
theorem fl_X0_25 : Cond.fieldLink RX0 25 "Monobuild$FileTable" "count" "I" ∈ TsG := TsG_t (List.mem_of_getElem? (i := 54) (by decide +kernel)) (by decide +kernel)
theorem fl_X0_33 : Cond.fieldLink RX0 33 "Monobuild$FileTable" "there" "I" ∈ TsG := TsG_t (List.mem_of_getElem? (i := 55) (by decide +kernel)) (by decide +kernel)
theorem fl_X0_51 : Cond.fieldLink RX0 51 "Monobuild$FileTable" "markedThere" "I" ∈ TsG := TsG_t (List.mem_of_getElem? (i := 56) (by decide +kernel)) (by decide +kernel)
theorem fl_X1_15 : Cond.fieldLink RX1 15 "Monobuild$Globs" "most" "I" ∈ TsG := TsG_t (List.mem_of_getElem? (i := 91) (by decide +kernel)) (by decide +kernel)
theorem fl_X1_23 : Cond.fieldLink RX1 23 "Monobuild$Globs" "patterns" "[LMonobuild$Text;" ∈ TsG := TsG_t (List.mem_of_getElem? (i := 89) (by decide +kernel)) (by decide +kernel)
theorem fl_X1_27 : Cond.fieldLink RX1 27 "Monobuild$Globs" "coveredFiles" "[I" ∈ TsG := TsG_t (List.mem_of_getElem? (i := 90) (by decide +kernel)) (by decide +kernel)
theorem fl_X1_32 : Cond.fieldLink RX1 32 "Monobuild$Globs" "count" "I" ∈ TsG := TsG_t (List.mem_of_getElem? (i := 92) (by decide +kernel)) (by decide +kernel)
theorem fl_X2_9 : Cond.fieldLink RX2 9 "Monobuild$Graph" "costs" "[I" ∈ TsG := TsG_t (List.mem_of_getElem? (i := 102) (by decide +kernel)) (by decide +kernel)
theorem fl_X2_15 : Cond.fieldLink RX2 15 "Monobuild$Graph" "dependencies" "[I" ∈ TsG := TsG_t (List.mem_of_getElem? (i := 103) (by decide +kernel)) (by decide +kernel)
theorem fl_X2_20 : Cond.fieldLink RX2 20 "Monobuild$Graph" "globs" "[LMonobuild$Globs;" ∈ TsG := TsG_t (List.mem_of_getElem? (i := 104) (by decide +kernel)) (by decide +kernel)
theorem fl_X2_24 : Cond.fieldLink RX2 24 "Monobuild$Graph" "order" "[I" ∈ TsG := TsG_t (List.mem_of_getElem? (i := 105) (by decide +kernel)) (by decide +kernel)
theorem fl_X2_30 : Cond.fieldLink RX2 30 "Monobuild$Graph" "count" "I" ∈ TsG := TsG_t (List.mem_of_getElem? (i := 106) (by decide +kernel)) (by decide +kernel)
theorem fl_X3_13 : Cond.fieldLink RX3 13 "Monobuild$KeyBook" "rows" "[[I" ∈ TsG := TsG_t (List.mem_of_getElem? (i := 128) (by decide +kernel)) (by decide +kernel)
theorem fl_X3_16 : Cond.fieldLink RX3 16 "Monobuild$KeyBook" "holders" "[I" ∈ TsG := TsG_t (List.mem_of_getElem? (i := 129) (by decide +kernel)) (by decide +kernel)
theorem fl_X3_20 : Cond.fieldLink RX3 20 "Monobuild$KeyBook" "present" "[I" ∈ TsG := TsG_t (List.mem_of_getElem? (i := 130) (by decide +kernel)) (by decide +kernel)
theorem fl_X3_23 : Cond.fieldLink RX3 23 "Monobuild$KeyBook" "latest" "[I" ∈ TsG := TsG_t (List.mem_of_getElem? (i := 131) (by decide +kernel)) (by decide +kernel)
theorem fl_X3_26 : Cond.fieldLink RX3 26 "Monobuild$KeyBook" "row" "[I" ∈ TsG := TsG_t (List.mem_of_getElem? (i := 132) (by decide +kernel)) (by decide +kernel)
theorem fl_X3_29 : Cond.fieldLink RX3 29 "Monobuild$KeyBook" "tree" "LMonobuild$FileTable;" ∈ TsG := TsG_t (List.mem_of_getElem? (i := 126) (by decide +kernel)) (by decide +kernel)
theorem fl_X3_33 : Cond.fieldLink RX3 33 "Monobuild$KeyBook" "graph" "LMonobuild$Graph;" ∈ TsG := TsG_t (List.mem_of_getElem? (i := 127) (by decide +kernel)) (by decide +kernel)
theorem fl_X3_37 : Cond.fieldLink RX3 37 "Monobuild$KeyBook" "count" "I" ∈ TsG := TsG_t (List.mem_of_getElem? (i := 133) (by decide +kernel)) (by decide +kernel)
theorem fl_X4_14 : Cond.fieldLink RX4 14 "Monobuild$RuleBook" "globs" "LMonobuild$Globs;" ∈ TsG := TsG_t (List.mem_of_getElem? (i := 172) (by decide +kernel)) (by decide +kernel)
theorem fl_X4_20 : Cond.fieldLink RX4 20 "Monobuild$RuleBook" "owners" "[I" ∈ TsG := TsG_t (List.mem_of_getElem? (i := 173) (by decide +kernel)) (by decide +kernel)
theorem fl_X5_9 : Cond.fieldLink RX5 9 "Monobuild$Spread" "loads" "[I" ∈ TsG := TsG_t (List.mem_of_getElem? (i := 157) (by decide +kernel)) (by decide +kernel)
theorem fl_X5_15 : Cond.fieldLink RX5 15 "Monobuild$Spread" "places" "[I" ∈ TsG := TsG_t (List.mem_of_getElem? (i := 158) (by decide +kernel)) (by decide +kernel)
theorem fl_X6_9 : Cond.fieldLink RX6 9 "Monobuild$Text" "signs" "[C" ∈ TsG := TsG_t (List.mem_of_getElem? (i := 34) (by decide +kernel)) (by decide +kernel)
theorem fl_X6_15 : Cond.fieldLink RX6 15 "Monobuild$Text" "length" "I" ∈ TsG := TsG_t (List.mem_of_getElem? (i := 35) (by decide +kernel)) (by decide +kernel)
theorem fl_X7_10 : Cond.fieldLink RX7 10 "Monobuild" "text" "LMonobuild$Text;" ∈ TsG := TsG_t (List.mem_of_getElem? (i := 179) (by decide +kernel)) (by decide +kernel)
theorem fl_X7_19 : Cond.fieldLink RX7 19 "Monobuild" "tree" "LMonobuild$FileTable;" ∈ TsG := TsG_t (List.mem_of_getElem? (i := 180) (by decide +kernel)) (by decide +kernel)
theorem fl_X7_26 : Cond.fieldLink RX7 26 "Monobuild" "graph" "LMonobuild$Graph;" ∈ TsG := TsG_t (List.mem_of_getElem? (i := 181) (by decide +kernel)) (by decide +kernel)
theorem fl_X7_35 : Cond.fieldLink RX7 35 "Monobuild" "book" "LMonobuild$KeyBook;" ∈ TsG := TsG_t (List.mem_of_getElem? (i := 182) (by decide +kernel)) (by decide +kernel)
theorem fl_X7_42 : Cond.fieldLink RX7 42 "Monobuild" "spread" "LMonobuild$Spread;" ∈ TsG := TsG_t (List.mem_of_getElem? (i := 183) (by decide +kernel)) (by decide +kernel)
theorem fl_X7_49 : Cond.fieldLink RX7 49 "Monobuild" "rules" "LMonobuild$RuleBook;" ∈ TsG := TsG_t (List.mem_of_getElem? (i := 184) (by decide +kernel)) (by decide +kernel)
theorem fl_X8_7 : Cond.fieldLink RX8 7 "MonobuildModel" "glob" "[I" ∈ TsG := TsG_t (List.mem_of_getElem? (i := 905) (by decide +kernel)) (by decide +kernel)
theorem fl_X8_13 : Cond.fieldLink RX8 13 "MonobuildModel" "length" "[I" ∈ TsG := TsG_t (List.mem_of_getElem? (i := 906) (by decide +kernel)) (by decide +kernel)
theorem fl_X8_16 : Cond.fieldLink RX8 16 "MonobuildModel" "path" "[I" ∈ TsG := TsG_t (List.mem_of_getElem? (i := 908) (by decide +kernel)) (by decide +kernel)
theorem fl_X8_19 : Cond.fieldLink RX8 19 "MonobuildModel" "far" "[I" ∈ TsG := TsG_t (List.mem_of_getElem? (i := 909) (by decide +kernel)) (by decide +kernel)
theorem fl_X8_22 : Cond.fieldLink RX8 22 "MonobuildModel" "there" "[Z" ∈ TsG := TsG_t (List.mem_of_getElem? (i := 910) (by decide +kernel)) (by decide +kernel)
theorem fl_X8_26 : Cond.fieldLink RX8 26 "MonobuildModel" "content" "[I" ∈ TsG := TsG_t (List.mem_of_getElem? (i := 911) (by decide +kernel)) (by decide +kernel)
theorem fl_X8_29 : Cond.fieldLink RX8 29 "MonobuildModel" "marked" "[Z" ∈ TsG := TsG_t (List.mem_of_getElem? (i := 912) (by decide +kernel)) (by decide +kernel)
theorem fl_X8_32 : Cond.fieldLink RX8 32 "MonobuildModel" "markedContent" "[I" ∈ TsG := TsG_t (List.mem_of_getElem? (i := 913) (by decide +kernel)) (by decide +kernel)
theorem fl_X8_35 : Cond.fieldLink RX8 35 "MonobuildModel" "cost" "[I" ∈ TsG := TsG_t (List.mem_of_getElem? (i := 915) (by decide +kernel)) (by decide +kernel)
theorem fl_X8_38 : Cond.fieldLink RX8 38 "MonobuildModel" "globs" "[I" ∈ TsG := TsG_t (List.mem_of_getElem? (i := 916) (by decide +kernel)) (by decide +kernel)
theorem fl_X8_41 : Cond.fieldLink RX8 41 "MonobuildModel" "needs" "[I" ∈ TsG := TsG_t (List.mem_of_getElem? (i := 917) (by decide +kernel)) (by decide +kernel)
theorem fl_X8_44 : Cond.fieldLink RX8 44 "MonobuildModel" "last" "[I" ∈ TsG := TsG_t (List.mem_of_getElem? (i := 918) (by decide +kernel)) (by decide +kernel)
theorem fl_X8_47 : Cond.fieldLink RX8 47 "MonobuildModel" "owner" "[I" ∈ TsG := TsG_t (List.mem_of_getElem? (i := 920) (by decide +kernel)) (by decide +kernel)
theorem fl_X8_50 : Cond.fieldLink RX8 50 "MonobuildModel" "whose" "[I" ∈ TsG := TsG_t (List.mem_of_getElem? (i := 922) (by decide +kernel)) (by decide +kernel)
theorem fl_X8_53 : Cond.fieldLink RX8 53 "MonobuildModel" "had" "[I" ∈ TsG := TsG_t (List.mem_of_getElem? (i := 923) (by decide +kernel)) (by decide +kernel)
theorem fl_X8_56 : Cond.fieldLink RX8 56 "MonobuildModel" "leant" "[I" ∈ TsG := TsG_t (List.mem_of_getElem? (i := 924) (by decide +kernel)) (by decide +kernel)
theorem fl_X8_59 : Cond.fieldLink RX8 59 "MonobuildModel" "contents" "[I" ∈ TsG := TsG_t (List.mem_of_getElem? (i := 925) (by decide +kernel)) (by decide +kernel)
theorem fl_X8_62 : Cond.fieldLink RX8 62 "MonobuildModel" "below" "[I" ∈ TsG := TsG_t (List.mem_of_getElem? (i := 926) (by decide +kernel)) (by decide +kernel)
theorem fl_X8_65 : Cond.fieldLink RX8 65 "MonobuildModel" "order" "[I" ∈ TsG := TsG_t (List.mem_of_getElem? (i := 927) (by decide +kernel)) (by decide +kernel)
theorem fl_X8_68 : Cond.fieldLink RX8 68 "MonobuildModel" "now" "[I" ∈ TsG := TsG_t (List.mem_of_getElem? (i := 928) (by decide +kernel)) (by decide +kernel)
theorem fl_X8_71 : Cond.fieldLink RX8 71 "MonobuildModel" "load" "[I" ∈ TsG := TsG_t (List.mem_of_getElem? (i := 929) (by decide +kernel)) (by decide +kernel)
theorem fl_X8_74 : Cond.fieldLink RX8 74 "MonobuildModel" "goes" "[I" ∈ TsG := TsG_t (List.mem_of_getElem? (i := 930) (by decide +kernel)) (by decide +kernel)
theorem fl_X8_77 : Cond.fieldLink RX8 77 "MonobuildModel" "thrown" "I" ∈ TsG := TsG_t (List.mem_of_getElem? (i := 931) (by decide +kernel)) (by decide +kernel)
theorem fl_X8_108 : Cond.fieldLink RX8 108 "MonobuildModel" "files" "I" ∈ TsG := TsG_t (List.mem_of_getElem? (i := 907) (by decide +kernel)) (by decide +kernel)
theorem fl_X8_127 : Cond.fieldLink RX8 127 "MonobuildModel" "targets" "I" ∈ TsG := TsG_t (List.mem_of_getElem? (i := 914) (by decide +kernel)) (by decide +kernel)
theorem fl_X8_159 : Cond.fieldLink RX8 159 "MonobuildModel" "keys" "I" ∈ TsG := TsG_t (List.mem_of_getElem? (i := 921) (by decide +kernel)) (by decide +kernel)
theorem fl_X8_180 : Cond.fieldLink RX8 180 "MonobuildModel" "rules" "I" ∈ TsG := TsG_t (List.mem_of_getElem? (i := 919) (by decide +kernel)) (by decide +kernel)
theorem ml_L_7 : Cond.methodLink RL 7 yX7_type ∈ TsG := TsG_t (List.mem_of_getElem? (i := 394) (by decide +kernel)) (by decide +kernel)
theorem ml_L_17 : Cond.methodLink RL 17 yX7_addFile ∈ TsG := TsG_t (List.mem_of_getElem? (i := 496) (by decide +kernel)) (by decide +kernel)
theorem ml_L_21 : Cond.methodLink RL 21 yX7_edit ∈ TsG := TsG_t (List.mem_of_getElem? (i := 570) (by decide +kernel)) (by decide +kernel)
theorem ml_L_27 : Cond.methodLink RL 27 yX7_delete ∈ TsG := TsG_t (List.mem_of_getElem? (i := 598) (by decide +kernel)) (by decide +kernel)
theorem ml_L_30 : Cond.methodLink RL 30 yX7_matches ∈ TsG := TsG_t (List.mem_of_getElem? (i := 609) (by decide +kernel)) (by decide +kernel)
theorem ml_L_34 : Cond.methodLink RL 34 yX7_addTarget ∈ TsG := TsG_t (List.mem_of_getElem? (i := 628) (by decide +kernel)) (by decide +kernel)
theorem ml_L_37 : Cond.methodLink RL 37 yX7_addGlob ∈ TsG := TsG_t (List.mem_of_getElem? (i := 645) (by decide +kernel)) (by decide +kernel)
theorem ml_L_40 : Cond.methodLink RL 40 yX7_depend ∈ TsG := TsG_t (List.mem_of_getElem? (i := 682) (by decide +kernel)) (by decide +kernel)
theorem ml_L_43 : Cond.methodLink RL 43 yX7_inputs ∈ TsG := TsG_t (List.mem_of_getElem? (i := 701) (by decide +kernel)) (by decide +kernel)
theorem ml_L_46 : Cond.methodLink RL 46 yX7_above ∈ TsG := TsG_t (List.mem_of_getElem? (i := 708) (by decide +kernel)) (by decide +kernel)
theorem ml_L_49 : Cond.methodLink RL 49 yX7_orderAt ∈ TsG := TsG_t (List.mem_of_getElem? (i := 715) (by decide +kernel)) (by decide +kernel)
theorem ml_L_52 : Cond.methodLink RL 52 yX7_affectedBy ∈ TsG := TsG_t (List.mem_of_getElem? (i := 725) (by decide +kernel)) (by decide +kernel)
theorem ml_L_55 : Cond.methodLink RL 55 yX7_affectedByGoingDown ∈ TsG := TsG_t (List.mem_of_getElem? (i := 737) (by decide +kernel)) (by decide +kernel)
theorem ml_L_58 : Cond.methodLink RL 58 yX7_keyOf ∈ TsG := TsG_t (List.mem_of_getElem? (i := 752) (by decide +kernel)) (by decide +kernel)
theorem ml_L_61 : Cond.methodLink RL 61 yX7_whyRun ∈ TsG := TsG_t (List.mem_of_getElem? (i := 763) (by decide +kernel)) (by decide +kernel)
theorem ml_L_64 : Cond.methodLink RL 64 yX7_run ∈ TsG := TsG_t (List.mem_of_getElem? (i := 778) (by decide +kernel)) (by decide +kernel)
theorem ml_L_67 : Cond.methodLink RL 67 yX7_runAll ∈ TsG := TsG_t (List.mem_of_getElem? (i := 796) (by decide +kernel)) (by decide +kernel)
theorem ml_L_71 : Cond.methodLink RL 71 yX7_shardOf ∈ TsG := TsG_t (List.mem_of_getElem? (i := 809) (by decide +kernel)) (by decide +kernel)
theorem ml_L_74 : Cond.methodLink RL 74 yX7_longestShard ∈ TsG := TsG_t (List.mem_of_getElem? (i := 847) (by decide +kernel)) (by decide +kernel)
theorem ml_L_77 : Cond.methodLink RL 77 yX7_shardsFor ∈ TsG := TsG_t (List.mem_of_getElem? (i := 859) (by decide +kernel)) (by decide +kernel)
theorem ml_L_80 : Cond.methodLink RL 80 yX7_addRule ∈ TsG := TsG_t (List.mem_of_getElem? (i := 867) (by decide +kernel)) (by decide +kernel)
theorem ml_L_83 : Cond.methodLink RL 83 yX7_ownerOf ∈ TsG := TsG_t (List.mem_of_getElem? (i := 894) (by decide +kernel)) (by decide +kernel)
theorem ml_L_86 : Cond.methodLink RL 86 yX7_init ∈ TsG := TsG_t (List.mem_of_getElem? (i := 22) (by decide +kernel)) (by decide +kernel)
theorem ml_L_89 : Cond.methodLink RL 89 yX8_init ∈ TsG := TsG_t (List.mem_of_getElem? (i := 901) (by decide +kernel)) (by decide +kernel)
theorem ml_L_90 : Cond.methodLink RL 90 yL_type ∈ TsG := TsG_t (List.mem_of_getElem? (i := 389) (by decide +kernel)) (by decide +kernel)
theorem ml_L_95 : Cond.methodLink RL 95 yX8_type ∈ TsG := TsG_t (List.mem_of_getElem? (i := 992) (by decide +kernel)) (by decide +kernel)
theorem ml_L_96 : Cond.methodLink RL 96 yX8_thrown ∈ TsG := TsG_t (List.mem_of_getElem? (i := 988) (by decide +kernel)) (by decide +kernel)
theorem ml_L_99 : Cond.methodLink RL 99 yX7_clearText ∈ TsG := TsG_t (List.mem_of_getElem? (i := 198) (by decide +kernel)) (by decide +kernel)
theorem ml_L_102 : Cond.methodLink RL 102 yX8_clearText ∈ TsG := TsG_t (List.mem_of_getElem? (i := 996) (by decide +kernel)) (by decide +kernel)
theorem ml_L_103 : Cond.methodLink RL 103 yX7_isPath ∈ TsG := TsG_t (List.mem_of_getElem? (i := 210) (by decide +kernel)) (by decide +kernel)
theorem ml_L_107 : Cond.methodLink RL 107 yX8_isPath ∈ TsG := TsG_t (List.mem_of_getElem? (i := 1000) (by decide +kernel)) (by decide +kernel)
theorem ml_L_108 : Cond.methodLink RL 108 yX7_isGlob ∈ TsG := TsG_t (List.mem_of_getElem? (i := 226) (by decide +kernel)) (by decide +kernel)
theorem ml_L_111 : Cond.methodLink RL 111 yX8_isGlob ∈ TsG := TsG_t (List.mem_of_getElem? (i := 1016) (by decide +kernel)) (by decide +kernel)
theorem ml_L_112 : Cond.methodLink RL 112 yL_addFile ∈ TsG := TsG_t (List.mem_of_getElem? (i := 493) (by decide +kernel)) (by decide +kernel)
theorem ml_L_115 : Cond.methodLink RL 115 yX8_addFile ∈ TsG := TsG_t (List.mem_of_getElem? (i := 1024) (by decide +kernel)) (by decide +kernel)
theorem ml_L_116 : Cond.methodLink RL 116 yX7_findFile ∈ TsG := TsG_t (List.mem_of_getElem? (i := 238) (by decide +kernel)) (by decide +kernel)
theorem ml_L_119 : Cond.methodLink RL 119 yX8_findFile ∈ TsG := TsG_t (List.mem_of_getElem? (i := 1035) (by decide +kernel)) (by decide +kernel)
theorem ml_L_120 : Cond.methodLink RL 120 yL_edit ∈ TsG := TsG_t (List.mem_of_getElem? (i := 566) (by decide +kernel)) (by decide +kernel)
theorem ml_L_123 : Cond.methodLink RL 123 yX8_edit ∈ TsG := TsG_t (List.mem_of_getElem? (i := 1039) (by decide +kernel)) (by decide +kernel)
theorem ml_L_124 : Cond.methodLink RL 124 yL_delete ∈ TsG := TsG_t (List.mem_of_getElem? (i := 595) (by decide +kernel)) (by decide +kernel)
theorem ml_L_126 : Cond.methodLink RL 126 yX8_delete ∈ TsG := TsG_t (List.mem_of_getElem? (i := 1047) (by decide +kernel)) (by decide +kernel)
theorem ml_L_127 : Cond.methodLink RL 127 yX7_files ∈ TsG := TsG_t (List.mem_of_getElem? (i := 250) (by decide +kernel)) (by decide +kernel)
theorem ml_L_130 : Cond.methodLink RL 130 yX8_files ∈ TsG := TsG_t (List.mem_of_getElem? (i := 1051) (by decide +kernel)) (by decide +kernel)
theorem ml_L_131 : Cond.methodLink RL 131 yL_matches ∈ TsG := TsG_t (List.mem_of_getElem? (i := 606) (by decide +kernel)) (by decide +kernel)
theorem ml_L_133 : Cond.methodLink RL 133 yX8_matches ∈ TsG := TsG_t (List.mem_of_getElem? (i := 1055) (by decide +kernel)) (by decide +kernel)
theorem ml_L_134 : Cond.methodLink RL 134 yL_addTarget ∈ TsG := TsG_t (List.mem_of_getElem? (i := 625) (by decide +kernel)) (by decide +kernel)
theorem ml_L_136 : Cond.methodLink RL 136 yX8_addTarget ∈ TsG := TsG_t (List.mem_of_getElem? (i := 1079) (by decide +kernel)) (by decide +kernel)
theorem ml_L_137 : Cond.methodLink RL 137 yL_addGlob ∈ TsG := TsG_t (List.mem_of_getElem? (i := 642) (by decide +kernel)) (by decide +kernel)
theorem ml_L_139 : Cond.methodLink RL 139 yX8_addGlob ∈ TsG := TsG_t (List.mem_of_getElem? (i := 1083) (by decide +kernel)) (by decide +kernel)
theorem ml_L_140 : Cond.methodLink RL 140 yL_depend ∈ TsG := TsG_t (List.mem_of_getElem? (i := 679) (by decide +kernel)) (by decide +kernel)
theorem ml_L_142 : Cond.methodLink RL 142 yX8_depend ∈ TsG := TsG_t (List.mem_of_getElem? (i := 1106) (by decide +kernel)) (by decide +kernel)
theorem ml_L_143 : Cond.methodLink RL 143 yX7_targets ∈ TsG := TsG_t (List.mem_of_getElem? (i := 258) (by decide +kernel)) (by decide +kernel)
theorem ml_L_146 : Cond.methodLink RL 146 yX8_targets ∈ TsG := TsG_t (List.mem_of_getElem? (i := 1118) (by decide +kernel)) (by decide +kernel)
theorem ml_L_147 : Cond.methodLink RL 147 yL_inputs ∈ TsG := TsG_t (List.mem_of_getElem? (i := 698) (by decide +kernel)) (by decide +kernel)
theorem ml_L_149 : Cond.methodLink RL 149 yX8_inputs ∈ TsG := TsG_t (List.mem_of_getElem? (i := 1122) (by decide +kernel)) (by decide +kernel)
theorem ml_L_150 : Cond.methodLink RL 150 yL_above ∈ TsG := TsG_t (List.mem_of_getElem? (i := 705) (by decide +kernel)) (by decide +kernel)
theorem ml_L_152 : Cond.methodLink RL 152 yX8_above ∈ TsG := TsG_t (List.mem_of_getElem? (i := 1126) (by decide +kernel)) (by decide +kernel)
theorem ml_L_153 : Cond.methodLink RL 153 yL_orderAt ∈ TsG := TsG_t (List.mem_of_getElem? (i := 712) (by decide +kernel)) (by decide +kernel)
theorem ml_L_155 : Cond.methodLink RL 155 yX8_orderAt ∈ TsG := TsG_t (List.mem_of_getElem? (i := 1130) (by decide +kernel)) (by decide +kernel)
theorem ml_L_156 : Cond.methodLink RL 156 yL_affectedBy ∈ TsG := TsG_t (List.mem_of_getElem? (i := 722) (by decide +kernel)) (by decide +kernel)
theorem ml_L_158 : Cond.methodLink RL 158 yX8_affectedBy ∈ TsG := TsG_t (List.mem_of_getElem? (i := 1138) (by decide +kernel)) (by decide +kernel)
theorem ml_L_159 : Cond.methodLink RL 159 yL_affectedByGoingDown ∈ TsG := TsG_t (List.mem_of_getElem? (i := 734) (by decide +kernel)) (by decide +kernel)
theorem ml_L_161 : Cond.methodLink RL 161 yX8_affectedByGoingDown ∈ TsG := TsG_t (List.mem_of_getElem? (i := 1146) (by decide +kernel)) (by decide +kernel)
theorem ml_L_162 : Cond.methodLink RL 162 yL_keyOf ∈ TsG := TsG_t (List.mem_of_getElem? (i := 749) (by decide +kernel)) (by decide +kernel)
theorem ml_L_164 : Cond.methodLink RL 164 yX8_keyOf ∈ TsG := TsG_t (List.mem_of_getElem? (i := 1150) (by decide +kernel)) (by decide +kernel)
theorem ml_L_165 : Cond.methodLink RL 165 yX7_needed ∈ TsG := TsG_t (List.mem_of_getElem? (i := 266) (by decide +kernel)) (by decide +kernel)
theorem ml_L_168 : Cond.methodLink RL 168 yX8_needed ∈ TsG := TsG_t (List.mem_of_getElem? (i := 1166) (by decide +kernel)) (by decide +kernel)
theorem ml_L_169 : Cond.methodLink RL 169 yL_whyRun ∈ TsG := TsG_t (List.mem_of_getElem? (i := 760) (by decide +kernel)) (by decide +kernel)
theorem ml_L_171 : Cond.methodLink RL 171 yX8_whyRun ∈ TsG := TsG_t (List.mem_of_getElem? (i := 1174) (by decide +kernel)) (by decide +kernel)
theorem ml_L_172 : Cond.methodLink RL 172 yL_run ∈ TsG := TsG_t (List.mem_of_getElem? (i := 775) (by decide +kernel)) (by decide +kernel)
theorem ml_L_174 : Cond.methodLink RL 174 yX8_run ∈ TsG := TsG_t (List.mem_of_getElem? (i := 1178) (by decide +kernel)) (by decide +kernel)
theorem ml_L_175 : Cond.methodLink RL 175 yL_runAll ∈ TsG := TsG_t (List.mem_of_getElem? (i := 793) (by decide +kernel)) (by decide +kernel)
theorem ml_L_178 : Cond.methodLink RL 178 yX8_runAll ∈ TsG := TsG_t (List.mem_of_getElem? (i := 1186) (by decide +kernel)) (by decide +kernel)
theorem ml_L_179 : Cond.methodLink RL 179 yX7_keys ∈ TsG := TsG_t (List.mem_of_getElem? (i := 337) (by decide +kernel)) (by decide +kernel)
theorem ml_L_182 : Cond.methodLink RL 182 yX8_keys ∈ TsG := TsG_t (List.mem_of_getElem? (i := 1190) (by decide +kernel)) (by decide +kernel)
theorem ml_L_183 : Cond.methodLink RL 183 yL_shardOf ∈ TsG := TsG_t (List.mem_of_getElem? (i := 806) (by decide +kernel)) (by decide +kernel)
theorem ml_L_185 : Cond.methodLink RL 185 yX8_shardOf ∈ TsG := TsG_t (List.mem_of_getElem? (i := 1194) (by decide +kernel)) (by decide +kernel)
theorem ml_L_186 : Cond.methodLink RL 186 yL_longestShard ∈ TsG := TsG_t (List.mem_of_getElem? (i := 844) (by decide +kernel)) (by decide +kernel)
theorem ml_L_188 : Cond.methodLink RL 188 yX8_longestShard ∈ TsG := TsG_t (List.mem_of_getElem? (i := 1202) (by decide +kernel)) (by decide +kernel)
theorem ml_L_189 : Cond.methodLink RL 189 yL_shardsFor ∈ TsG := TsG_t (List.mem_of_getElem? (i := 856) (by decide +kernel)) (by decide +kernel)
theorem ml_L_191 : Cond.methodLink RL 191 yX8_shardsFor ∈ TsG := TsG_t (List.mem_of_getElem? (i := 1206) (by decide +kernel)) (by decide +kernel)
theorem ml_L_192 : Cond.methodLink RL 192 yL_addRule ∈ TsG := TsG_t (List.mem_of_getElem? (i := 864) (by decide +kernel)) (by decide +kernel)
theorem ml_L_194 : Cond.methodLink RL 194 yX8_addRule ∈ TsG := TsG_t (List.mem_of_getElem? (i := 1210) (by decide +kernel)) (by decide +kernel)
theorem ml_L_195 : Cond.methodLink RL 195 yL_ownerOf ∈ TsG := TsG_t (List.mem_of_getElem? (i := 891) (by decide +kernel)) (by decide +kernel)
theorem ml_L_197 : Cond.methodLink RL 197 yX8_ownerOf ∈ TsG := TsG_t (List.mem_of_getElem? (i := 1214) (by decide +kernel)) (by decide +kernel)
theorem ml_L_198 : Cond.methodLink RL 198 yX7_mark ∈ TsG := TsG_t (List.mem_of_getElem? (i := 345) (by decide +kernel)) (by decide +kernel)
theorem ml_L_201 : Cond.methodLink RL 201 yX8_mark ∈ TsG := TsG_t (List.mem_of_getElem? (i := 1222) (by decide +kernel)) (by decide +kernel)
theorem ml_L_202 : Cond.methodLink RL 202 yX7_changed ∈ TsG := TsG_t (List.mem_of_getElem? (i := 362) (by decide +kernel)) (by decide +kernel)
theorem ml_L_205 : Cond.methodLink RL 205 yX8_changed ∈ TsG := TsG_t (List.mem_of_getElem? (i := 1226) (by decide +kernel)) (by decide +kernel)
theorem ml_L_206 : Cond.methodLink RL 206 yX7_reviewers ∈ TsG := TsG_t (List.mem_of_getElem? (i := 371) (by decide +kernel)) (by decide +kernel)
theorem ml_L_209 : Cond.methodLink RL 209 yX8_reviewers ∈ TsG := TsG_t (List.mem_of_getElem? (i := 1234) (by decide +kernel)) (by decide +kernel)
theorem ml_X0_29 : Cond.methodLink RX0 29 yX0_has ∈ TsG := TsG_t (List.mem_of_getElem? (i := 510) (by decide +kernel)) (by decide +kernel)
theorem ml_X0_40 : Cond.methodLink RX0 40 yX6_isSameAs ∈ TsG := TsG_t (List.mem_of_getElem? (i := 246) (by decide +kernel)) (by decide +kernel)
theorem ml_X0_44 : Cond.methodLink RX0 44 yX6_copyFrom ∈ TsG := TsG_t (List.mem_of_getElem? (i := 528) (by decide +kernel)) (by decide +kernel)
theorem ml_X0_48 : Cond.methodLink RX0 48 yX6_covers ∈ TsG := TsG_t (List.mem_of_getElem? (i := 672) (by decide +kernel)) (by decide +kernel)
theorem ml_X1_9 : Cond.methodLink RX1 9 yJ9_max_7cf53 ∈ TsG := TsG_t (List.mem_of_getElem? (i := 84) (by decide +kernel)) (by decide +kernel)
theorem ml_X1_35 : Cond.methodLink RX1 35 yX6_copyFrom ∈ TsG := TsG_t (List.mem_of_getElem? (i := 677) (by decide +kernel)) (by decide +kernel)
theorem ml_X1_39 : Cond.methodLink RX1 39 yX6_covers ∈ TsG := TsG_t (List.mem_of_getElem? (i := 540) (by decide +kernel)) (by decide +kernel)
theorem ml_X2_27 : Cond.methodLink RX2 27 yX1_init ∈ TsG := TsG_t (List.mem_of_getElem? (i := 80) (by decide +kernel)) (by decide +kernel)
theorem ml_X2_34 : Cond.methodLink RX2 34 yX1_meetFile ∈ TsG := TsG_t (List.mem_of_getElem? (i := 536) (by decide +kernel)) (by decide +kernel)
theorem ml_X2_38 : Cond.methodLink RX2 38 yX1_covered ∈ TsG := TsG_t (List.mem_of_getElem? (i := 733) (by decide +kernel)) (by decide +kernel)
theorem ml_X2_46 : Cond.methodLink RX2 46 yX2_downFrom ∈ TsG := TsG_t (List.mem_of_getElem? (i := 745) (by decide +kernel)) (by decide +kernel)
theorem ml_X2_50 : Cond.methodLink RX2 50 yX2_nextBehind ∈ TsG := TsG_t (List.mem_of_getElem? (i := 278) (by decide +kernel)) (by decide +kernel)
theorem ml_X2_53 : Cond.methodLink RX2 53 yX2_isNext ∈ TsG := TsG_t (List.mem_of_getElem? (i := 282) (by decide +kernel)) (by decide +kernel)
theorem ml_X3_41 : Cond.methodLink RX3 41 yX2_makeOrder ∈ TsG := TsG_t (List.mem_of_getElem? (i := 274) (by decide +kernel)) (by decide +kernel)
theorem ml_X3_46 : Cond.methodLink RX3 46 yX2_size ∈ TsG := TsG_t (List.mem_of_getElem? (i := 289) (by decide +kernel)) (by decide +kernel)
theorem ml_X3_50 : Cond.methodLink RX3 50 yX2_atPlace ∈ TsG := TsG_t (List.mem_of_getElem? (i := 290) (by decide +kernel)) (by decide +kernel)
theorem ml_X3_54 : Cond.methodLink RX3 54 yX3_lookUp ∈ TsG := TsG_t (List.mem_of_getElem? (i := 294) (by decide +kernel)) (by decide +kernel)
theorem ml_X3_58 : Cond.methodLink RX3 58 yX3_fillRow ∈ TsG := TsG_t (List.mem_of_getElem? (i := 298) (by decide +kernel)) (by decide +kernel)
theorem ml_X3_61 : Cond.methodLink RX3 61 yX3_agrees ∈ TsG := TsG_t (List.mem_of_getElem? (i := 332) (by decide +kernel)) (by decide +kernel)
theorem ml_X3_65 : Cond.methodLink RX3 65 yX3_give ∈ TsG := TsG_t (List.mem_of_getElem? (i := 788) (by decide +kernel)) (by decide +kernel)
theorem ml_X3_68 : Cond.methodLink RX3 68 yX3_runOrFind ∈ TsG := TsG_t (List.mem_of_getElem? (i := 805) (by decide +kernel)) (by decide +kernel)
theorem ml_X3_71 : Cond.methodLink RX3 71 yX3_dependenciesHaveKeys ∈ TsG := TsG_t (List.mem_of_getElem? (i := 320) (by decide +kernel)) (by decide +kernel)
theorem ml_X3_75 : Cond.methodLink RX3 75 yX3_keyOfRow ∈ TsG := TsG_t (List.mem_of_getElem? (i := 328) (by decide +kernel)) (by decide +kernel)
theorem ml_X3_78 : Cond.methodLink RX3 78 yX2_dependenciesOf ∈ TsG := TsG_t (List.mem_of_getElem? (i := 316) (by decide +kernel)) (by decide +kernel)
theorem ml_X3_81 : Cond.methodLink RX3 81 yX3_withoutKey ∈ TsG := TsG_t (List.mem_of_getElem? (i := 324) (by decide +kernel)) (by decide +kernel)
theorem ml_X3_84 : Cond.methodLink RX3 84 yX2_globsOf ∈ TsG := TsG_t (List.mem_of_getElem? (i := 302) (by decide +kernel)) (by decide +kernel)
theorem ml_X3_88 : Cond.methodLink RX3 88 yX1_covered ∈ TsG := TsG_t (List.mem_of_getElem? (i := 306) (by decide +kernel)) (by decide +kernel)
theorem ml_X3_93 : Cond.methodLink RX3 93 yX0_present ∈ TsG := TsG_t (List.mem_of_getElem? (i := 310) (by decide +kernel)) (by decide +kernel)
theorem ml_X3_100 : Cond.methodLink RX3 100 yX0_contentOf ∈ TsG := TsG_t (List.mem_of_getElem? (i := 312) (by decide +kernel)) (by decide +kernel)
theorem ml_X4_11 : Cond.methodLink RX4 11 yX1_init ∈ TsG := TsG_t (List.mem_of_getElem? (i := 171) (by decide +kernel)) (by decide +kernel)
theorem ml_X4_24 : Cond.methodLink RX4 24 yX1_size ∈ TsG := TsG_t (List.mem_of_getElem? (i := 882) (by decide +kernel)) (by decide +kernel)
theorem ml_X4_28 : Cond.methodLink RX4 28 yX1_isFull ∈ TsG := TsG_t (List.mem_of_getElem? (i := 876) (by decide +kernel)) (by decide +kernel)
theorem ml_X4_32 : Cond.methodLink RX4 32 yX1_add ∈ TsG := TsG_t (List.mem_of_getElem? (i := 886) (by decide +kernel)) (by decide +kernel)
theorem ml_X4_36 : Cond.methodLink RX4 36 yX1_meetFile ∈ TsG := TsG_t (List.mem_of_getElem? (i := 561) (by decide +kernel)) (by decide +kernel)
theorem ml_X4_40 : Cond.methodLink RX4 40 yX1_latestCovering ∈ TsG := TsG_t (List.mem_of_getElem? (i := 383) (by decide +kernel)) (by decide +kernel)
theorem ml_X4_44 : Cond.methodLink RX4 44 yX4_latestOwner ∈ TsG := TsG_t (List.mem_of_getElem? (i := 379) (by decide +kernel)) (by decide +kernel)
theorem ml_X5_18 : Cond.methodLink RX5 18 yJ7_fill_53178 ∈ TsG := TsG_t (List.mem_of_getElem? (i := 822) (by decide +kernel)) (by decide +kernel)
theorem ml_X5_24 : Cond.methodLink RX5 24 yJ6_bitCount_0f7a4 ∈ TsG := TsG_t (List.mem_of_getElem? (i := 825) (by decide +kernel)) (by decide +kernel)
theorem ml_X5_30 : Cond.methodLink RX5 30 yX5_dearest ∈ TsG := TsG_t (List.mem_of_getElem? (i := 826) (by decide +kernel)) (by decide +kernel)
theorem ml_X5_34 : Cond.methodLink RX5 34 yX5_lightest ∈ TsG := TsG_t (List.mem_of_getElem? (i := 836) (by decide +kernel)) (by decide +kernel)
theorem ml_X5_37 : Cond.methodLink RX5 37 yX2_costOf ∈ TsG := TsG_t (List.mem_of_getElem? (i := 832) (by decide +kernel)) (by decide +kernel)
theorem ml_X5_42 : Cond.methodLink RX5 42 yJ9_max_7cf53 ∈ TsG := TsG_t (List.mem_of_getElem? (i := 855) (by decide +kernel)) (by decide +kernel)
theorem ml_X5_48 : Cond.methodLink RX5 48 yX2_size ∈ TsG := TsG_t (List.mem_of_getElem? (i := 830) (by decide +kernel)) (by decide +kernel)
theorem ml_X6_19 : Cond.methodLink RX6 19 yX6_hasEmptySegment ∈ TsG := TsG_t (List.mem_of_getElem? (i := 218) (by decide +kernel)) (by decide +kernel)
theorem ml_X6_23 : Cond.methodLink RX6 23 yX6_isDoubleStar ∈ TsG := TsG_t (List.mem_of_getElem? (i := 234) (by decide +kernel)) (by decide +kernel)
theorem ml_X6_27 : Cond.methodLink RX6 27 yX6_signAt ∈ TsG := TsG_t (List.mem_of_getElem? (i := 222) (by decide +kernel)) (by decide +kernel)
theorem ml_X6_31 : Cond.methodLink RX6 31 yX6_startsFrom ∈ TsG := TsG_t (List.mem_of_getElem? (i := 544) (by decide +kernel)) (by decide +kernel)
theorem ml_X6_35 : Cond.methodLink RX6 35 yX6_overLetters ∈ TsG := TsG_t (List.mem_of_getElem? (i := 549) (by decide +kernel)) (by decide +kernel)
theorem ml_X6_38 : Cond.methodLink RX6 38 yX6_overSign ∈ TsG := TsG_t (List.mem_of_getElem? (i := 553) (by decide +kernel)) (by decide +kernel)
theorem ml_X7_18 : Cond.methodLink RX7 18 yX0_init ∈ TsG := TsG_t (List.mem_of_getElem? (i := 44) (by decide +kernel)) (by decide +kernel)
theorem ml_X7_25 : Cond.methodLink RX7 25 yX2_init ∈ TsG := TsG_t (List.mem_of_getElem? (i := 73) (by decide +kernel)) (by decide +kernel)
theorem ml_X7_32 : Cond.methodLink RX7 32 yX3_init ∈ TsG := TsG_t (List.mem_of_getElem? (i := 120) (by decide +kernel)) (by decide +kernel)
theorem ml_X7_53 : Cond.methodLink RX7 53 yX7_isSign ∈ TsG := TsG_t (List.mem_of_getElem? (i := 398) (by decide +kernel)) (by decide +kernel)
theorem ml_X7_64 : Cond.methodLink RX7 64 yX6_isFull ∈ TsG := TsG_t (List.mem_of_getElem? (i := 469) (by decide +kernel)) (by decide +kernel)
theorem ml_X7_73 : Cond.methodLink RX7 73 yX6_append ∈ TsG := TsG_t (List.mem_of_getElem? (i := 489) (by decide +kernel)) (by decide +kernel)
theorem ml_X7_77 : Cond.methodLink RX7 77 yX6_size ∈ TsG := TsG_t (List.mem_of_getElem? (i := 202) (by decide +kernel)) (by decide +kernel)
theorem ml_X7_81 : Cond.methodLink RX7 81 yX6_empty ∈ TsG := TsG_t (List.mem_of_getElem? (i := 206) (by decide +kernel)) (by decide +kernel)
theorem ml_X7_84 : Cond.methodLink RX7 84 yX6_hasPathForm ∈ TsG := TsG_t (List.mem_of_getElem? (i := 214) (by decide +kernel)) (by decide +kernel)
theorem ml_X7_87 : Cond.methodLink RX7 87 yX6_hasGlobForm ∈ TsG := TsG_t (List.mem_of_getElem? (i := 230) (by decide +kernel)) (by decide +kernel)
theorem ml_X7_90 : Cond.methodLink RX7 90 yX7_requireContent ∈ TsG := TsG_t (List.mem_of_getElem? (i := 500) (by decide +kernel)) (by decide +kernel)
theorem ml_X7_96 : Cond.methodLink RX7 96 yX0_numberOf ∈ TsG := TsG_t (List.mem_of_getElem? (i := 242) (by decide +kernel)) (by decide +kernel)
theorem ml_X7_100 : Cond.methodLink RX7 100 yX0_isThere ∈ TsG := TsG_t (List.mem_of_getElem? (i := 506) (by decide +kernel)) (by decide +kernel)
theorem ml_X7_106 : Cond.methodLink RX7 106 yX0_isFull ∈ TsG := TsG_t (List.mem_of_getElem? (i := 515) (by decide +kernel)) (by decide +kernel)
theorem ml_X7_109 : Cond.methodLink RX7 109 yX7_numberNewPath ∈ TsG := TsG_t (List.mem_of_getElem? (i := 520) (by decide +kernel)) (by decide +kernel)
theorem ml_X7_112 : Cond.methodLink RX7 112 yX0_put ∈ TsG := TsG_t (List.mem_of_getElem? (i := 562) (by decide +kernel)) (by decide +kernel)
theorem ml_X7_116 : Cond.methodLink RX7 116 yX7_requireFileThere ∈ TsG := TsG_t (List.mem_of_getElem? (i := 574) (by decide +kernel)) (by decide +kernel)
theorem ml_X7_119 : Cond.methodLink RX7 119 yX0_contentOf ∈ TsG := TsG_t (List.mem_of_getElem? (i := 594) (by decide +kernel)) (by decide +kernel)
theorem ml_X7_123 : Cond.methodLink RX7 123 yX0_remove ∈ TsG := TsG_t (List.mem_of_getElem? (i := 602) (by decide +kernel)) (by decide +kernel)
theorem ml_X7_126 : Cond.methodLink RX7 126 yX0_present ∈ TsG := TsG_t (List.mem_of_getElem? (i := 254) (by decide +kernel)) (by decide +kernel)
theorem ml_X7_129 : Cond.methodLink RX7 129 yX7_requireFile ∈ TsG := TsG_t (List.mem_of_getElem? (i := 613) (by decide +kernel)) (by decide +kernel)
theorem ml_X7_134 : Cond.methodLink RX7 134 yX0_pathOf ∈ TsG := TsG_t (List.mem_of_getElem? (i := 620) (by decide +kernel)) (by decide +kernel)
theorem ml_X7_138 : Cond.methodLink RX7 138 yX6_covers ∈ TsG := TsG_t (List.mem_of_getElem? (i := 624) (by decide +kernel)) (by decide +kernel)
theorem ml_X7_144 : Cond.methodLink RX7 144 yX2_isFull ∈ TsG := TsG_t (List.mem_of_getElem? (i := 633) (by decide +kernel)) (by decide +kernel)
theorem ml_X7_147 : Cond.methodLink RX7 147 yX2_add ∈ TsG := TsG_t (List.mem_of_getElem? (i := 638) (by decide +kernel)) (by decide +kernel)
theorem ml_X7_150 : Cond.methodLink RX7 150 yX7_requireTarget ∈ TsG := TsG_t (List.mem_of_getElem? (i := 649) (by decide +kernel)) (by decide +kernel)
theorem ml_X7_153 : Cond.methodLink RX7 153 yX7_requireGlob ∈ TsG := TsG_t (List.mem_of_getElem? (i := 658) (by decide +kernel)) (by decide +kernel)
theorem ml_X7_156 : Cond.methodLink RX7 156 yX2_globsOf ∈ TsG := TsG_t (List.mem_of_getElem? (i := 662) (by decide +kernel)) (by decide +kernel)
theorem ml_X7_160 : Cond.methodLink RX7 160 yX1_isFull ∈ TsG := TsG_t (List.mem_of_getElem? (i := 663) (by decide +kernel)) (by decide +kernel)
theorem ml_X7_165 : Cond.methodLink RX7 165 yX0_coveredBy ∈ TsG := TsG_t (List.mem_of_getElem? (i := 668) (by decide +kernel)) (by decide +kernel)
theorem ml_X7_168 : Cond.methodLink RX7 168 yX1_add ∈ TsG := TsG_t (List.mem_of_getElem? (i := 673) (by decide +kernel)) (by decide +kernel)
theorem ml_X7_171 : Cond.methodLink RX7 171 yX1_covered ∈ TsG := TsG_t (List.mem_of_getElem? (i := 678) (by decide +kernel)) (by decide +kernel)
theorem ml_X7_174 : Cond.methodLink RX7 174 yJ6_bitCount_0f7a4 ∈ TsG := TsG_t (List.mem_of_getElem? (i := 356) (by decide +kernel)) (by decide +kernel)
theorem ml_X7_179 : Cond.methodLink RX7 179 yX2_dependenciesOf ∈ TsG := TsG_t (List.mem_of_getElem? (i := 686) (by decide +kernel)) (by decide +kernel)
theorem ml_X7_182 : Cond.methodLink RX7 182 yX7_holds ∈ TsG := TsG_t (List.mem_of_getElem? (i := 687) (by decide +kernel)) (by decide +kernel)
theorem ml_X7_188 : Cond.methodLink RX7 188 yX2_upFrom ∈ TsG := TsG_t (List.mem_of_getElem? (i := 689) (by decide +kernel)) (by decide +kernel)
theorem ml_X7_193 : Cond.methodLink RX7 193 yX2_addDependency ∈ TsG := TsG_t (List.mem_of_getElem? (i := 694) (by decide +kernel)) (by decide +kernel)
theorem ml_X7_196 : Cond.methodLink RX7 196 yX2_size ∈ TsG := TsG_t (List.mem_of_getElem? (i := 262) (by decide +kernel)) (by decide +kernel)
theorem ml_X7_202 : Cond.methodLink RX7 202 yX2_makeOrder ∈ TsG := TsG_t (List.mem_of_getElem? (i := 720) (by decide +kernel)) (by decide +kernel)
theorem ml_X7_205 : Cond.methodLink RX7 205 yX2_atPlace ∈ TsG := TsG_t (List.mem_of_getElem? (i := 721) (by decide +kernel)) (by decide +kernel)
theorem ml_X7_208 : Cond.methodLink RX7 208 yX2_covering ∈ TsG := TsG_t (List.mem_of_getElem? (i := 729) (by decide +kernel)) (by decide +kernel)
theorem ml_X7_211 : Cond.methodLink RX7 211 yX2_reachingDown ∈ TsG := TsG_t (List.mem_of_getElem? (i := 741) (by decide +kernel)) (by decide +kernel)
theorem ml_X7_214 : Cond.methodLink RX7 214 yX3_lookUpAll ∈ TsG := TsG_t (List.mem_of_getElem? (i := 270) (by decide +kernel)) (by decide +kernel)
theorem ml_X7_217 : Cond.methodLink RX7 217 yX3_keyNow ∈ TsG := TsG_t (List.mem_of_getElem? (i := 756) (by decide +kernel)) (by decide +kernel)
theorem ml_X7_220 : Cond.methodLink RX7 220 yX3_withoutKey ∈ TsG := TsG_t (List.mem_of_getElem? (i := 336) (by decide +kernel)) (by decide +kernel)
theorem ml_X7_223 : Cond.methodLink RX7 223 yX3_hasRun ∈ TsG := TsG_t (List.mem_of_getElem? (i := 767) (by decide +kernel)) (by decide +kernel)
theorem ml_X7_226 : Cond.methodLink RX7 226 yX3_hasLatestInputs ∈ TsG := TsG_t (List.mem_of_getElem? (i := 771) (by decide +kernel)) (by decide +kernel)
theorem ml_X7_231 : Cond.methodLink RX7 231 yX3_given ∈ TsG := TsG_t (List.mem_of_getElem? (i := 341) (by decide +kernel)) (by decide +kernel)
theorem ml_X7_236 : Cond.methodLink RX7 236 yX3_runOrFind ∈ TsG := TsG_t (List.mem_of_getElem? (i := 784) (by decide +kernel)) (by decide +kernel)
theorem ml_X7_241 : Cond.methodLink RX7 241 yX3_runOrFindAll ∈ TsG := TsG_t (List.mem_of_getElem? (i := 801) (by decide +kernel)) (by decide +kernel)
theorem ml_X7_244 : Cond.methodLink RX7 244 yX7_requireShards ∈ TsG := TsG_t (List.mem_of_getElem? (i := 813) (by decide +kernel)) (by decide +kernel)
theorem ml_X7_247 : Cond.methodLink RX7 247 yX5_over ∈ TsG := TsG_t (List.mem_of_getElem? (i := 818) (by decide +kernel)) (by decide +kernel)
theorem ml_X7_251 : Cond.methodLink RX7 251 yX5_placeOf ∈ TsG := TsG_t (List.mem_of_getElem? (i := 840) (by decide +kernel)) (by decide +kernel)
theorem ml_X7_254 : Cond.methodLink RX7 254 yX5_greatestLoad ∈ TsG := TsG_t (List.mem_of_getElem? (i := 851) (by decide +kernel)) (by decide +kernel)
theorem ml_X7_261 : Cond.methodLink RX7 261 yX4_isFull ∈ TsG := TsG_t (List.mem_of_getElem? (i := 872) (by decide +kernel)) (by decide +kernel)
theorem ml_X7_264 : Cond.methodLink RX7 264 yX4_add ∈ TsG := TsG_t (List.mem_of_getElem? (i := 878) (by decide +kernel)) (by decide +kernel)
theorem ml_X7_267 : Cond.methodLink RX7 267 yX4_size ∈ TsG := TsG_t (List.mem_of_getElem? (i := 887) (by decide +kernel)) (by decide +kernel)
theorem ml_X7_268 : Cond.methodLink RX7 268 yX4_latestOwner ∈ TsG := TsG_t (List.mem_of_getElem? (i := 898) (by decide +kernel)) (by decide +kernel)
theorem ml_X7_271 : Cond.methodLink RX7 271 yX0_keepMark ∈ TsG := TsG_t (List.mem_of_getElem? (i := 349) (by decide +kernel)) (by decide +kernel)
theorem ml_X7_274 : Cond.methodLink RX7 274 yX0_sinceMark ∈ TsG := TsG_t (List.mem_of_getElem? (i := 366) (by decide +kernel)) (by decide +kernel)
theorem ml_X7_277 : Cond.methodLink RX7 277 yX4_ownersOfAll ∈ TsG := TsG_t (List.mem_of_getElem? (i := 375) (by decide +kernel)) (by decide +kernel)
theorem ml_X7_282 : Cond.methodLink RX7 282 yX0_has ∈ TsG := TsG_t (List.mem_of_getElem? (i := 617) (by decide +kernel)) (by decide +kernel)
theorem ml_X7_289 : Cond.methodLink RX7 289 yX2_has ∈ TsG := TsG_t (List.mem_of_getElem? (i := 653) (by decide +kernel)) (by decide +kernel)
theorem ml_X7_294 : Cond.methodLink RX7 294 yX0_addPath ∈ TsG := TsG_t (List.mem_of_getElem? (i := 524) (by decide +kernel)) (by decide +kernel)
theorem ml_X7_297 : Cond.methodLink RX7 297 yX2_meetFile ∈ TsG := TsG_t (List.mem_of_getElem? (i := 532) (by decide +kernel)) (by decide +kernel)
theorem ml_X7_301 : Cond.methodLink RX7 301 yX4_meetFile ∈ TsG := TsG_t (List.mem_of_getElem? (i := 557) (by decide +kernel)) (by decide +kernel)
theorem ml_X8_81 : Cond.methodLink RX8 81 yX8_at ∈ TsG := TsG_t (List.mem_of_getElem? (i := 1012) (by decide +kernel)) (by decide +kernel)
theorem ml_X8_85 : Cond.methodLink RX8 85 yX8_hasEmpty ∈ TsG := TsG_t (List.mem_of_getElem? (i := 1008) (by decide +kernel)) (by decide +kernel)
theorem ml_X8_89 : Cond.methodLink RX8 89 yX8_isPathNow ∈ TsG := TsG_t (List.mem_of_getElem? (i := 1004) (by decide +kernel)) (by decide +kernel)
theorem ml_X8_92 : Cond.methodLink RX8 92 yX8_isGlobNow ∈ TsG := TsG_t (List.mem_of_getElem? (i := 1020) (by decide +kernel)) (by decide +kernel)
theorem ml_X8_95 : Cond.methodLink RX8 95 yX8_pathAt ∈ TsG := TsG_t (List.mem_of_getElem? (i := 1067) (by decide +kernel)) (by decide +kernel)
theorem ml_X8_98 : Cond.methodLink RX8 98 yX8_endOf ∈ TsG := TsG_t (List.mem_of_getElem? (i := 1063) (by decide +kernel)) (by decide +kernel)
theorem ml_X8_101 : Cond.methodLink RX8 101 yX8_isLaid ∈ TsG := TsG_t (List.mem_of_getElem? (i := 1071) (by decide +kernel)) (by decide +kernel)
theorem ml_X8_105 : Cond.methodLink RX8 105 yX8_begins ∈ TsG := TsG_t (List.mem_of_getElem? (i := 1075) (by decide +kernel)) (by decide +kernel)
theorem ml_X8_111 : Cond.methodLink RX8 111 yX8_isIn ∈ TsG := TsG_t (List.mem_of_getElem? (i := 1028) (by decide +kernel)) (by decide +kernel)
theorem ml_X8_115 : Cond.methodLink RX8 115 yX8_fileOf ∈ TsG := TsG_t (List.mem_of_getElem? (i := 1031) (by decide +kernel)) (by decide +kernel)
theorem ml_X8_119 : Cond.methodLink RX8 119 yX8_isThere ∈ TsG := TsG_t (List.mem_of_getElem? (i := 1043) (by decide +kernel)) (by decide +kernel)
theorem ml_X8_123 : Cond.methodLink RX8 123 yX8_isMatched ∈ TsG := TsG_t (List.mem_of_getElem? (i := 1059) (by decide +kernel)) (by decide +kernel)
theorem ml_X8_130 : Cond.methodLink RX8 130 yX8_takes ∈ TsG := TsG_t (List.mem_of_getElem? (i := 1099) (by decide +kernel)) (by decide +kernel)
theorem ml_X8_133 : Cond.methodLink RX8 133 yX8_isTarget ∈ TsG := TsG_t (List.mem_of_getElem? (i := 1087) (by decide +kernel)) (by decide +kernel)
theorem ml_X8_136 : Cond.methodLink RX8 136 yX8_copies ∈ TsG := TsG_t (List.mem_of_getElem? (i := 1091) (by decide +kernel)) (by decide +kernel)
theorem ml_X8_140 : Cond.methodLink RX8 140 yX8_inputsOf ∈ TsG := TsG_t (List.mem_of_getElem? (i := 1095) (by decide +kernel)) (by decide +kernel)
theorem ml_X8_144 : Cond.methodLink RX8 144 yX8_count ∈ TsG := TsG_t (List.mem_of_getElem? (i := 1103) (by decide +kernel)) (by decide +kernel)
theorem ml_X8_147 : Cond.methodLink RX8 147 yX8_upwards ∈ TsG := TsG_t (List.mem_of_getElem? (i := 1114) (by decide +kernel)) (by decide +kernel)
theorem ml_X8_150 : Cond.methodLink RX8 150 yX8_aboveOf ∈ TsG := TsG_t (List.mem_of_getElem? (i := 1110) (by decide +kernel)) (by decide +kernel)
theorem ml_X8_153 : Cond.methodLink RX8 153 yX8_orders ∈ TsG := TsG_t (List.mem_of_getElem? (i := 1134) (by decide +kernel)) (by decide +kernel)
theorem ml_X8_156 : Cond.methodLink RX8 156 yX8_affected ∈ TsG := TsG_t (List.mem_of_getElem? (i := 1142) (by decide +kernel)) (by decide +kernel)
theorem ml_X8_162 : Cond.methodLink RX8 162 yX8_hasInputs ∈ TsG := TsG_t (List.mem_of_getElem? (i := 1162) (by decide +kernel)) (by decide +kernel)
theorem ml_X8_165 : Cond.methodLink RX8 165 yX8_given ∈ TsG := TsG_t (List.mem_of_getElem? (i := 1158) (by decide +kernel)) (by decide +kernel)
theorem ml_X8_168 : Cond.methodLink RX8 168 yX8_laysKeys ∈ TsG := TsG_t (List.mem_of_getElem? (i := 1154) (by decide +kernel)) (by decide +kernel)
theorem ml_X8_171 : Cond.methodLink RX8 171 yX8_neededNow ∈ TsG := TsG_t (List.mem_of_getElem? (i := 1170) (by decide +kernel)) (by decide +kernel)
theorem ml_X8_174 : Cond.methodLink RX8 174 yX8_runs ∈ TsG := TsG_t (List.mem_of_getElem? (i := 1182) (by decide +kernel)) (by decide +kernel)
theorem ml_X8_177 : Cond.methodLink RX8 177 yX8_spreads ∈ TsG := TsG_t (List.mem_of_getElem? (i := 1198) (by decide +kernel)) (by decide +kernel)
theorem ml_X8_183 : Cond.methodLink RX8 183 yX8_ownerNow ∈ TsG := TsG_t (List.mem_of_getElem? (i := 1218) (by decide +kernel)) (by decide +kernel)
theorem ml_X8_186 : Cond.methodLink RX8 186 yX8_isChanged ∈ TsG := TsG_t (List.mem_of_getElem? (i := 1230) (by decide +kernel)) (by decide +kernel)
theorem ml_X0_54 : Cond.methodLink RX0 54 arraycopyName ∈ TsG := TsG_t (List.mem_of_getElem? (i := 353) (by decide +kernel)) (by decide +kernel)
theorem mx_X1_9 : Cond.methodLink RX1 9 Lib.Math.max.name ∈ TsG := TsG_t (List.mem_of_getElem? (i := 84) (by decide +kernel)) (by decide +kernel)
theorem ml_X3_103 : Cond.methodLink RX3 103 arraycopyName ∈ TsG := TsG_t (List.mem_of_getElem? (i := 792) (by decide +kernel)) (by decide +kernel)
theorem mx_X5_42 : Cond.methodLink RX5 42 Lib.Math.max.name ∈ TsG := TsG_t (List.mem_of_getElem? (i := 855) (by decide +kernel)) (by decide +kernel)
theorem ac_nat : Cond.native arraycopyName ∈ TsG := TsG_t (List.mem_of_getElem? (i := 355) (by decide +kernel)) (by decide +kernel)
theorem ac_stat : Cond.static arraycopyName ∈ TsG := TsG_t (List.mem_of_getElem? (i := 354) (by decide +kernel)) (by decide +kernel)
theorem ac_ini : Cond.initialized "java/lang/System" ∈ TsG := TsG_t (List.mem_of_getElem? (i := 18) (by decide +kernel)) (by decide +kernel)
theorem mx_stat : Cond.static Lib.Math.max.name ∈ TsG := TsG_t (List.mem_of_getElem? (i := 85) (by decide +kernel)) (by decide +kernel)
theorem mx_ini : Cond.initialized "java/lang/Math" ∈ TsG := TsG_t (List.mem_of_getElem? (i := 6) (by decide +kernel)) (by decide +kernel)
theorem mx_code : Cond.code Lib.Math.max.name Lib.Math.max.code 2 (some .int) ∈ TsG := TsG_t (List.mem_of_getElem? (i := 86) (by decide +kernel)) (by decide +kernel)
theorem ct_J6_265 : Cond.constant RJ6 265 (1431655765) ∈ TsG := TsG_t (List.mem_of_getElem? (i := 359) (by decide +kernel)) (by decide +kernel)
theorem ct_J6_266 : Cond.constant RJ6 266 (858993459) ∈ TsG := TsG_t (List.mem_of_getElem? (i := 360) (by decide +kernel)) (by decide +kernel)
theorem ct_J6_267 : Cond.constant RJ6 267 (252645135) ∈ TsG := TsG_t (List.mem_of_getElem? (i := 361) (by decide +kernel)) (by decide +kernel)
theorem cl_L_8 : Cond.classLink RL 8 "Monobuild" ∈ TsG := TsG_t (List.mem_of_getElem? (i := 20) (by decide +kernel)) (by decide +kernel)
theorem cl_L_13 : Cond.classLink RL 13 "java/lang/IllegalArgumentException" ∈ TsG := TsG_t (List.mem_of_getElem? (i := 392) (by decide +kernel)) (by decide +kernel)
theorem cl_L_15 : Cond.classLink RL 15 "java/lang/IllegalStateException" ∈ TsG := TsG_t (List.mem_of_getElem? (i := 393) (by decide +kernel)) (by decide +kernel)
theorem cl_L_25 : Cond.classLink RL 25 "java/lang/IndexOutOfBoundsException" ∈ TsG := TsG_t (List.mem_of_getElem? (i := 569) (by decide +kernel)) (by decide +kernel)
theorem cl_L_87 : Cond.classLink RL 87 "MonobuildModel" ∈ TsG := TsG_t (List.mem_of_getElem? (i := 899) (by decide +kernel)) (by decide +kernel)
theorem cl_X0_9 : Cond.classLink RX0 9 "Monobuild$Text" ∈ TsG := TsG_t (List.mem_of_getElem? (i := 48) (by decide +kernel)) (by decide +kernel)
theorem cl_X1_21 : Cond.classLink RX1 21 "Monobuild$Text" ∈ TsG := TsG_t (List.mem_of_getElem? (i := 87) (by decide +kernel)) (by decide +kernel)
theorem cl_X2_18 : Cond.classLink RX2 18 "Monobuild$Globs" ∈ TsG := TsG_t (List.mem_of_getElem? (i := 77) (by decide +kernel)) (by decide +kernel)
theorem cl_X3_11 : Cond.classLink RX3 11 "[[I" ∈ TsG := TsG_t (List.mem_of_getElem? (i := 124) (by decide +kernel)) (by decide +kernel)
theorem cl_X4_9 : Cond.classLink RX4 9 "Monobuild$Globs" ∈ TsG := TsG_t (List.mem_of_getElem? (i := 170) (by decide +kernel)) (by decide +kernel)
theorem cl_X7_7 : Cond.classLink RX7 7 "Monobuild$Text" ∈ TsG := TsG_t (List.mem_of_getElem? (i := 28) (by decide +kernel)) (by decide +kernel)
theorem cl_X7_16 : Cond.classLink RX7 16 "Monobuild$FileTable" ∈ TsG := TsG_t (List.mem_of_getElem? (i := 42) (by decide +kernel)) (by decide +kernel)
theorem cl_X7_23 : Cond.classLink RX7 23 "Monobuild$Graph" ∈ TsG := TsG_t (List.mem_of_getElem? (i := 71) (by decide +kernel)) (by decide +kernel)
theorem cl_X7_30 : Cond.classLink RX7 30 "Monobuild$KeyBook" ∈ TsG := TsG_t (List.mem_of_getElem? (i := 118) (by decide +kernel)) (by decide +kernel)
theorem cl_X7_39 : Cond.classLink RX7 39 "Monobuild$Spread" ∈ TsG := TsG_t (List.mem_of_getElem? (i := 151) (by decide +kernel)) (by decide +kernel)
theorem cl_X7_46 : Cond.classLink RX7 46 "Monobuild$RuleBook" ∈ TsG := TsG_t (List.mem_of_getElem? (i := 164) (by decide +kernel)) (by decide +kernel)
theorem cl_X7_57 : Cond.classLink RX7 57 "java/lang/IllegalArgumentException" ∈ TsG := TsG_t (List.mem_of_getElem? (i := 401) (by decide +kernel)) (by decide +kernel)
theorem cl_X7_68 : Cond.classLink RX7 68 "java/lang/IllegalStateException" ∈ TsG := TsG_t (List.mem_of_getElem? (i := 473) (by decide +kernel)) (by decide +kernel)
theorem cl_X7_197 : Cond.classLink RX7 197 "java/lang/IndexOutOfBoundsException" ∈ TsG := TsG_t (List.mem_of_getElem? (i := 578) (by decide +kernel)) (by decide +kernel)
theorem nl_X0_24 : (RX0, 24, yX6_init) ∈ gx_nst := List.mem_of_getElem? (i := 1) rfl
theorem nl_X0_36 : (RX0, 36, yX7_holds) ∈ gx_nst := List.mem_of_getElem? (i := 7) rfl
theorem nl_X1_31 : (RX1, 31, yX6_init) ∈ gx_nst := List.mem_of_getElem? (i := 2) rfl
theorem nl_X1_43 : (RX1, 43, yX7_holds) ∈ gx_nst := List.mem_of_getElem? (i := 8) rfl
theorem nl_X2_42 : (RX2, 42, yX7_holds) ∈ gx_nst := List.mem_of_getElem? (i := 5) rfl
theorem nl_X3_97 : (RX3, 97, yX7_holds) ∈ gx_nst := List.mem_of_getElem? (i := 6) rfl
theorem nl_X4_47 : (RX4, 47, yX7_holds) ∈ gx_nst := List.mem_of_getElem? (i := 9) rfl
theorem nl_X5_52 : (RX5, 52, yX7_holds) ∈ gx_nst := List.mem_of_getElem? (i := 11) rfl
theorem nl_X6_42 : (RX6, 42, yX7_holds) ∈ gx_nst := List.mem_of_getElem? (i := 10) rfl
theorem nl_X7_9 : (RX7, 9, yX6_init) ∈ gx_nst := List.mem_of_getElem? (i := 0) rfl
theorem nl_X7_41 : (RX7, 41, yX5_init) ∈ gx_nst := List.mem_of_getElem? (i := 3) rfl
theorem nl_X7_48 : (RX7, 48, yX4_init) ∈ gx_nst := List.mem_of_getElem? (i := 4) rfl
theorem in_J10 : Cond.initialized RJ10 ∈ TsG := TsG_t (List.mem_of_getElem? (i := 18) (by decide +kernel)) (by decide +kernel)
theorem in_J6 : Cond.initialized RJ6 ∈ TsG := TsG_t (List.mem_of_getElem? (i := 17) (by decide +kernel)) (by decide +kernel)
theorem in_J7 : Cond.initialized RJ7 ∈ TsG := TsG_t (List.mem_of_getElem? (i := 19) (by decide +kernel)) (by decide +kernel)
theorem in_J9 : Cond.initialized RJ9 ∈ TsG := TsG_t (List.mem_of_getElem? (i := 6) (by decide +kernel)) (by decide +kernel)
theorem in_L : Cond.initialized RL ∈ TsG := TsG_t (List.mem_of_getElem? (i := 0) (by decide +kernel)) (by decide +kernel)
theorem in_X0 : Cond.initialized RX0 ∈ TsG := TsG_t (List.mem_of_getElem? (i := 3) (by decide +kernel)) (by decide +kernel)
theorem in_X1 : Cond.initialized RX1 ∈ TsG := TsG_t (List.mem_of_getElem? (i := 5) (by decide +kernel)) (by decide +kernel)
theorem in_X2 : Cond.initialized RX2 ∈ TsG := TsG_t (List.mem_of_getElem? (i := 4) (by decide +kernel)) (by decide +kernel)
theorem in_X3 : Cond.initialized RX3 ∈ TsG := TsG_t (List.mem_of_getElem? (i := 7) (by decide +kernel)) (by decide +kernel)
theorem in_X4 : Cond.initialized RX4 ∈ TsG := TsG_t (List.mem_of_getElem? (i := 9) (by decide +kernel)) (by decide +kernel)
theorem in_X5 : Cond.initialized RX5 ∈ TsG := TsG_t (List.mem_of_getElem? (i := 8) (by decide +kernel)) (by decide +kernel)
theorem in_X6 : Cond.initialized RX6 ∈ TsG := TsG_t (List.mem_of_getElem? (i := 2) (by decide +kernel)) (by decide +kernel)
theorem in_X7 : Cond.initialized RX7 ∈ TsG := TsG_t (List.mem_of_getElem? (i := 1) (by decide +kernel)) (by decide +kernel)
theorem in_X8 : Cond.initialized RX8 ∈ TsG := TsG_t (List.mem_of_getElem? (i := 10) (by decide +kernel)) (by decide +kernel)
theorem in_E1 : Cond.initialized "java/lang/IllegalArgumentException" ∈ TsG := TsG_t (List.mem_of_getElem? (i := 14) (by decide +kernel)) (by decide +kernel)
theorem in_E2 : Cond.initialized "java/lang/IllegalStateException" ∈ TsG := TsG_t (List.mem_of_getElem? (i := 15) (by decide +kernel)) (by decide +kernel)
theorem in_E3 : Cond.initialized "java/lang/IndexOutOfBoundsException" ∈ TsG := TsG_t (List.mem_of_getElem? (i := 16) (by decide +kernel)) (by decide +kernel)
theorem pk_J6_bitCount_0f7a4 : PkS yJ6_bitCount_0f7a4 cJ6_bitCount_0f7a4 1 (some .int) 1 := ⟨⟨TsG_t (List.mem_of_getElem? (i := 358) (by decide +kernel)) (by decide +kernel), in_J6, by decide +kernel, by decide +kernel, by decide +kernel⟩, TsG_t (List.mem_of_getElem? (i := 357) (by decide +kernel)) (by decide +kernel)⟩
theorem pk_J7_fill_53178 : PkS yJ7_fill_53178 cJ7_fill_53178 4 none 2 := ⟨⟨TsG_t (List.mem_of_getElem? (i := 824) (by decide +kernel)) (by decide +kernel), in_J7, by decide +kernel, by decide +kernel, by decide +kernel⟩, TsG_t (List.mem_of_getElem? (i := 823) (by decide +kernel)) (by decide +kernel)⟩
theorem pk_X0_addPath : PkV yX0_addPath cX0_addPath 3 (some .int) 1 := ⟨⟨TsG_t (List.mem_of_getElem? (i := 527) (by decide +kernel)) (by decide +kernel), in_X0, by decide +kernel, by decide +kernel, by decide +kernel⟩, TsG_t (List.mem_of_getElem? (i := 525) (by decide +kernel)) (by decide +kernel), TsG_t (List.mem_of_getElem? (i := 526) (by decide +kernel)) (by decide +kernel)⟩
theorem pk_X0_contentOf : PkV yX0_contentOf cX0_contentOf 2 (some .int) 1 := ⟨⟨TsG_t (List.mem_of_getElem? (i := 315) (by decide +kernel)) (by decide +kernel), in_X0, by decide +kernel, by decide +kernel, by decide +kernel⟩, TsG_t (List.mem_of_getElem? (i := 313) (by decide +kernel)) (by decide +kernel), TsG_t (List.mem_of_getElem? (i := 314) (by decide +kernel)) (by decide +kernel)⟩
theorem pk_X0_coveredBy : PkV yX0_coveredBy cX0_coveredBy 4 (some .int) 1 := ⟨⟨TsG_t (List.mem_of_getElem? (i := 671) (by decide +kernel)) (by decide +kernel), in_X0, by decide +kernel, by decide +kernel, by decide +kernel⟩, TsG_t (List.mem_of_getElem? (i := 669) (by decide +kernel)) (by decide +kernel), TsG_t (List.mem_of_getElem? (i := 670) (by decide +kernel)) (by decide +kernel)⟩
theorem pk_X0_has : PkV yX0_has cX0_has 2 (some .boolean) 1 := ⟨⟨TsG_t (List.mem_of_getElem? (i := 513) (by decide +kernel)) (by decide +kernel), in_X0, by decide +kernel, by decide +kernel, by decide +kernel⟩, TsG_t (List.mem_of_getElem? (i := 511) (by decide +kernel)) (by decide +kernel), TsG_t (List.mem_of_getElem? (i := 512) (by decide +kernel)) (by decide +kernel)⟩
theorem pk_X0_init : Pk yX0_init cX0_init 2 none 0 ∧ Cond.instanceMethod yX0_init ∈ TsG := ⟨⟨TsG_t (List.mem_of_getElem? (i := 46) (by decide +kernel)) (by decide +kernel), in_X0, by decide +kernel, by decide +kernel, by decide +kernel⟩, TsG_t (List.mem_of_getElem? (i := 45) (by decide +kernel)) (by decide +kernel)⟩
theorem pk_X0_isFull : PkV yX0_isFull cX0_isFull 1 (some .boolean) 0 := ⟨⟨TsG_t (List.mem_of_getElem? (i := 518) (by decide +kernel)) (by decide +kernel), in_X0, by decide +kernel, by decide +kernel, by decide +kernel⟩, TsG_t (List.mem_of_getElem? (i := 516) (by decide +kernel)) (by decide +kernel), TsG_t (List.mem_of_getElem? (i := 517) (by decide +kernel)) (by decide +kernel)⟩
theorem pk_X0_isThere : PkV yX0_isThere cX0_isThere 2 (some .boolean) 1 := ⟨⟨TsG_t (List.mem_of_getElem? (i := 509) (by decide +kernel)) (by decide +kernel), in_X0, by decide +kernel, by decide +kernel, by decide +kernel⟩, TsG_t (List.mem_of_getElem? (i := 507) (by decide +kernel)) (by decide +kernel), TsG_t (List.mem_of_getElem? (i := 508) (by decide +kernel)) (by decide +kernel)⟩
theorem pk_X0_keepMark : PkV yX0_keepMark cX0_keepMark 1 none 0 := ⟨⟨TsG_t (List.mem_of_getElem? (i := 352) (by decide +kernel)) (by decide +kernel), in_X0, by decide +kernel, by decide +kernel, by decide +kernel⟩, TsG_t (List.mem_of_getElem? (i := 350) (by decide +kernel)) (by decide +kernel), TsG_t (List.mem_of_getElem? (i := 351) (by decide +kernel)) (by decide +kernel)⟩
theorem pk_X0_numberOf : PkV yX0_numberOf cX0_numberOf 3 (some .int) 1 := ⟨⟨TsG_t (List.mem_of_getElem? (i := 245) (by decide +kernel)) (by decide +kernel), in_X0, by decide +kernel, by decide +kernel, by decide +kernel⟩, TsG_t (List.mem_of_getElem? (i := 243) (by decide +kernel)) (by decide +kernel), TsG_t (List.mem_of_getElem? (i := 244) (by decide +kernel)) (by decide +kernel)⟩
theorem pk_X0_pathOf : PkV yX0_pathOf cX0_pathOf 2 (some (.object "Monobuild$Text")) 1 := ⟨⟨TsG_t (List.mem_of_getElem? (i := 623) (by decide +kernel)) (by decide +kernel), in_X0, by decide +kernel, by decide +kernel, by decide +kernel⟩, TsG_t (List.mem_of_getElem? (i := 621) (by decide +kernel)) (by decide +kernel), TsG_t (List.mem_of_getElem? (i := 622) (by decide +kernel)) (by decide +kernel)⟩
theorem pk_X0_present : PkV yX0_present cX0_present 1 (some .int) 0 := ⟨⟨TsG_t (List.mem_of_getElem? (i := 257) (by decide +kernel)) (by decide +kernel), in_X0, by decide +kernel, by decide +kernel, by decide +kernel⟩, TsG_t (List.mem_of_getElem? (i := 255) (by decide +kernel)) (by decide +kernel), TsG_t (List.mem_of_getElem? (i := 256) (by decide +kernel)) (by decide +kernel)⟩
theorem pk_X0_put : PkV yX0_put cX0_put 3 none 2 := ⟨⟨TsG_t (List.mem_of_getElem? (i := 565) (by decide +kernel)) (by decide +kernel), in_X0, by decide +kernel, by decide +kernel, by decide +kernel⟩, TsG_t (List.mem_of_getElem? (i := 563) (by decide +kernel)) (by decide +kernel), TsG_t (List.mem_of_getElem? (i := 564) (by decide +kernel)) (by decide +kernel)⟩
theorem pk_X0_remove : PkV yX0_remove cX0_remove 2 none 1 := ⟨⟨TsG_t (List.mem_of_getElem? (i := 605) (by decide +kernel)) (by decide +kernel), in_X0, by decide +kernel, by decide +kernel, by decide +kernel⟩, TsG_t (List.mem_of_getElem? (i := 603) (by decide +kernel)) (by decide +kernel), TsG_t (List.mem_of_getElem? (i := 604) (by decide +kernel)) (by decide +kernel)⟩
theorem pk_X0_sinceMark : PkV yX0_sinceMark cX0_sinceMark 3 (some .int) 0 := ⟨⟨TsG_t (List.mem_of_getElem? (i := 369) (by decide +kernel)) (by decide +kernel), in_X0, by decide +kernel, by decide +kernel, by decide +kernel⟩, TsG_t (List.mem_of_getElem? (i := 367) (by decide +kernel)) (by decide +kernel), TsG_t (List.mem_of_getElem? (i := 368) (by decide +kernel)) (by decide +kernel)⟩
theorem pk_X1_add : PkV yX1_add cX1_add 3 none 2 := ⟨⟨TsG_t (List.mem_of_getElem? (i := 676) (by decide +kernel)) (by decide +kernel), in_X1, by decide +kernel, by decide +kernel, by decide +kernel⟩, TsG_t (List.mem_of_getElem? (i := 674) (by decide +kernel)) (by decide +kernel), TsG_t (List.mem_of_getElem? (i := 675) (by decide +kernel)) (by decide +kernel)⟩
theorem pk_X1_covered : PkV yX1_covered cX1_covered 3 (some .int) 0 := ⟨⟨TsG_t (List.mem_of_getElem? (i := 309) (by decide +kernel)) (by decide +kernel), in_X1, by decide +kernel, by decide +kernel, by decide +kernel⟩, TsG_t (List.mem_of_getElem? (i := 307) (by decide +kernel)) (by decide +kernel), TsG_t (List.mem_of_getElem? (i := 308) (by decide +kernel)) (by decide +kernel)⟩
theorem pk_X1_init : Pk yX1_init cX1_init 3 none 1 ∧ Cond.instanceMethod yX1_init ∈ TsG := ⟨⟨TsG_t (List.mem_of_getElem? (i := 82) (by decide +kernel)) (by decide +kernel), in_X1, by decide +kernel, by decide +kernel, by decide +kernel⟩, TsG_t (List.mem_of_getElem? (i := 81) (by decide +kernel)) (by decide +kernel)⟩
theorem pk_X1_isFull : PkV yX1_isFull cX1_isFull 1 (some .boolean) 0 := ⟨⟨TsG_t (List.mem_of_getElem? (i := 666) (by decide +kernel)) (by decide +kernel), in_X1, by decide +kernel, by decide +kernel, by decide +kernel⟩, TsG_t (List.mem_of_getElem? (i := 664) (by decide +kernel)) (by decide +kernel), TsG_t (List.mem_of_getElem? (i := 665) (by decide +kernel)) (by decide +kernel)⟩
theorem pk_X1_latestCovering : PkV yX1_latestCovering cX1_latestCovering 3 (some .int) 1 := ⟨⟨TsG_t (List.mem_of_getElem? (i := 386) (by decide +kernel)) (by decide +kernel), in_X1, by decide +kernel, by decide +kernel, by decide +kernel⟩, TsG_t (List.mem_of_getElem? (i := 384) (by decide +kernel)) (by decide +kernel), TsG_t (List.mem_of_getElem? (i := 385) (by decide +kernel)) (by decide +kernel)⟩
theorem pk_X1_meetFile : PkV yX1_meetFile cX1_meetFile 4 none 2 := ⟨⟨TsG_t (List.mem_of_getElem? (i := 539) (by decide +kernel)) (by decide +kernel), in_X1, by decide +kernel, by decide +kernel, by decide +kernel⟩, TsG_t (List.mem_of_getElem? (i := 537) (by decide +kernel)) (by decide +kernel), TsG_t (List.mem_of_getElem? (i := 538) (by decide +kernel)) (by decide +kernel)⟩
theorem pk_X1_size : PkV yX1_size cX1_size 1 (some .int) 0 := ⟨⟨TsG_t (List.mem_of_getElem? (i := 885) (by decide +kernel)) (by decide +kernel), in_X1, by decide +kernel, by decide +kernel, by decide +kernel⟩, TsG_t (List.mem_of_getElem? (i := 883) (by decide +kernel)) (by decide +kernel), TsG_t (List.mem_of_getElem? (i := 884) (by decide +kernel)) (by decide +kernel)⟩
theorem pk_X2_add : PkV yX2_add cX2_add 3 (some .int) 1 := ⟨⟨TsG_t (List.mem_of_getElem? (i := 641) (by decide +kernel)) (by decide +kernel), in_X2, by decide +kernel, by decide +kernel, by decide +kernel⟩, TsG_t (List.mem_of_getElem? (i := 639) (by decide +kernel)) (by decide +kernel), TsG_t (List.mem_of_getElem? (i := 640) (by decide +kernel)) (by decide +kernel)⟩
theorem pk_X2_addDependency : PkV yX2_addDependency cX2_addDependency 3 none 2 := ⟨⟨TsG_t (List.mem_of_getElem? (i := 697) (by decide +kernel)) (by decide +kernel), in_X2, by decide +kernel, by decide +kernel, by decide +kernel⟩, TsG_t (List.mem_of_getElem? (i := 695) (by decide +kernel)) (by decide +kernel), TsG_t (List.mem_of_getElem? (i := 696) (by decide +kernel)) (by decide +kernel)⟩
theorem pk_X2_atPlace : PkV yX2_atPlace cX2_atPlace 2 (some .int) 1 := ⟨⟨TsG_t (List.mem_of_getElem? (i := 293) (by decide +kernel)) (by decide +kernel), in_X2, by decide +kernel, by decide +kernel, by decide +kernel⟩, TsG_t (List.mem_of_getElem? (i := 291) (by decide +kernel)) (by decide +kernel), TsG_t (List.mem_of_getElem? (i := 292) (by decide +kernel)) (by decide +kernel)⟩
theorem pk_X2_costOf : PkV yX2_costOf cX2_costOf 2 (some .int) 1 := ⟨⟨TsG_t (List.mem_of_getElem? (i := 835) (by decide +kernel)) (by decide +kernel), in_X2, by decide +kernel, by decide +kernel, by decide +kernel⟩, TsG_t (List.mem_of_getElem? (i := 833) (by decide +kernel)) (by decide +kernel), TsG_t (List.mem_of_getElem? (i := 834) (by decide +kernel)) (by decide +kernel)⟩
theorem pk_X2_covering : PkV yX2_covering cX2_covering 4 (some .int) 1 := ⟨⟨TsG_t (List.mem_of_getElem? (i := 732) (by decide +kernel)) (by decide +kernel), in_X2, by decide +kernel, by decide +kernel, by decide +kernel⟩, TsG_t (List.mem_of_getElem? (i := 730) (by decide +kernel)) (by decide +kernel), TsG_t (List.mem_of_getElem? (i := 731) (by decide +kernel)) (by decide +kernel)⟩
theorem pk_X2_dependenciesOf : PkV yX2_dependenciesOf cX2_dependenciesOf 2 (some .int) 1 := ⟨⟨TsG_t (List.mem_of_getElem? (i := 319) (by decide +kernel)) (by decide +kernel), in_X2, by decide +kernel, by decide +kernel, by decide +kernel⟩, TsG_t (List.mem_of_getElem? (i := 317) (by decide +kernel)) (by decide +kernel), TsG_t (List.mem_of_getElem? (i := 318) (by decide +kernel)) (by decide +kernel)⟩
theorem pk_X2_downFrom : PkV yX2_downFrom cX2_downFrom 5 (some .int) 1 := ⟨⟨TsG_t (List.mem_of_getElem? (i := 748) (by decide +kernel)) (by decide +kernel), in_X2, by decide +kernel, by decide +kernel, by decide +kernel⟩, TsG_t (List.mem_of_getElem? (i := 747) (by decide +kernel)) (by decide +kernel), TsG_s (q := (yX2_downFrom, 5)) (List.mem_of_getElem? (i := 20) (by decide +kernel))⟩
theorem pk_X2_globsOf : PkV yX2_globsOf cX2_globsOf 2 (some (.object "Monobuild$Globs")) 1 := ⟨⟨TsG_t (List.mem_of_getElem? (i := 305) (by decide +kernel)) (by decide +kernel), in_X2, by decide +kernel, by decide +kernel, by decide +kernel⟩, TsG_t (List.mem_of_getElem? (i := 303) (by decide +kernel)) (by decide +kernel), TsG_t (List.mem_of_getElem? (i := 304) (by decide +kernel)) (by decide +kernel)⟩
theorem pk_X2_has : PkV yX2_has cX2_has 2 (some .boolean) 1 := ⟨⟨TsG_t (List.mem_of_getElem? (i := 656) (by decide +kernel)) (by decide +kernel), in_X2, by decide +kernel, by decide +kernel, by decide +kernel⟩, TsG_t (List.mem_of_getElem? (i := 654) (by decide +kernel)) (by decide +kernel), TsG_t (List.mem_of_getElem? (i := 655) (by decide +kernel)) (by decide +kernel)⟩
theorem pk_X2_init : Pk yX2_init cX2_init 2 none 0 ∧ Cond.instanceMethod yX2_init ∈ TsG := ⟨⟨TsG_t (List.mem_of_getElem? (i := 75) (by decide +kernel)) (by decide +kernel), in_X2, by decide +kernel, by decide +kernel, by decide +kernel⟩, TsG_t (List.mem_of_getElem? (i := 74) (by decide +kernel)) (by decide +kernel)⟩
theorem pk_X2_isFull : PkV yX2_isFull cX2_isFull 1 (some .boolean) 0 := ⟨⟨TsG_t (List.mem_of_getElem? (i := 636) (by decide +kernel)) (by decide +kernel), in_X2, by decide +kernel, by decide +kernel, by decide +kernel⟩, TsG_t (List.mem_of_getElem? (i := 634) (by decide +kernel)) (by decide +kernel), TsG_t (List.mem_of_getElem? (i := 635) (by decide +kernel)) (by decide +kernel)⟩
theorem pk_X2_isNext : PkV yX2_isNext cX2_isNext 3 (some .boolean) 2 := ⟨⟨TsG_t (List.mem_of_getElem? (i := 285) (by decide +kernel)) (by decide +kernel), in_X2, by decide +kernel, by decide +kernel, by decide +kernel⟩, TsG_t (List.mem_of_getElem? (i := 284) (by decide +kernel)) (by decide +kernel), TsG_s (q := (yX2_isNext, 5)) (List.mem_of_getElem? (i := 4) (by decide +kernel))⟩
theorem pk_X2_makeOrder : PkV yX2_makeOrder cX2_makeOrder 4 none 0 := ⟨⟨TsG_t (List.mem_of_getElem? (i := 277) (by decide +kernel)) (by decide +kernel), in_X2, by decide +kernel, by decide +kernel, by decide +kernel⟩, TsG_t (List.mem_of_getElem? (i := 275) (by decide +kernel)) (by decide +kernel), TsG_t (List.mem_of_getElem? (i := 276) (by decide +kernel)) (by decide +kernel)⟩
theorem pk_X2_meetFile : PkV yX2_meetFile cX2_meetFile 4 none 2 := ⟨⟨TsG_t (List.mem_of_getElem? (i := 535) (by decide +kernel)) (by decide +kernel), in_X2, by decide +kernel, by decide +kernel, by decide +kernel⟩, TsG_t (List.mem_of_getElem? (i := 533) (by decide +kernel)) (by decide +kernel), TsG_t (List.mem_of_getElem? (i := 534) (by decide +kernel)) (by decide +kernel)⟩
theorem pk_X2_nextBehind : PkV yX2_nextBehind cX2_nextBehind 3 (some .int) 1 := ⟨⟨TsG_t (List.mem_of_getElem? (i := 281) (by decide +kernel)) (by decide +kernel), in_X2, by decide +kernel, by decide +kernel, by decide +kernel⟩, TsG_t (List.mem_of_getElem? (i := 280) (by decide +kernel)) (by decide +kernel), TsG_s (q := (yX2_nextBehind, 5)) (List.mem_of_getElem? (i := 3) (by decide +kernel))⟩
theorem pk_X2_reachingDown : PkV yX2_reachingDown cX2_reachingDown 4 (some .int) 1 := ⟨⟨TsG_t (List.mem_of_getElem? (i := 744) (by decide +kernel)) (by decide +kernel), in_X2, by decide +kernel, by decide +kernel, by decide +kernel⟩, TsG_t (List.mem_of_getElem? (i := 742) (by decide +kernel)) (by decide +kernel), TsG_t (List.mem_of_getElem? (i := 743) (by decide +kernel)) (by decide +kernel)⟩
theorem pk_X2_size : PkV yX2_size cX2_size 1 (some .int) 0 := ⟨⟨TsG_t (List.mem_of_getElem? (i := 265) (by decide +kernel)) (by decide +kernel), in_X2, by decide +kernel, by decide +kernel, by decide +kernel⟩, TsG_t (List.mem_of_getElem? (i := 263) (by decide +kernel)) (by decide +kernel), TsG_t (List.mem_of_getElem? (i := 264) (by decide +kernel)) (by decide +kernel)⟩
theorem pk_X2_upFrom : PkV yX2_upFrom cX2_upFrom 5 (some .int) 1 := ⟨⟨TsG_t (List.mem_of_getElem? (i := 692) (by decide +kernel)) (by decide +kernel), in_X2, by decide +kernel, by decide +kernel, by decide +kernel⟩, TsG_t (List.mem_of_getElem? (i := 690) (by decide +kernel)) (by decide +kernel), TsG_t (List.mem_of_getElem? (i := 691) (by decide +kernel)) (by decide +kernel)⟩
theorem pk_X3_agrees : PkV yX3_agrees cX3_agrees 4 (some .boolean) 2 := ⟨⟨TsG_t (List.mem_of_getElem? (i := 335) (by decide +kernel)) (by decide +kernel), in_X3, by decide +kernel, by decide +kernel, by decide +kernel⟩, TsG_t (List.mem_of_getElem? (i := 334) (by decide +kernel)) (by decide +kernel), TsG_s (q := (yX3_agrees, 8)) (List.mem_of_getElem? (i := 9) (by decide +kernel))⟩
theorem pk_X3_dependenciesHaveKeys : PkV yX3_dependenciesHaveKeys cX3_dependenciesHaveKeys 2 (some .boolean) 1 := ⟨⟨TsG_t (List.mem_of_getElem? (i := 323) (by decide +kernel)) (by decide +kernel), in_X3, by decide +kernel, by decide +kernel, by decide +kernel⟩, TsG_t (List.mem_of_getElem? (i := 322) (by decide +kernel)) (by decide +kernel), TsG_s (q := (yX3_dependenciesHaveKeys, 8)) (List.mem_of_getElem? (i := 7) (by decide +kernel))⟩
theorem pk_X3_fillRow : PkV yX3_fillRow cX3_fillRow 5 none 1 := ⟨⟨TsG_t (List.mem_of_getElem? (i := 301) (by decide +kernel)) (by decide +kernel), in_X3, by decide +kernel, by decide +kernel, by decide +kernel⟩, TsG_t (List.mem_of_getElem? (i := 300) (by decide +kernel)) (by decide +kernel), TsG_s (q := (yX3_fillRow, 8)) (List.mem_of_getElem? (i := 6) (by decide +kernel))⟩
theorem pk_X3_give : PkV yX3_give cX3_give 2 (some .int) 1 := ⟨⟨TsG_t (List.mem_of_getElem? (i := 791) (by decide +kernel)) (by decide +kernel), in_X3, by decide +kernel, by decide +kernel, by decide +kernel⟩, TsG_t (List.mem_of_getElem? (i := 790) (by decide +kernel)) (by decide +kernel), TsG_s (q := (yX3_give, 8)) (List.mem_of_getElem? (i := 21) (by decide +kernel))⟩
theorem pk_X3_given : PkV yX3_given cX3_given 1 (some .int) 0 := ⟨⟨TsG_t (List.mem_of_getElem? (i := 344) (by decide +kernel)) (by decide +kernel), in_X3, by decide +kernel, by decide +kernel, by decide +kernel⟩, TsG_t (List.mem_of_getElem? (i := 342) (by decide +kernel)) (by decide +kernel), TsG_t (List.mem_of_getElem? (i := 343) (by decide +kernel)) (by decide +kernel)⟩
theorem pk_X3_hasLatestInputs : PkV yX3_hasLatestInputs cX3_hasLatestInputs 2 (some .boolean) 1 := ⟨⟨TsG_t (List.mem_of_getElem? (i := 774) (by decide +kernel)) (by decide +kernel), in_X3, by decide +kernel, by decide +kernel, by decide +kernel⟩, TsG_t (List.mem_of_getElem? (i := 772) (by decide +kernel)) (by decide +kernel), TsG_t (List.mem_of_getElem? (i := 773) (by decide +kernel)) (by decide +kernel)⟩
theorem pk_X3_hasRun : PkV yX3_hasRun cX3_hasRun 2 (some .boolean) 1 := ⟨⟨TsG_t (List.mem_of_getElem? (i := 770) (by decide +kernel)) (by decide +kernel), in_X3, by decide +kernel, by decide +kernel, by decide +kernel⟩, TsG_t (List.mem_of_getElem? (i := 768) (by decide +kernel)) (by decide +kernel), TsG_t (List.mem_of_getElem? (i := 769) (by decide +kernel)) (by decide +kernel)⟩
theorem pk_X3_init : Pk yX3_init cX3_init 3 none 2 ∧ Cond.instanceMethod yX3_init ∈ TsG := ⟨⟨TsG_t (List.mem_of_getElem? (i := 122) (by decide +kernel)) (by decide +kernel), in_X3, by decide +kernel, by decide +kernel, by decide +kernel⟩, TsG_t (List.mem_of_getElem? (i := 121) (by decide +kernel)) (by decide +kernel)⟩
theorem pk_X3_keyNow : PkV yX3_keyNow cX3_keyNow 2 (some .int) 1 := ⟨⟨TsG_t (List.mem_of_getElem? (i := 759) (by decide +kernel)) (by decide +kernel), in_X3, by decide +kernel, by decide +kernel, by decide +kernel⟩, TsG_t (List.mem_of_getElem? (i := 757) (by decide +kernel)) (by decide +kernel), TsG_t (List.mem_of_getElem? (i := 758) (by decide +kernel)) (by decide +kernel)⟩
theorem pk_X3_keyOfRow : PkV yX3_keyOfRow cX3_keyOfRow 3 (some .int) 1 := ⟨⟨TsG_t (List.mem_of_getElem? (i := 331) (by decide +kernel)) (by decide +kernel), in_X3, by decide +kernel, by decide +kernel, by decide +kernel⟩, TsG_t (List.mem_of_getElem? (i := 330) (by decide +kernel)) (by decide +kernel), TsG_s (q := (yX3_keyOfRow, 8)) (List.mem_of_getElem? (i := 8) (by decide +kernel))⟩
theorem pk_X3_lookUp : PkV yX3_lookUp cX3_lookUp 2 none 1 := ⟨⟨TsG_t (List.mem_of_getElem? (i := 297) (by decide +kernel)) (by decide +kernel), in_X3, by decide +kernel, by decide +kernel, by decide +kernel⟩, TsG_t (List.mem_of_getElem? (i := 296) (by decide +kernel)) (by decide +kernel), TsG_s (q := (yX3_lookUp, 8)) (List.mem_of_getElem? (i := 5) (by decide +kernel))⟩
theorem pk_X3_lookUpAll : PkV yX3_lookUpAll cX3_lookUpAll 2 none 0 := ⟨⟨TsG_t (List.mem_of_getElem? (i := 273) (by decide +kernel)) (by decide +kernel), in_X3, by decide +kernel, by decide +kernel, by decide +kernel⟩, TsG_t (List.mem_of_getElem? (i := 271) (by decide +kernel)) (by decide +kernel), TsG_t (List.mem_of_getElem? (i := 272) (by decide +kernel)) (by decide +kernel)⟩
theorem pk_X3_runOrFind : PkV yX3_runOrFind cX3_runOrFind 2 (some .int) 1 := ⟨⟨TsG_t (List.mem_of_getElem? (i := 787) (by decide +kernel)) (by decide +kernel), in_X3, by decide +kernel, by decide +kernel, by decide +kernel⟩, TsG_t (List.mem_of_getElem? (i := 785) (by decide +kernel)) (by decide +kernel), TsG_t (List.mem_of_getElem? (i := 786) (by decide +kernel)) (by decide +kernel)⟩
theorem pk_X3_runOrFindAll : PkV yX3_runOrFindAll cX3_runOrFindAll 2 none 0 := ⟨⟨TsG_t (List.mem_of_getElem? (i := 804) (by decide +kernel)) (by decide +kernel), in_X3, by decide +kernel, by decide +kernel, by decide +kernel⟩, TsG_t (List.mem_of_getElem? (i := 802) (by decide +kernel)) (by decide +kernel), TsG_t (List.mem_of_getElem? (i := 803) (by decide +kernel)) (by decide +kernel)⟩
theorem pk_X3_withoutKey : PkV yX3_withoutKey cX3_withoutKey 3 (some .int) 0 := ⟨⟨TsG_t (List.mem_of_getElem? (i := 327) (by decide +kernel)) (by decide +kernel), in_X3, by decide +kernel, by decide +kernel, by decide +kernel⟩, TsG_t (List.mem_of_getElem? (i := 325) (by decide +kernel)) (by decide +kernel), TsG_t (List.mem_of_getElem? (i := 326) (by decide +kernel)) (by decide +kernel)⟩
theorem pk_X4_add : PkV yX4_add cX4_add 4 none 3 := ⟨⟨TsG_t (List.mem_of_getElem? (i := 881) (by decide +kernel)) (by decide +kernel), in_X4, by decide +kernel, by decide +kernel, by decide +kernel⟩, TsG_t (List.mem_of_getElem? (i := 879) (by decide +kernel)) (by decide +kernel), TsG_t (List.mem_of_getElem? (i := 880) (by decide +kernel)) (by decide +kernel)⟩
theorem pk_X4_init : Pk yX4_init cX4_init 1 none 0 ∧ Cond.instanceMethod yX4_init ∈ TsG := ⟨⟨TsG_t (List.mem_of_getElem? (i := 168) (by decide +kernel)) (by decide +kernel), in_X4, by decide +kernel, by decide +kernel, by decide +kernel⟩, TsG_t (List.mem_of_getElem? (i := 167) (by decide +kernel)) (by decide +kernel)⟩
theorem pk_X4_isFull : PkV yX4_isFull cX4_isFull 1 (some .boolean) 0 := ⟨⟨TsG_t (List.mem_of_getElem? (i := 875) (by decide +kernel)) (by decide +kernel), in_X4, by decide +kernel, by decide +kernel, by decide +kernel⟩, TsG_t (List.mem_of_getElem? (i := 873) (by decide +kernel)) (by decide +kernel), TsG_t (List.mem_of_getElem? (i := 874) (by decide +kernel)) (by decide +kernel)⟩
theorem pk_X4_latestOwner : PkV yX4_latestOwner cX4_latestOwner 3 (some .int) 1 := ⟨⟨TsG_t (List.mem_of_getElem? (i := 382) (by decide +kernel)) (by decide +kernel), in_X4, by decide +kernel, by decide +kernel, by decide +kernel⟩, TsG_t (List.mem_of_getElem? (i := 380) (by decide +kernel)) (by decide +kernel), TsG_t (List.mem_of_getElem? (i := 381) (by decide +kernel)) (by decide +kernel)⟩
theorem pk_X4_meetFile : PkV yX4_meetFile cX4_meetFile 3 none 2 := ⟨⟨TsG_t (List.mem_of_getElem? (i := 560) (by decide +kernel)) (by decide +kernel), in_X4, by decide +kernel, by decide +kernel, by decide +kernel⟩, TsG_t (List.mem_of_getElem? (i := 558) (by decide +kernel)) (by decide +kernel), TsG_t (List.mem_of_getElem? (i := 559) (by decide +kernel)) (by decide +kernel)⟩
theorem pk_X4_ownersOfAll : PkV yX4_ownersOfAll cX4_ownersOfAll 5 (some .int) 1 := ⟨⟨TsG_t (List.mem_of_getElem? (i := 378) (by decide +kernel)) (by decide +kernel), in_X4, by decide +kernel, by decide +kernel, by decide +kernel⟩, TsG_t (List.mem_of_getElem? (i := 376) (by decide +kernel)) (by decide +kernel), TsG_t (List.mem_of_getElem? (i := 377) (by decide +kernel)) (by decide +kernel)⟩
theorem pk_X4_size : PkV yX4_size cX4_size 1 (some .int) 0 := ⟨⟨TsG_t (List.mem_of_getElem? (i := 890) (by decide +kernel)) (by decide +kernel), in_X4, by decide +kernel, by decide +kernel, by decide +kernel⟩, TsG_t (List.mem_of_getElem? (i := 888) (by decide +kernel)) (by decide +kernel), TsG_t (List.mem_of_getElem? (i := 889) (by decide +kernel)) (by decide +kernel)⟩
theorem pk_X5_dearest : PkV yX5_dearest cX5_dearest 6 (some .int) 2 := ⟨⟨TsG_t (List.mem_of_getElem? (i := 829) (by decide +kernel)) (by decide +kernel), in_X5, by decide +kernel, by decide +kernel, by decide +kernel⟩, TsG_t (List.mem_of_getElem? (i := 828) (by decide +kernel)) (by decide +kernel), TsG_s (q := (yX5_dearest, 2)) (List.mem_of_getElem? (i := 23) (by decide +kernel))⟩
theorem pk_X5_greatestLoad : PkV yX5_greatestLoad cX5_greatestLoad 3 (some .int) 0 := ⟨⟨TsG_t (List.mem_of_getElem? (i := 854) (by decide +kernel)) (by decide +kernel), in_X5, by decide +kernel, by decide +kernel, by decide +kernel⟩, TsG_t (List.mem_of_getElem? (i := 852) (by decide +kernel)) (by decide +kernel), TsG_t (List.mem_of_getElem? (i := 853) (by decide +kernel)) (by decide +kernel)⟩
theorem pk_X5_init : Pk yX5_init cX5_init 1 none 0 ∧ Cond.instanceMethod yX5_init ∈ TsG := ⟨⟨TsG_t (List.mem_of_getElem? (i := 155) (by decide +kernel)) (by decide +kernel), in_X5, by decide +kernel, by decide +kernel, by decide +kernel⟩, TsG_t (List.mem_of_getElem? (i := 154) (by decide +kernel)) (by decide +kernel)⟩
theorem pk_X5_lightest : PkV yX5_lightest cX5_lightest 4 (some .int) 1 := ⟨⟨TsG_t (List.mem_of_getElem? (i := 839) (by decide +kernel)) (by decide +kernel), in_X5, by decide +kernel, by decide +kernel, by decide +kernel⟩, TsG_t (List.mem_of_getElem? (i := 838) (by decide +kernel)) (by decide +kernel), TsG_s (q := (yX5_lightest, 2)) (List.mem_of_getElem? (i := 24) (by decide +kernel))⟩
theorem pk_X5_over : PkV yX5_over cX5_over 8 none 3 := ⟨⟨TsG_t (List.mem_of_getElem? (i := 821) (by decide +kernel)) (by decide +kernel), in_X5, by decide +kernel, by decide +kernel, by decide +kernel⟩, TsG_t (List.mem_of_getElem? (i := 819) (by decide +kernel)) (by decide +kernel), TsG_t (List.mem_of_getElem? (i := 820) (by decide +kernel)) (by decide +kernel)⟩
theorem pk_X5_placeOf : PkV yX5_placeOf cX5_placeOf 2 (some .int) 1 := ⟨⟨TsG_t (List.mem_of_getElem? (i := 843) (by decide +kernel)) (by decide +kernel), in_X5, by decide +kernel, by decide +kernel, by decide +kernel⟩, TsG_t (List.mem_of_getElem? (i := 841) (by decide +kernel)) (by decide +kernel), TsG_t (List.mem_of_getElem? (i := 842) (by decide +kernel)) (by decide +kernel)⟩
theorem pk_X6_append : PkV yX6_append cX6_append 2 none 1 := ⟨⟨TsG_t (List.mem_of_getElem? (i := 492) (by decide +kernel)) (by decide +kernel), in_X6, by decide +kernel, by decide +kernel, by decide +kernel⟩, TsG_t (List.mem_of_getElem? (i := 490) (by decide +kernel)) (by decide +kernel), TsG_t (List.mem_of_getElem? (i := 491) (by decide +kernel)) (by decide +kernel)⟩
theorem pk_X6_copyFrom : PkV yX6_copyFrom cX6_copyFrom 3 none 1 := ⟨⟨TsG_t (List.mem_of_getElem? (i := 531) (by decide +kernel)) (by decide +kernel), in_X6, by decide +kernel, by decide +kernel, by decide +kernel⟩, TsG_t (List.mem_of_getElem? (i := 529) (by decide +kernel)) (by decide +kernel), TsG_t (List.mem_of_getElem? (i := 530) (by decide +kernel)) (by decide +kernel)⟩
theorem pk_X6_covers : PkV yX6_covers cX6_covers 5 (some .boolean) 1 := ⟨⟨TsG_t (List.mem_of_getElem? (i := 543) (by decide +kernel)) (by decide +kernel), in_X6, by decide +kernel, by decide +kernel, by decide +kernel⟩, TsG_t (List.mem_of_getElem? (i := 541) (by decide +kernel)) (by decide +kernel), TsG_t (List.mem_of_getElem? (i := 542) (by decide +kernel)) (by decide +kernel)⟩
theorem pk_X6_empty : PkV yX6_empty cX6_empty 1 none 0 := ⟨⟨TsG_t (List.mem_of_getElem? (i := 209) (by decide +kernel)) (by decide +kernel), in_X6, by decide +kernel, by decide +kernel, by decide +kernel⟩, TsG_t (List.mem_of_getElem? (i := 207) (by decide +kernel)) (by decide +kernel), TsG_t (List.mem_of_getElem? (i := 208) (by decide +kernel)) (by decide +kernel)⟩
theorem pk_X6_hasEmptySegment : PkV yX6_hasEmptySegment cX6_hasEmptySegment 2 (some .boolean) 0 := ⟨⟨TsG_t (List.mem_of_getElem? (i := 221) (by decide +kernel)) (by decide +kernel), in_X6, by decide +kernel, by decide +kernel, by decide +kernel⟩, TsG_t (List.mem_of_getElem? (i := 220) (by decide +kernel)) (by decide +kernel), TsG_s (q := (yX6_hasEmptySegment, 2)) (List.mem_of_getElem? (i := 0) (by decide +kernel))⟩
theorem pk_X6_hasGlobForm : PkV yX6_hasGlobForm cX6_hasGlobForm 2 (some .boolean) 0 := ⟨⟨TsG_t (List.mem_of_getElem? (i := 233) (by decide +kernel)) (by decide +kernel), in_X6, by decide +kernel, by decide +kernel, by decide +kernel⟩, TsG_t (List.mem_of_getElem? (i := 231) (by decide +kernel)) (by decide +kernel), TsG_t (List.mem_of_getElem? (i := 232) (by decide +kernel)) (by decide +kernel)⟩
theorem pk_X6_hasPathForm : PkV yX6_hasPathForm cX6_hasPathForm 2 (some .boolean) 0 := ⟨⟨TsG_t (List.mem_of_getElem? (i := 217) (by decide +kernel)) (by decide +kernel), in_X6, by decide +kernel, by decide +kernel, by decide +kernel⟩, TsG_t (List.mem_of_getElem? (i := 215) (by decide +kernel)) (by decide +kernel), TsG_t (List.mem_of_getElem? (i := 216) (by decide +kernel)) (by decide +kernel)⟩
theorem pk_X6_init : Pk yX6_init cX6_init 1 none 0 ∧ Cond.instanceMethod yX6_init ∈ TsG := ⟨⟨TsG_t (List.mem_of_getElem? (i := 32) (by decide +kernel)) (by decide +kernel), in_X6, by decide +kernel, by decide +kernel, by decide +kernel⟩, TsG_t (List.mem_of_getElem? (i := 31) (by decide +kernel)) (by decide +kernel)⟩
theorem pk_X6_isDoubleStar : PkV yX6_isDoubleStar cX6_isDoubleStar 2 (some .boolean) 1 := ⟨⟨TsG_t (List.mem_of_getElem? (i := 237) (by decide +kernel)) (by decide +kernel), in_X6, by decide +kernel, by decide +kernel, by decide +kernel⟩, TsG_t (List.mem_of_getElem? (i := 236) (by decide +kernel)) (by decide +kernel), TsG_s (q := (yX6_isDoubleStar, 2)) (List.mem_of_getElem? (i := 2) (by decide +kernel))⟩
theorem pk_X6_isFull : PkV yX6_isFull cX6_isFull 1 (some .boolean) 0 := ⟨⟨TsG_t (List.mem_of_getElem? (i := 472) (by decide +kernel)) (by decide +kernel), in_X6, by decide +kernel, by decide +kernel, by decide +kernel⟩, TsG_t (List.mem_of_getElem? (i := 470) (by decide +kernel)) (by decide +kernel), TsG_t (List.mem_of_getElem? (i := 471) (by decide +kernel)) (by decide +kernel)⟩
theorem pk_X6_isSameAs : PkV yX6_isSameAs cX6_isSameAs 3 (some .boolean) 1 := ⟨⟨TsG_t (List.mem_of_getElem? (i := 249) (by decide +kernel)) (by decide +kernel), in_X6, by decide +kernel, by decide +kernel, by decide +kernel⟩, TsG_t (List.mem_of_getElem? (i := 247) (by decide +kernel)) (by decide +kernel), TsG_t (List.mem_of_getElem? (i := 248) (by decide +kernel)) (by decide +kernel)⟩
theorem pk_X6_overLetters : PkV yX6_overLetters cX6_overLetters 4 (some .int) 1 := ⟨⟨TsG_t (List.mem_of_getElem? (i := 552) (by decide +kernel)) (by decide +kernel), in_X6, by decide +kernel, by decide +kernel, by decide +kernel⟩, TsG_t (List.mem_of_getElem? (i := 551) (by decide +kernel)) (by decide +kernel), TsG_s (q := (yX6_overLetters, 2)) (List.mem_of_getElem? (i := 14) (by decide +kernel))⟩
theorem pk_X6_overSign : PkV yX6_overSign cX6_overSign 6 (some .int) 2 := ⟨⟨TsG_t (List.mem_of_getElem? (i := 556) (by decide +kernel)) (by decide +kernel), in_X6, by decide +kernel, by decide +kernel, by decide +kernel⟩, TsG_t (List.mem_of_getElem? (i := 555) (by decide +kernel)) (by decide +kernel), TsG_s (q := (yX6_overSign, 2)) (List.mem_of_getElem? (i := 15) (by decide +kernel))⟩
theorem pk_X6_signAt : PkV yX6_signAt cX6_signAt 2 (some .char) 1 := ⟨⟨TsG_t (List.mem_of_getElem? (i := 225) (by decide +kernel)) (by decide +kernel), in_X6, by decide +kernel, by decide +kernel, by decide +kernel⟩, TsG_t (List.mem_of_getElem? (i := 224) (by decide +kernel)) (by decide +kernel), TsG_s (q := (yX6_signAt, 2)) (List.mem_of_getElem? (i := 1) (by decide +kernel))⟩
theorem pk_X6_size : PkV yX6_size cX6_size 1 (some .int) 0 := ⟨⟨TsG_t (List.mem_of_getElem? (i := 205) (by decide +kernel)) (by decide +kernel), in_X6, by decide +kernel, by decide +kernel, by decide +kernel⟩, TsG_t (List.mem_of_getElem? (i := 203) (by decide +kernel)) (by decide +kernel), TsG_t (List.mem_of_getElem? (i := 204) (by decide +kernel)) (by decide +kernel)⟩
theorem pk_X6_startsFrom : PkV yX6_startsFrom cX6_startsFrom 5 (some .int) 1 := ⟨⟨TsG_t (List.mem_of_getElem? (i := 547) (by decide +kernel)) (by decide +kernel), in_X6, by decide +kernel, by decide +kernel, by decide +kernel⟩, TsG_t (List.mem_of_getElem? (i := 546) (by decide +kernel)) (by decide +kernel), TsG_s (q := (yX6_startsFrom, 2)) (List.mem_of_getElem? (i := 13) (by decide +kernel))⟩
theorem pk_X7_above : PkV yX7_above cX7_above 3 (some .int) 1 := ⟨⟨TsG_t (List.mem_of_getElem? (i := 711) (by decide +kernel)) (by decide +kernel), in_X7, by decide +kernel, by decide +kernel, by decide +kernel⟩, TsG_t (List.mem_of_getElem? (i := 709) (by decide +kernel)) (by decide +kernel), TsG_t (List.mem_of_getElem? (i := 710) (by decide +kernel)) (by decide +kernel)⟩
theorem pk_X7_addFile : PkV yX7_addFile cX7_addFile 3 (some .int) 1 := ⟨⟨TsG_t (List.mem_of_getElem? (i := 499) (by decide +kernel)) (by decide +kernel), in_X7, by decide +kernel, by decide +kernel, by decide +kernel⟩, TsG_t (List.mem_of_getElem? (i := 497) (by decide +kernel)) (by decide +kernel), TsG_t (List.mem_of_getElem? (i := 498) (by decide +kernel)) (by decide +kernel)⟩
theorem pk_X7_addGlob : PkV yX7_addGlob cX7_addGlob 3 (some .int) 1 := ⟨⟨TsG_t (List.mem_of_getElem? (i := 648) (by decide +kernel)) (by decide +kernel), in_X7, by decide +kernel, by decide +kernel, by decide +kernel⟩, TsG_t (List.mem_of_getElem? (i := 646) (by decide +kernel)) (by decide +kernel), TsG_t (List.mem_of_getElem? (i := 647) (by decide +kernel)) (by decide +kernel)⟩
theorem pk_X7_addRule : PkV yX7_addRule cX7_addRule 2 (some .int) 1 := ⟨⟨TsG_t (List.mem_of_getElem? (i := 870) (by decide +kernel)) (by decide +kernel), in_X7, by decide +kernel, by decide +kernel, by decide +kernel⟩, TsG_t (List.mem_of_getElem? (i := 868) (by decide +kernel)) (by decide +kernel), TsG_t (List.mem_of_getElem? (i := 869) (by decide +kernel)) (by decide +kernel)⟩
theorem pk_X7_addTarget : PkV yX7_addTarget cX7_addTarget 2 (some .int) 1 := ⟨⟨TsG_t (List.mem_of_getElem? (i := 631) (by decide +kernel)) (by decide +kernel), in_X7, by decide +kernel, by decide +kernel, by decide +kernel⟩, TsG_t (List.mem_of_getElem? (i := 629) (by decide +kernel)) (by decide +kernel), TsG_t (List.mem_of_getElem? (i := 630) (by decide +kernel)) (by decide +kernel)⟩
theorem pk_X7_affectedBy : PkV yX7_affectedBy cX7_affectedBy 2 (some .int) 1 := ⟨⟨TsG_t (List.mem_of_getElem? (i := 728) (by decide +kernel)) (by decide +kernel), in_X7, by decide +kernel, by decide +kernel, by decide +kernel⟩, TsG_t (List.mem_of_getElem? (i := 726) (by decide +kernel)) (by decide +kernel), TsG_t (List.mem_of_getElem? (i := 727) (by decide +kernel)) (by decide +kernel)⟩
theorem pk_X7_affectedByGoingDown : PkV yX7_affectedByGoingDown cX7_affectedByGoingDown 2 (some .int) 1 := ⟨⟨TsG_t (List.mem_of_getElem? (i := 740) (by decide +kernel)) (by decide +kernel), in_X7, by decide +kernel, by decide +kernel, by decide +kernel⟩, TsG_t (List.mem_of_getElem? (i := 738) (by decide +kernel)) (by decide +kernel), TsG_t (List.mem_of_getElem? (i := 739) (by decide +kernel)) (by decide +kernel)⟩
theorem pk_X7_changed : PkV yX7_changed cX7_changed 1 (some .int) 0 := ⟨⟨TsG_t (List.mem_of_getElem? (i := 365) (by decide +kernel)) (by decide +kernel), in_X7, by decide +kernel, by decide +kernel, by decide +kernel⟩, TsG_t (List.mem_of_getElem? (i := 363) (by decide +kernel)) (by decide +kernel), TsG_t (List.mem_of_getElem? (i := 364) (by decide +kernel)) (by decide +kernel)⟩
theorem pk_X7_clearText : PkV yX7_clearText cX7_clearText 2 (some .int) 0 := ⟨⟨TsG_t (List.mem_of_getElem? (i := 201) (by decide +kernel)) (by decide +kernel), in_X7, by decide +kernel, by decide +kernel, by decide +kernel⟩, TsG_t (List.mem_of_getElem? (i := 199) (by decide +kernel)) (by decide +kernel), TsG_t (List.mem_of_getElem? (i := 200) (by decide +kernel)) (by decide +kernel)⟩
theorem pk_X7_delete : PkV yX7_delete cX7_delete 2 (some .int) 1 := ⟨⟨TsG_t (List.mem_of_getElem? (i := 601) (by decide +kernel)) (by decide +kernel), in_X7, by decide +kernel, by decide +kernel, by decide +kernel⟩, TsG_t (List.mem_of_getElem? (i := 599) (by decide +kernel)) (by decide +kernel), TsG_t (List.mem_of_getElem? (i := 600) (by decide +kernel)) (by decide +kernel)⟩
theorem pk_X7_depend : PkV yX7_depend cX7_depend 3 (some .int) 2 := ⟨⟨TsG_t (List.mem_of_getElem? (i := 685) (by decide +kernel)) (by decide +kernel), in_X7, by decide +kernel, by decide +kernel, by decide +kernel⟩, TsG_t (List.mem_of_getElem? (i := 683) (by decide +kernel)) (by decide +kernel), TsG_t (List.mem_of_getElem? (i := 684) (by decide +kernel)) (by decide +kernel)⟩
theorem pk_X7_edit : PkV yX7_edit cX7_edit 4 (some .int) 2 := ⟨⟨TsG_t (List.mem_of_getElem? (i := 573) (by decide +kernel)) (by decide +kernel), in_X7, by decide +kernel, by decide +kernel, by decide +kernel⟩, TsG_t (List.mem_of_getElem? (i := 571) (by decide +kernel)) (by decide +kernel), TsG_t (List.mem_of_getElem? (i := 572) (by decide +kernel)) (by decide +kernel)⟩
theorem pk_X7_files : PkV yX7_files cX7_files 1 (some .int) 0 := ⟨⟨TsG_t (List.mem_of_getElem? (i := 253) (by decide +kernel)) (by decide +kernel), in_X7, by decide +kernel, by decide +kernel, by decide +kernel⟩, TsG_t (List.mem_of_getElem? (i := 251) (by decide +kernel)) (by decide +kernel), TsG_t (List.mem_of_getElem? (i := 252) (by decide +kernel)) (by decide +kernel)⟩
theorem pk_X7_findFile : PkV yX7_findFile cX7_findFile 1 (some .int) 0 := ⟨⟨TsG_t (List.mem_of_getElem? (i := 241) (by decide +kernel)) (by decide +kernel), in_X7, by decide +kernel, by decide +kernel, by decide +kernel⟩, TsG_t (List.mem_of_getElem? (i := 239) (by decide +kernel)) (by decide +kernel), TsG_t (List.mem_of_getElem? (i := 240) (by decide +kernel)) (by decide +kernel)⟩
theorem pk_X7_holds : PkS yX7_holds cX7_holds 2 (some .boolean) 2 := ⟨⟨TsG_t (List.mem_of_getElem? (i := 288) (by decide +kernel)) (by decide +kernel), in_X7, by decide +kernel, by decide +kernel, by decide +kernel⟩, TsG_t (List.mem_of_getElem? (i := 287) (by decide +kernel)) (by decide +kernel)⟩
theorem pk_X7_init : Pk yX7_init cX7_init 1 none 0 ∧ Cond.instanceMethod yX7_init ∈ TsG := ⟨⟨TsG_t (List.mem_of_getElem? (i := 24) (by decide +kernel)) (by decide +kernel), in_X7, by decide +kernel, by decide +kernel, by decide +kernel⟩, TsG_t (List.mem_of_getElem? (i := 23) (by decide +kernel)) (by decide +kernel)⟩
theorem pk_X7_inputs : PkV yX7_inputs cX7_inputs 2 (some .int) 1 := ⟨⟨TsG_t (List.mem_of_getElem? (i := 704) (by decide +kernel)) (by decide +kernel), in_X7, by decide +kernel, by decide +kernel, by decide +kernel⟩, TsG_t (List.mem_of_getElem? (i := 702) (by decide +kernel)) (by decide +kernel), TsG_t (List.mem_of_getElem? (i := 703) (by decide +kernel)) (by decide +kernel)⟩
theorem pk_X7_isGlob : PkV yX7_isGlob cX7_isGlob 1 (some .boolean) 0 := ⟨⟨TsG_t (List.mem_of_getElem? (i := 229) (by decide +kernel)) (by decide +kernel), in_X7, by decide +kernel, by decide +kernel, by decide +kernel⟩, TsG_t (List.mem_of_getElem? (i := 227) (by decide +kernel)) (by decide +kernel), TsG_t (List.mem_of_getElem? (i := 228) (by decide +kernel)) (by decide +kernel)⟩
theorem pk_X7_isPath : PkV yX7_isPath cX7_isPath 1 (some .boolean) 0 := ⟨⟨TsG_t (List.mem_of_getElem? (i := 213) (by decide +kernel)) (by decide +kernel), in_X7, by decide +kernel, by decide +kernel, by decide +kernel⟩, TsG_t (List.mem_of_getElem? (i := 211) (by decide +kernel)) (by decide +kernel), TsG_t (List.mem_of_getElem? (i := 212) (by decide +kernel)) (by decide +kernel)⟩
theorem pk_X7_isSign : PkS yX7_isSign cX7_isSign 1 (some .boolean) 1 := ⟨⟨TsG_t (List.mem_of_getElem? (i := 400) (by decide +kernel)) (by decide +kernel), in_X7, by decide +kernel, by decide +kernel, by decide +kernel⟩, TsG_t (List.mem_of_getElem? (i := 399) (by decide +kernel)) (by decide +kernel)⟩
theorem pk_X7_keyOf : PkV yX7_keyOf cX7_keyOf 2 (some .int) 1 := ⟨⟨TsG_t (List.mem_of_getElem? (i := 755) (by decide +kernel)) (by decide +kernel), in_X7, by decide +kernel, by decide +kernel, by decide +kernel⟩, TsG_t (List.mem_of_getElem? (i := 753) (by decide +kernel)) (by decide +kernel), TsG_t (List.mem_of_getElem? (i := 754) (by decide +kernel)) (by decide +kernel)⟩
theorem pk_X7_keys : PkV yX7_keys cX7_keys 1 (some .int) 0 := ⟨⟨TsG_t (List.mem_of_getElem? (i := 340) (by decide +kernel)) (by decide +kernel), in_X7, by decide +kernel, by decide +kernel, by decide +kernel⟩, TsG_t (List.mem_of_getElem? (i := 338) (by decide +kernel)) (by decide +kernel), TsG_t (List.mem_of_getElem? (i := 339) (by decide +kernel)) (by decide +kernel)⟩
theorem pk_X7_longestShard : PkV yX7_longestShard cX7_longestShard 2 (some .int) 1 := ⟨⟨TsG_t (List.mem_of_getElem? (i := 850) (by decide +kernel)) (by decide +kernel), in_X7, by decide +kernel, by decide +kernel, by decide +kernel⟩, TsG_t (List.mem_of_getElem? (i := 848) (by decide +kernel)) (by decide +kernel), TsG_t (List.mem_of_getElem? (i := 849) (by decide +kernel)) (by decide +kernel)⟩
theorem pk_X7_mark : PkV yX7_mark cX7_mark 1 (some .int) 0 := ⟨⟨TsG_t (List.mem_of_getElem? (i := 348) (by decide +kernel)) (by decide +kernel), in_X7, by decide +kernel, by decide +kernel, by decide +kernel⟩, TsG_t (List.mem_of_getElem? (i := 346) (by decide +kernel)) (by decide +kernel), TsG_t (List.mem_of_getElem? (i := 347) (by decide +kernel)) (by decide +kernel)⟩
theorem pk_X7_matches : PkV yX7_matches cX7_matches 2 (some .boolean) 1 := ⟨⟨TsG_t (List.mem_of_getElem? (i := 612) (by decide +kernel)) (by decide +kernel), in_X7, by decide +kernel, by decide +kernel, by decide +kernel⟩, TsG_t (List.mem_of_getElem? (i := 610) (by decide +kernel)) (by decide +kernel), TsG_t (List.mem_of_getElem? (i := 611) (by decide +kernel)) (by decide +kernel)⟩
theorem pk_X7_needed : PkV yX7_needed cX7_needed 1 (some .int) 0 := ⟨⟨TsG_t (List.mem_of_getElem? (i := 269) (by decide +kernel)) (by decide +kernel), in_X7, by decide +kernel, by decide +kernel, by decide +kernel⟩, TsG_t (List.mem_of_getElem? (i := 267) (by decide +kernel)) (by decide +kernel), TsG_t (List.mem_of_getElem? (i := 268) (by decide +kernel)) (by decide +kernel)⟩
theorem pk_X7_numberNewPath : PkV yX7_numberNewPath cX7_numberNewPath 2 (some .int) 0 := ⟨⟨TsG_t (List.mem_of_getElem? (i := 523) (by decide +kernel)) (by decide +kernel), in_X7, by decide +kernel, by decide +kernel, by decide +kernel⟩, TsG_t (List.mem_of_getElem? (i := 522) (by decide +kernel)) (by decide +kernel), TsG_s (q := (yX7_numberNewPath, 6)) (List.mem_of_getElem? (i := 12) (by decide +kernel))⟩
theorem pk_X7_orderAt : PkV yX7_orderAt cX7_orderAt 2 (some .int) 1 := ⟨⟨TsG_t (List.mem_of_getElem? (i := 718) (by decide +kernel)) (by decide +kernel), in_X7, by decide +kernel, by decide +kernel, by decide +kernel⟩, TsG_t (List.mem_of_getElem? (i := 716) (by decide +kernel)) (by decide +kernel), TsG_t (List.mem_of_getElem? (i := 717) (by decide +kernel)) (by decide +kernel)⟩
theorem pk_X7_ownerOf : PkV yX7_ownerOf cX7_ownerOf 2 (some .int) 1 := ⟨⟨TsG_t (List.mem_of_getElem? (i := 897) (by decide +kernel)) (by decide +kernel), in_X7, by decide +kernel, by decide +kernel, by decide +kernel⟩, TsG_t (List.mem_of_getElem? (i := 895) (by decide +kernel)) (by decide +kernel), TsG_t (List.mem_of_getElem? (i := 896) (by decide +kernel)) (by decide +kernel)⟩
theorem pk_X7_requireContent : PkV yX7_requireContent cX7_requireContent 2 none 1 := ⟨⟨TsG_t (List.mem_of_getElem? (i := 503) (by decide +kernel)) (by decide +kernel), in_X7, by decide +kernel, by decide +kernel, by decide +kernel⟩, TsG_t (List.mem_of_getElem? (i := 502) (by decide +kernel)) (by decide +kernel), TsG_s (q := (yX7_requireContent, 6)) (List.mem_of_getElem? (i := 11) (by decide +kernel))⟩
theorem pk_X7_requireFile : PkV yX7_requireFile cX7_requireFile 2 none 1 := ⟨⟨TsG_t (List.mem_of_getElem? (i := 616) (by decide +kernel)) (by decide +kernel), in_X7, by decide +kernel, by decide +kernel, by decide +kernel⟩, TsG_t (List.mem_of_getElem? (i := 615) (by decide +kernel)) (by decide +kernel), TsG_s (q := (yX7_requireFile, 6)) (List.mem_of_getElem? (i := 17) (by decide +kernel))⟩
theorem pk_X7_requireFileThere : PkV yX7_requireFileThere cX7_requireFileThere 2 none 1 := ⟨⟨TsG_t (List.mem_of_getElem? (i := 577) (by decide +kernel)) (by decide +kernel), in_X7, by decide +kernel, by decide +kernel, by decide +kernel⟩, TsG_t (List.mem_of_getElem? (i := 576) (by decide +kernel)) (by decide +kernel), TsG_s (q := (yX7_requireFileThere, 6)) (List.mem_of_getElem? (i := 16) (by decide +kernel))⟩
theorem pk_X7_requireGlob : PkV yX7_requireGlob cX7_requireGlob 1 none 0 := ⟨⟨TsG_t (List.mem_of_getElem? (i := 661) (by decide +kernel)) (by decide +kernel), in_X7, by decide +kernel, by decide +kernel, by decide +kernel⟩, TsG_t (List.mem_of_getElem? (i := 660) (by decide +kernel)) (by decide +kernel), TsG_s (q := (yX7_requireGlob, 6)) (List.mem_of_getElem? (i := 19) (by decide +kernel))⟩
theorem pk_X7_requireShards : PkV yX7_requireShards cX7_requireShards 2 none 1 := ⟨⟨TsG_t (List.mem_of_getElem? (i := 816) (by decide +kernel)) (by decide +kernel), in_X7, by decide +kernel, by decide +kernel, by decide +kernel⟩, TsG_t (List.mem_of_getElem? (i := 815) (by decide +kernel)) (by decide +kernel), TsG_s (q := (yX7_requireShards, 6)) (List.mem_of_getElem? (i := 22) (by decide +kernel))⟩
theorem pk_X7_requireTarget : PkV yX7_requireTarget cX7_requireTarget 2 none 1 := ⟨⟨TsG_t (List.mem_of_getElem? (i := 652) (by decide +kernel)) (by decide +kernel), in_X7, by decide +kernel, by decide +kernel, by decide +kernel⟩, TsG_t (List.mem_of_getElem? (i := 651) (by decide +kernel)) (by decide +kernel), TsG_s (q := (yX7_requireTarget, 6)) (List.mem_of_getElem? (i := 18) (by decide +kernel))⟩
theorem pk_X7_reviewers : PkV yX7_reviewers cX7_reviewers 1 (some .int) 0 := ⟨⟨TsG_t (List.mem_of_getElem? (i := 374) (by decide +kernel)) (by decide +kernel), in_X7, by decide +kernel, by decide +kernel, by decide +kernel⟩, TsG_t (List.mem_of_getElem? (i := 372) (by decide +kernel)) (by decide +kernel), TsG_t (List.mem_of_getElem? (i := 373) (by decide +kernel)) (by decide +kernel)⟩
theorem pk_X7_run : PkV yX7_run cX7_run 2 (some .int) 1 := ⟨⟨TsG_t (List.mem_of_getElem? (i := 781) (by decide +kernel)) (by decide +kernel), in_X7, by decide +kernel, by decide +kernel, by decide +kernel⟩, TsG_t (List.mem_of_getElem? (i := 779) (by decide +kernel)) (by decide +kernel), TsG_t (List.mem_of_getElem? (i := 780) (by decide +kernel)) (by decide +kernel)⟩
theorem pk_X7_runAll : PkV yX7_runAll cX7_runAll 2 (some .int) 0 := ⟨⟨TsG_t (List.mem_of_getElem? (i := 799) (by decide +kernel)) (by decide +kernel), in_X7, by decide +kernel, by decide +kernel, by decide +kernel⟩, TsG_t (List.mem_of_getElem? (i := 797) (by decide +kernel)) (by decide +kernel), TsG_t (List.mem_of_getElem? (i := 798) (by decide +kernel)) (by decide +kernel)⟩
theorem pk_X7_shardOf : PkV yX7_shardOf cX7_shardOf 3 (some .int) 2 := ⟨⟨TsG_t (List.mem_of_getElem? (i := 812) (by decide +kernel)) (by decide +kernel), in_X7, by decide +kernel, by decide +kernel, by decide +kernel⟩, TsG_t (List.mem_of_getElem? (i := 810) (by decide +kernel)) (by decide +kernel), TsG_t (List.mem_of_getElem? (i := 811) (by decide +kernel)) (by decide +kernel)⟩
theorem pk_X7_shardsFor : PkV yX7_shardsFor cX7_shardsFor 3 (some .int) 1 := ⟨⟨TsG_t (List.mem_of_getElem? (i := 862) (by decide +kernel)) (by decide +kernel), in_X7, by decide +kernel, by decide +kernel, by decide +kernel⟩, TsG_t (List.mem_of_getElem? (i := 860) (by decide +kernel)) (by decide +kernel), TsG_t (List.mem_of_getElem? (i := 861) (by decide +kernel)) (by decide +kernel)⟩
theorem pk_X7_targets : PkV yX7_targets cX7_targets 1 (some .int) 0 := ⟨⟨TsG_t (List.mem_of_getElem? (i := 261) (by decide +kernel)) (by decide +kernel), in_X7, by decide +kernel, by decide +kernel, by decide +kernel⟩, TsG_t (List.mem_of_getElem? (i := 259) (by decide +kernel)) (by decide +kernel), TsG_t (List.mem_of_getElem? (i := 260) (by decide +kernel)) (by decide +kernel)⟩
theorem pk_X7_type : PkV yX7_type cX7_type 2 (some .int) 1 := ⟨⟨TsG_t (List.mem_of_getElem? (i := 397) (by decide +kernel)) (by decide +kernel), in_X7, by decide +kernel, by decide +kernel, by decide +kernel⟩, TsG_t (List.mem_of_getElem? (i := 395) (by decide +kernel)) (by decide +kernel), TsG_t (List.mem_of_getElem? (i := 396) (by decide +kernel)) (by decide +kernel)⟩
theorem pk_X7_whyRun : PkV yX7_whyRun cX7_whyRun 2 (some .int) 1 := ⟨⟨TsG_t (List.mem_of_getElem? (i := 766) (by decide +kernel)) (by decide +kernel), in_X7, by decide +kernel, by decide +kernel, by decide +kernel⟩, TsG_t (List.mem_of_getElem? (i := 764) (by decide +kernel)) (by decide +kernel), TsG_t (List.mem_of_getElem? (i := 765) (by decide +kernel)) (by decide +kernel)⟩
theorem pk_X8_above : PkV yX8_above cX8_above 2 (some .int) 1 := ⟨⟨TsG_t (List.mem_of_getElem? (i := 1129) (by decide +kernel)) (by decide +kernel), in_X8, by decide +kernel, by decide +kernel, by decide +kernel⟩, TsG_t (List.mem_of_getElem? (i := 1127) (by decide +kernel)) (by decide +kernel), TsG_t (List.mem_of_getElem? (i := 1128) (by decide +kernel)) (by decide +kernel)⟩
theorem pk_X8_aboveOf : PkV yX8_aboveOf cX8_aboveOf 2 (some .int) 1 := ⟨⟨TsG_t (List.mem_of_getElem? (i := 1113) (by decide +kernel)) (by decide +kernel), in_X8, by decide +kernel, by decide +kernel, by decide +kernel⟩, TsG_t (List.mem_of_getElem? (i := 1112) (by decide +kernel)) (by decide +kernel), TsG_s (q := (yX8_aboveOf, 27)) (List.mem_of_getElem? (i := 40) (by decide +kernel))⟩
theorem pk_X8_addFile : PkV yX8_addFile cX8_addFile 4 (some .int) 1 := ⟨⟨TsG_t (List.mem_of_getElem? (i := 1027) (by decide +kernel)) (by decide +kernel), in_X8, by decide +kernel, by decide +kernel, by decide +kernel⟩, TsG_t (List.mem_of_getElem? (i := 1025) (by decide +kernel)) (by decide +kernel), TsG_t (List.mem_of_getElem? (i := 1026) (by decide +kernel)) (by decide +kernel)⟩
theorem pk_X8_addGlob : PkV yX8_addGlob cX8_addGlob 2 (some .int) 1 := ⟨⟨TsG_t (List.mem_of_getElem? (i := 1086) (by decide +kernel)) (by decide +kernel), in_X8, by decide +kernel, by decide +kernel, by decide +kernel⟩, TsG_t (List.mem_of_getElem? (i := 1084) (by decide +kernel)) (by decide +kernel), TsG_t (List.mem_of_getElem? (i := 1085) (by decide +kernel)) (by decide +kernel)⟩
theorem pk_X8_addRule : PkV yX8_addRule cX8_addRule 2 (some .int) 1 := ⟨⟨TsG_t (List.mem_of_getElem? (i := 1213) (by decide +kernel)) (by decide +kernel), in_X8, by decide +kernel, by decide +kernel, by decide +kernel⟩, TsG_t (List.mem_of_getElem? (i := 1211) (by decide +kernel)) (by decide +kernel), TsG_t (List.mem_of_getElem? (i := 1212) (by decide +kernel)) (by decide +kernel)⟩
theorem pk_X8_addTarget : PkV yX8_addTarget cX8_addTarget 2 (some .int) 1 := ⟨⟨TsG_t (List.mem_of_getElem? (i := 1082) (by decide +kernel)) (by decide +kernel), in_X8, by decide +kernel, by decide +kernel, by decide +kernel⟩, TsG_t (List.mem_of_getElem? (i := 1080) (by decide +kernel)) (by decide +kernel), TsG_t (List.mem_of_getElem? (i := 1081) (by decide +kernel)) (by decide +kernel)⟩
theorem pk_X8_affected : PkV yX8_affected cX8_affected 4 (some .int) 1 := ⟨⟨TsG_t (List.mem_of_getElem? (i := 1145) (by decide +kernel)) (by decide +kernel), in_X8, by decide +kernel, by decide +kernel, by decide +kernel⟩, TsG_t (List.mem_of_getElem? (i := 1144) (by decide +kernel)) (by decide +kernel), TsG_s (q := (yX8_affected, 27)) (List.mem_of_getElem? (i := 43) (by decide +kernel))⟩
theorem pk_X8_affectedBy : PkV yX8_affectedBy cX8_affectedBy 2 (some .int) 1 := ⟨⟨TsG_t (List.mem_of_getElem? (i := 1141) (by decide +kernel)) (by decide +kernel), in_X8, by decide +kernel, by decide +kernel, by decide +kernel⟩, TsG_t (List.mem_of_getElem? (i := 1139) (by decide +kernel)) (by decide +kernel), TsG_t (List.mem_of_getElem? (i := 1140) (by decide +kernel)) (by decide +kernel)⟩
theorem pk_X8_affectedByGoingDown : PkV yX8_affectedByGoingDown cX8_affectedByGoingDown 2 (some .int) 1 := ⟨⟨TsG_t (List.mem_of_getElem? (i := 1149) (by decide +kernel)) (by decide +kernel), in_X8, by decide +kernel, by decide +kernel, by decide +kernel⟩, TsG_t (List.mem_of_getElem? (i := 1147) (by decide +kernel)) (by decide +kernel), TsG_t (List.mem_of_getElem? (i := 1148) (by decide +kernel)) (by decide +kernel)⟩
theorem pk_X8_at : PkV yX8_at cX8_at 3 (some .int) 2 := ⟨⟨TsG_t (List.mem_of_getElem? (i := 1015) (by decide +kernel)) (by decide +kernel), in_X8, by decide +kernel, by decide +kernel, by decide +kernel⟩, TsG_t (List.mem_of_getElem? (i := 1014) (by decide +kernel)) (by decide +kernel), TsG_s (q := (yX8_at, 27)) (List.mem_of_getElem? (i := 27) (by decide +kernel))⟩
theorem pk_X8_begins : PkV yX8_begins cX8_begins 5 (some .int) 2 := ⟨⟨TsG_t (List.mem_of_getElem? (i := 1078) (by decide +kernel)) (by decide +kernel), in_X8, by decide +kernel, by decide +kernel, by decide +kernel⟩, TsG_t (List.mem_of_getElem? (i := 1077) (by decide +kernel)) (by decide +kernel), TsG_s (q := (yX8_begins, 27)) (List.mem_of_getElem? (i := 35) (by decide +kernel))⟩
theorem pk_X8_changed : PkV yX8_changed cX8_changed 3 (some .int) 0 := ⟨⟨TsG_t (List.mem_of_getElem? (i := 1229) (by decide +kernel)) (by decide +kernel), in_X8, by decide +kernel, by decide +kernel, by decide +kernel⟩, TsG_t (List.mem_of_getElem? (i := 1227) (by decide +kernel)) (by decide +kernel), TsG_t (List.mem_of_getElem? (i := 1228) (by decide +kernel)) (by decide +kernel)⟩
theorem pk_X8_clearText : PkV yX8_clearText cX8_clearText 2 (some .int) 0 := ⟨⟨TsG_t (List.mem_of_getElem? (i := 999) (by decide +kernel)) (by decide +kernel), in_X8, by decide +kernel, by decide +kernel, by decide +kernel⟩, TsG_t (List.mem_of_getElem? (i := 997) (by decide +kernel)) (by decide +kernel), TsG_t (List.mem_of_getElem? (i := 998) (by decide +kernel)) (by decide +kernel)⟩
theorem pk_X8_copies : PkV yX8_copies cX8_copies 3 none 1 := ⟨⟨TsG_t (List.mem_of_getElem? (i := 1094) (by decide +kernel)) (by decide +kernel), in_X8, by decide +kernel, by decide +kernel, by decide +kernel⟩, TsG_t (List.mem_of_getElem? (i := 1093) (by decide +kernel)) (by decide +kernel), TsG_s (q := (yX8_copies, 27)) (List.mem_of_getElem? (i := 37) (by decide +kernel))⟩
theorem pk_X8_count : PkS yX8_count cX8_count 3 (some .int) 1 := ⟨⟨TsG_t (List.mem_of_getElem? (i := 1105) (by decide +kernel)) (by decide +kernel), in_X8, by decide +kernel, by decide +kernel, by decide +kernel⟩, TsG_t (List.mem_of_getElem? (i := 1104) (by decide +kernel)) (by decide +kernel)⟩
theorem pk_X8_delete : PkV yX8_delete cX8_delete 2 (some .int) 1 := ⟨⟨TsG_t (List.mem_of_getElem? (i := 1050) (by decide +kernel)) (by decide +kernel), in_X8, by decide +kernel, by decide +kernel, by decide +kernel⟩, TsG_t (List.mem_of_getElem? (i := 1048) (by decide +kernel)) (by decide +kernel), TsG_t (List.mem_of_getElem? (i := 1049) (by decide +kernel)) (by decide +kernel)⟩
theorem pk_X8_depend : PkV yX8_depend cX8_depend 3 (some .int) 2 := ⟨⟨TsG_t (List.mem_of_getElem? (i := 1109) (by decide +kernel)) (by decide +kernel), in_X8, by decide +kernel, by decide +kernel, by decide +kernel⟩, TsG_t (List.mem_of_getElem? (i := 1107) (by decide +kernel)) (by decide +kernel), TsG_t (List.mem_of_getElem? (i := 1108) (by decide +kernel)) (by decide +kernel)⟩
theorem pk_X8_edit : PkV yX8_edit cX8_edit 4 (some .int) 2 := ⟨⟨TsG_t (List.mem_of_getElem? (i := 1042) (by decide +kernel)) (by decide +kernel), in_X8, by decide +kernel, by decide +kernel, by decide +kernel⟩, TsG_t (List.mem_of_getElem? (i := 1040) (by decide +kernel)) (by decide +kernel), TsG_t (List.mem_of_getElem? (i := 1041) (by decide +kernel)) (by decide +kernel)⟩
theorem pk_X8_endOf : PkV yX8_endOf cX8_endOf 4 (some .int) 2 := ⟨⟨TsG_t (List.mem_of_getElem? (i := 1066) (by decide +kernel)) (by decide +kernel), in_X8, by decide +kernel, by decide +kernel, by decide +kernel⟩, TsG_t (List.mem_of_getElem? (i := 1065) (by decide +kernel)) (by decide +kernel), TsG_s (q := (yX8_endOf, 27)) (List.mem_of_getElem? (i := 32) (by decide +kernel))⟩
theorem pk_X8_fileOf : PkV yX8_fileOf cX8_fileOf 5 (some .int) 0 := ⟨⟨TsG_t (List.mem_of_getElem? (i := 1034) (by decide +kernel)) (by decide +kernel), in_X8, by decide +kernel, by decide +kernel, by decide +kernel⟩, TsG_t (List.mem_of_getElem? (i := 1033) (by decide +kernel)) (by decide +kernel), TsG_s (q := (yX8_fileOf, 27)) (List.mem_of_getElem? (i := 29) (by decide +kernel))⟩
theorem pk_X8_files : PkV yX8_files cX8_files 3 (some .int) 0 := ⟨⟨TsG_t (List.mem_of_getElem? (i := 1054) (by decide +kernel)) (by decide +kernel), in_X8, by decide +kernel, by decide +kernel, by decide +kernel⟩, TsG_t (List.mem_of_getElem? (i := 1052) (by decide +kernel)) (by decide +kernel), TsG_t (List.mem_of_getElem? (i := 1053) (by decide +kernel)) (by decide +kernel)⟩
theorem pk_X8_findFile : PkV yX8_findFile cX8_findFile 1 (some .int) 0 := ⟨⟨TsG_t (List.mem_of_getElem? (i := 1038) (by decide +kernel)) (by decide +kernel), in_X8, by decide +kernel, by decide +kernel, by decide +kernel⟩, TsG_t (List.mem_of_getElem? (i := 1036) (by decide +kernel)) (by decide +kernel), TsG_t (List.mem_of_getElem? (i := 1037) (by decide +kernel)) (by decide +kernel)⟩
theorem pk_X8_given : PkV yX8_given cX8_given 7 (some .int) 1 := ⟨⟨TsG_t (List.mem_of_getElem? (i := 1161) (by decide +kernel)) (by decide +kernel), in_X8, by decide +kernel, by decide +kernel, by decide +kernel⟩, TsG_t (List.mem_of_getElem? (i := 1160) (by decide +kernel)) (by decide +kernel), TsG_s (q := (yX8_given, 27)) (List.mem_of_getElem? (i := 45) (by decide +kernel))⟩
theorem pk_X8_hasEmpty : PkV yX8_hasEmpty cX8_hasEmpty 3 (some .boolean) 0 := ⟨⟨TsG_t (List.mem_of_getElem? (i := 1011) (by decide +kernel)) (by decide +kernel), in_X8, by decide +kernel, by decide +kernel, by decide +kernel⟩, TsG_t (List.mem_of_getElem? (i := 1010) (by decide +kernel)) (by decide +kernel), TsG_s (q := (yX8_hasEmpty, 27)) (List.mem_of_getElem? (i := 26) (by decide +kernel))⟩
theorem pk_X8_hasInputs : PkV yX8_hasInputs cX8_hasInputs 5 (some .boolean) 2 := ⟨⟨TsG_t (List.mem_of_getElem? (i := 1165) (by decide +kernel)) (by decide +kernel), in_X8, by decide +kernel, by decide +kernel, by decide +kernel⟩, TsG_t (List.mem_of_getElem? (i := 1164) (by decide +kernel)) (by decide +kernel), TsG_s (q := (yX8_hasInputs, 27)) (List.mem_of_getElem? (i := 46) (by decide +kernel))⟩
theorem pk_X8_init : Pk yX8_init cX8_init 1 none 0 ∧ Cond.instanceMethod yX8_init ∈ TsG := ⟨⟨TsG_t (List.mem_of_getElem? (i := 903) (by decide +kernel)) (by decide +kernel), in_X8, by decide +kernel, by decide +kernel, by decide +kernel⟩, TsG_t (List.mem_of_getElem? (i := 902) (by decide +kernel)) (by decide +kernel)⟩
theorem pk_X8_inputs : PkV yX8_inputs cX8_inputs 2 (some .int) 1 := ⟨⟨TsG_t (List.mem_of_getElem? (i := 1125) (by decide +kernel)) (by decide +kernel), in_X8, by decide +kernel, by decide +kernel, by decide +kernel⟩, TsG_t (List.mem_of_getElem? (i := 1123) (by decide +kernel)) (by decide +kernel), TsG_t (List.mem_of_getElem? (i := 1124) (by decide +kernel)) (by decide +kernel)⟩
theorem pk_X8_inputsOf : PkV yX8_inputsOf cX8_inputsOf 4 (some .int) 1 := ⟨⟨TsG_t (List.mem_of_getElem? (i := 1098) (by decide +kernel)) (by decide +kernel), in_X8, by decide +kernel, by decide +kernel, by decide +kernel⟩, TsG_t (List.mem_of_getElem? (i := 1097) (by decide +kernel)) (by decide +kernel), TsG_s (q := (yX8_inputsOf, 27)) (List.mem_of_getElem? (i := 38) (by decide +kernel))⟩
theorem pk_X8_isChanged : PkV yX8_isChanged cX8_isChanged 2 (some .boolean) 1 := ⟨⟨TsG_t (List.mem_of_getElem? (i := 1233) (by decide +kernel)) (by decide +kernel), in_X8, by decide +kernel, by decide +kernel, by decide +kernel⟩, TsG_t (List.mem_of_getElem? (i := 1232) (by decide +kernel)) (by decide +kernel), TsG_s (q := (yX8_isChanged, 27)) (List.mem_of_getElem? (i := 51) (by decide +kernel))⟩
theorem pk_X8_isGlob : PkV yX8_isGlob cX8_isGlob 1 (some .boolean) 0 := ⟨⟨TsG_t (List.mem_of_getElem? (i := 1019) (by decide +kernel)) (by decide +kernel), in_X8, by decide +kernel, by decide +kernel, by decide +kernel⟩, TsG_t (List.mem_of_getElem? (i := 1017) (by decide +kernel)) (by decide +kernel), TsG_t (List.mem_of_getElem? (i := 1018) (by decide +kernel)) (by decide +kernel)⟩
theorem pk_X8_isGlobNow : PkV yX8_isGlobNow cX8_isGlobNow 4 (some .boolean) 0 := ⟨⟨TsG_t (List.mem_of_getElem? (i := 1023) (by decide +kernel)) (by decide +kernel), in_X8, by decide +kernel, by decide +kernel, by decide +kernel⟩, TsG_t (List.mem_of_getElem? (i := 1022) (by decide +kernel)) (by decide +kernel), TsG_s (q := (yX8_isGlobNow, 27)) (List.mem_of_getElem? (i := 28) (by decide +kernel))⟩
theorem pk_X8_isIn : PkS yX8_isIn cX8_isIn 3 (some .boolean) 3 := ⟨⟨TsG_t (List.mem_of_getElem? (i := 1030) (by decide +kernel)) (by decide +kernel), in_X8, by decide +kernel, by decide +kernel, by decide +kernel⟩, TsG_t (List.mem_of_getElem? (i := 1029) (by decide +kernel)) (by decide +kernel)⟩
theorem pk_X8_isLaid : PkV yX8_isLaid cX8_isLaid 14 (some .boolean) 6 := ⟨⟨TsG_t (List.mem_of_getElem? (i := 1074) (by decide +kernel)) (by decide +kernel), in_X8, by decide +kernel, by decide +kernel, by decide +kernel⟩, TsG_t (List.mem_of_getElem? (i := 1073) (by decide +kernel)) (by decide +kernel), TsG_s (q := (yX8_isLaid, 27)) (List.mem_of_getElem? (i := 34) (by decide +kernel))⟩
theorem pk_X8_isMatched : PkV yX8_isMatched cX8_isMatched 11 (some .boolean) 2 := ⟨⟨TsG_t (List.mem_of_getElem? (i := 1062) (by decide +kernel)) (by decide +kernel), in_X8, by decide +kernel, by decide +kernel, by decide +kernel⟩, TsG_t (List.mem_of_getElem? (i := 1061) (by decide +kernel)) (by decide +kernel), TsG_s (q := (yX8_isMatched, 27)) (List.mem_of_getElem? (i := 31) (by decide +kernel))⟩
theorem pk_X8_isPath : PkV yX8_isPath cX8_isPath 1 (some .boolean) 0 := ⟨⟨TsG_t (List.mem_of_getElem? (i := 1003) (by decide +kernel)) (by decide +kernel), in_X8, by decide +kernel, by decide +kernel, by decide +kernel⟩, TsG_t (List.mem_of_getElem? (i := 1001) (by decide +kernel)) (by decide +kernel), TsG_t (List.mem_of_getElem? (i := 1002) (by decide +kernel)) (by decide +kernel)⟩
theorem pk_X8_isPathNow : PkV yX8_isPathNow cX8_isPathNow 3 (some .boolean) 0 := ⟨⟨TsG_t (List.mem_of_getElem? (i := 1007) (by decide +kernel)) (by decide +kernel), in_X8, by decide +kernel, by decide +kernel, by decide +kernel⟩, TsG_t (List.mem_of_getElem? (i := 1006) (by decide +kernel)) (by decide +kernel), TsG_s (q := (yX8_isPathNow, 27)) (List.mem_of_getElem? (i := 25) (by decide +kernel))⟩
theorem pk_X8_isTarget : PkV yX8_isTarget cX8_isTarget 2 (some .boolean) 1 := ⟨⟨TsG_t (List.mem_of_getElem? (i := 1090) (by decide +kernel)) (by decide +kernel), in_X8, by decide +kernel, by decide +kernel, by decide +kernel⟩, TsG_t (List.mem_of_getElem? (i := 1089) (by decide +kernel)) (by decide +kernel), TsG_s (q := (yX8_isTarget, 27)) (List.mem_of_getElem? (i := 36) (by decide +kernel))⟩
theorem pk_X8_isThere : PkV yX8_isThere cX8_isThere 2 (some .boolean) 1 := ⟨⟨TsG_t (List.mem_of_getElem? (i := 1046) (by decide +kernel)) (by decide +kernel), in_X8, by decide +kernel, by decide +kernel, by decide +kernel⟩, TsG_t (List.mem_of_getElem? (i := 1045) (by decide +kernel)) (by decide +kernel), TsG_s (q := (yX8_isThere, 27)) (List.mem_of_getElem? (i := 30) (by decide +kernel))⟩
theorem pk_X8_keyOf : PkV yX8_keyOf cX8_keyOf 2 (some .int) 1 := ⟨⟨TsG_t (List.mem_of_getElem? (i := 1153) (by decide +kernel)) (by decide +kernel), in_X8, by decide +kernel, by decide +kernel, by decide +kernel⟩, TsG_t (List.mem_of_getElem? (i := 1151) (by decide +kernel)) (by decide +kernel), TsG_t (List.mem_of_getElem? (i := 1152) (by decide +kernel)) (by decide +kernel)⟩
theorem pk_X8_keys : PkV yX8_keys cX8_keys 1 (some .int) 0 := ⟨⟨TsG_t (List.mem_of_getElem? (i := 1193) (by decide +kernel)) (by decide +kernel), in_X8, by decide +kernel, by decide +kernel, by decide +kernel⟩, TsG_t (List.mem_of_getElem? (i := 1191) (by decide +kernel)) (by decide +kernel), TsG_t (List.mem_of_getElem? (i := 1192) (by decide +kernel)) (by decide +kernel)⟩
theorem pk_X8_laysKeys : PkV yX8_laysKeys cX8_laysKeys 5 none 0 := ⟨⟨TsG_t (List.mem_of_getElem? (i := 1157) (by decide +kernel)) (by decide +kernel), in_X8, by decide +kernel, by decide +kernel, by decide +kernel⟩, TsG_t (List.mem_of_getElem? (i := 1156) (by decide +kernel)) (by decide +kernel), TsG_s (q := (yX8_laysKeys, 27)) (List.mem_of_getElem? (i := 44) (by decide +kernel))⟩
theorem pk_X8_longestShard : PkV yX8_longestShard cX8_longestShard 2 (some .int) 1 := ⟨⟨TsG_t (List.mem_of_getElem? (i := 1205) (by decide +kernel)) (by decide +kernel), in_X8, by decide +kernel, by decide +kernel, by decide +kernel⟩, TsG_t (List.mem_of_getElem? (i := 1203) (by decide +kernel)) (by decide +kernel), TsG_t (List.mem_of_getElem? (i := 1204) (by decide +kernel)) (by decide +kernel)⟩
theorem pk_X8_mark : PkV yX8_mark cX8_mark 3 (some .int) 0 := ⟨⟨TsG_t (List.mem_of_getElem? (i := 1225) (by decide +kernel)) (by decide +kernel), in_X8, by decide +kernel, by decide +kernel, by decide +kernel⟩, TsG_t (List.mem_of_getElem? (i := 1223) (by decide +kernel)) (by decide +kernel), TsG_t (List.mem_of_getElem? (i := 1224) (by decide +kernel)) (by decide +kernel)⟩
theorem pk_X8_matches : PkV yX8_matches cX8_matches 2 (some .boolean) 1 := ⟨⟨TsG_t (List.mem_of_getElem? (i := 1058) (by decide +kernel)) (by decide +kernel), in_X8, by decide +kernel, by decide +kernel, by decide +kernel⟩, TsG_t (List.mem_of_getElem? (i := 1056) (by decide +kernel)) (by decide +kernel), TsG_t (List.mem_of_getElem? (i := 1057) (by decide +kernel)) (by decide +kernel)⟩
theorem pk_X8_needed : PkV yX8_needed cX8_needed 1 (some .int) 0 := ⟨⟨TsG_t (List.mem_of_getElem? (i := 1169) (by decide +kernel)) (by decide +kernel), in_X8, by decide +kernel, by decide +kernel, by decide +kernel⟩, TsG_t (List.mem_of_getElem? (i := 1167) (by decide +kernel)) (by decide +kernel), TsG_t (List.mem_of_getElem? (i := 1168) (by decide +kernel)) (by decide +kernel)⟩
theorem pk_X8_neededNow : PkV yX8_neededNow cX8_neededNow 3 (some .int) 0 := ⟨⟨TsG_t (List.mem_of_getElem? (i := 1173) (by decide +kernel)) (by decide +kernel), in_X8, by decide +kernel, by decide +kernel, by decide +kernel⟩, TsG_t (List.mem_of_getElem? (i := 1172) (by decide +kernel)) (by decide +kernel), TsG_s (q := (yX8_neededNow, 27)) (List.mem_of_getElem? (i := 47) (by decide +kernel))⟩
theorem pk_X8_orderAt : PkV yX8_orderAt cX8_orderAt 2 (some .int) 1 := ⟨⟨TsG_t (List.mem_of_getElem? (i := 1133) (by decide +kernel)) (by decide +kernel), in_X8, by decide +kernel, by decide +kernel, by decide +kernel⟩, TsG_t (List.mem_of_getElem? (i := 1131) (by decide +kernel)) (by decide +kernel), TsG_t (List.mem_of_getElem? (i := 1132) (by decide +kernel)) (by decide +kernel)⟩
theorem pk_X8_orders : PkV yX8_orders cX8_orders 5 none 0 := ⟨⟨TsG_t (List.mem_of_getElem? (i := 1137) (by decide +kernel)) (by decide +kernel), in_X8, by decide +kernel, by decide +kernel, by decide +kernel⟩, TsG_t (List.mem_of_getElem? (i := 1136) (by decide +kernel)) (by decide +kernel), TsG_s (q := (yX8_orders, 27)) (List.mem_of_getElem? (i := 42) (by decide +kernel))⟩
theorem pk_X8_ownerNow : PkV yX8_ownerNow cX8_ownerNow 4 (some .int) 1 := ⟨⟨TsG_t (List.mem_of_getElem? (i := 1221) (by decide +kernel)) (by decide +kernel), in_X8, by decide +kernel, by decide +kernel, by decide +kernel⟩, TsG_t (List.mem_of_getElem? (i := 1220) (by decide +kernel)) (by decide +kernel), TsG_s (q := (yX8_ownerNow, 27)) (List.mem_of_getElem? (i := 50) (by decide +kernel))⟩
theorem pk_X8_ownerOf : PkV yX8_ownerOf cX8_ownerOf 2 (some .int) 1 := ⟨⟨TsG_t (List.mem_of_getElem? (i := 1217) (by decide +kernel)) (by decide +kernel), in_X8, by decide +kernel, by decide +kernel, by decide +kernel⟩, TsG_t (List.mem_of_getElem? (i := 1215) (by decide +kernel)) (by decide +kernel), TsG_t (List.mem_of_getElem? (i := 1216) (by decide +kernel)) (by decide +kernel)⟩
theorem pk_X8_pathAt : PkV yX8_pathAt cX8_pathAt 3 (some .int) 2 := ⟨⟨TsG_t (List.mem_of_getElem? (i := 1070) (by decide +kernel)) (by decide +kernel), in_X8, by decide +kernel, by decide +kernel, by decide +kernel⟩, TsG_t (List.mem_of_getElem? (i := 1069) (by decide +kernel)) (by decide +kernel), TsG_s (q := (yX8_pathAt, 27)) (List.mem_of_getElem? (i := 33) (by decide +kernel))⟩
theorem pk_X8_reviewers : PkV yX8_reviewers cX8_reviewers 4 (some .int) 0 := ⟨⟨TsG_t (List.mem_of_getElem? (i := 1237) (by decide +kernel)) (by decide +kernel), in_X8, by decide +kernel, by decide +kernel, by decide +kernel⟩, TsG_t (List.mem_of_getElem? (i := 1235) (by decide +kernel)) (by decide +kernel), TsG_t (List.mem_of_getElem? (i := 1236) (by decide +kernel)) (by decide +kernel)⟩
theorem pk_X8_run : PkV yX8_run cX8_run 3 (some .int) 1 := ⟨⟨TsG_t (List.mem_of_getElem? (i := 1181) (by decide +kernel)) (by decide +kernel), in_X8, by decide +kernel, by decide +kernel, by decide +kernel⟩, TsG_t (List.mem_of_getElem? (i := 1179) (by decide +kernel)) (by decide +kernel), TsG_t (List.mem_of_getElem? (i := 1180) (by decide +kernel)) (by decide +kernel)⟩
theorem pk_X8_runAll : PkV yX8_runAll cX8_runAll 3 (some .int) 0 := ⟨⟨TsG_t (List.mem_of_getElem? (i := 1189) (by decide +kernel)) (by decide +kernel), in_X8, by decide +kernel, by decide +kernel, by decide +kernel⟩, TsG_t (List.mem_of_getElem? (i := 1187) (by decide +kernel)) (by decide +kernel), TsG_t (List.mem_of_getElem? (i := 1188) (by decide +kernel)) (by decide +kernel)⟩
theorem pk_X8_runs : PkV yX8_runs cX8_runs 3 none 1 := ⟨⟨TsG_t (List.mem_of_getElem? (i := 1185) (by decide +kernel)) (by decide +kernel), in_X8, by decide +kernel, by decide +kernel, by decide +kernel⟩, TsG_t (List.mem_of_getElem? (i := 1184) (by decide +kernel)) (by decide +kernel), TsG_s (q := (yX8_runs, 27)) (List.mem_of_getElem? (i := 48) (by decide +kernel))⟩
theorem pk_X8_shardOf : PkV yX8_shardOf cX8_shardOf 3 (some .int) 2 := ⟨⟨TsG_t (List.mem_of_getElem? (i := 1197) (by decide +kernel)) (by decide +kernel), in_X8, by decide +kernel, by decide +kernel, by decide +kernel⟩, TsG_t (List.mem_of_getElem? (i := 1195) (by decide +kernel)) (by decide +kernel), TsG_t (List.mem_of_getElem? (i := 1196) (by decide +kernel)) (by decide +kernel)⟩
theorem pk_X8_shardsFor : PkV yX8_shardsFor cX8_shardsFor 4 (some .int) 1 := ⟨⟨TsG_t (List.mem_of_getElem? (i := 1209) (by decide +kernel)) (by decide +kernel), in_X8, by decide +kernel, by decide +kernel, by decide +kernel⟩, TsG_t (List.mem_of_getElem? (i := 1207) (by decide +kernel)) (by decide +kernel), TsG_t (List.mem_of_getElem? (i := 1208) (by decide +kernel)) (by decide +kernel)⟩
theorem pk_X8_spreads : PkV yX8_spreads cX8_spreads 7 (some .int) 1 := ⟨⟨TsG_t (List.mem_of_getElem? (i := 1201) (by decide +kernel)) (by decide +kernel), in_X8, by decide +kernel, by decide +kernel, by decide +kernel⟩, TsG_t (List.mem_of_getElem? (i := 1200) (by decide +kernel)) (by decide +kernel), TsG_s (q := (yX8_spreads, 27)) (List.mem_of_getElem? (i := 49) (by decide +kernel))⟩
theorem pk_X8_takes : PkV yX8_takes cX8_takes 5 (some .boolean) 2 := ⟨⟨TsG_t (List.mem_of_getElem? (i := 1102) (by decide +kernel)) (by decide +kernel), in_X8, by decide +kernel, by decide +kernel, by decide +kernel⟩, TsG_t (List.mem_of_getElem? (i := 1101) (by decide +kernel)) (by decide +kernel), TsG_s (q := (yX8_takes, 27)) (List.mem_of_getElem? (i := 39) (by decide +kernel))⟩
theorem pk_X8_targets : PkV yX8_targets cX8_targets 1 (some .int) 0 := ⟨⟨TsG_t (List.mem_of_getElem? (i := 1121) (by decide +kernel)) (by decide +kernel), in_X8, by decide +kernel, by decide +kernel, by decide +kernel⟩, TsG_t (List.mem_of_getElem? (i := 1119) (by decide +kernel)) (by decide +kernel), TsG_t (List.mem_of_getElem? (i := 1120) (by decide +kernel)) (by decide +kernel)⟩
theorem pk_X8_thrown : PkV yX8_thrown cX8_thrown 1 (some .int) 0 := ⟨⟨TsG_t (List.mem_of_getElem? (i := 991) (by decide +kernel)) (by decide +kernel), in_X8, by decide +kernel, by decide +kernel, by decide +kernel⟩, TsG_t (List.mem_of_getElem? (i := 989) (by decide +kernel)) (by decide +kernel), TsG_t (List.mem_of_getElem? (i := 990) (by decide +kernel)) (by decide +kernel)⟩
theorem pk_X8_type : PkV yX8_type cX8_type 3 (some .int) 1 := ⟨⟨TsG_t (List.mem_of_getElem? (i := 995) (by decide +kernel)) (by decide +kernel), in_X8, by decide +kernel, by decide +kernel, by decide +kernel⟩, TsG_t (List.mem_of_getElem? (i := 993) (by decide +kernel)) (by decide +kernel), TsG_t (List.mem_of_getElem? (i := 994) (by decide +kernel)) (by decide +kernel)⟩
theorem pk_X8_upwards : PkV yX8_upwards cX8_upwards 5 (some .int) 1 := ⟨⟨TsG_t (List.mem_of_getElem? (i := 1117) (by decide +kernel)) (by decide +kernel), in_X8, by decide +kernel, by decide +kernel, by decide +kernel⟩, TsG_t (List.mem_of_getElem? (i := 1116) (by decide +kernel)) (by decide +kernel), TsG_s (q := (yX8_upwards, 27)) (List.mem_of_getElem? (i := 41) (by decide +kernel))⟩
theorem pk_X8_whyRun : PkV yX8_whyRun cX8_whyRun 2 (some .int) 1 := ⟨⟨TsG_t (List.mem_of_getElem? (i := 1177) (by decide +kernel)) (by decide +kernel), in_X8, by decide +kernel, by decide +kernel, by decide +kernel⟩, TsG_t (List.mem_of_getElem? (i := 1175) (by decide +kernel)) (by decide +kernel), TsG_t (List.mem_of_getElem? (i := 1176) (by decide +kernel)) (by decide +kernel)⟩
theorem shk_4 : shp 4 = 6 := by decide +kernel
theorem lnk_4 : ln 4 = 24 := by decide +kernel
theorem shk_5 : shp 5 = 3 := by decide +kernel
theorem lnk_5 : ln 5 = 24 := by decide +kernel
theorem shk_6 : shp 6 = 3 := by decide +kernel
theorem lnk_6 : ln 6 = 24 := by decide +kernel
theorem shk_56 : shp 56 = 3 := by decide +kernel
theorem lnk_56 : ln 56 = 16 := by decide +kernel
theorem shk_57 : shp 57 = 3 := by decide +kernel
theorem lnk_57 : ln 57 = 16 := by decide +kernel
theorem shk_58 : shp 58 = 8 := by decide +kernel
theorem lnk_58 : ln 58 = 16 := by decide +kernel
theorem shk_59 : shp 59 = 3 := by decide +kernel
theorem lnk_59 : ln 59 = 16 := by decide +kernel
theorem shk_237 : shp 237 = 12 := by decide +kernel
theorem lnk_237 : ln 237 = 201 := by decide +kernel
theorem shk_238 : shp 238 = 3 := by decide +kernel
theorem lnk_238 : ln 238 = 201 := by decide +kernel
theorem shk_239 : shp 239 = 3 := by decide +kernel
theorem lnk_239 : ln 239 = 16 := by decide +kernel
theorem shk_240 : shp 240 = 3 := by decide +kernel
theorem lnk_240 : ln 240 = 16 := by decide +kernel
theorem shk_241 : shp 241 = 3 := by decide +kernel
theorem lnk_241 : ln 241 = 40 := by decide +kernel
theorem shk_444 : shp 444 = 3 := by decide +kernel
theorem lnk_444 : ln 444 = 8 := by decide +kernel
theorem shk_445 : shp 445 = 3 := by decide +kernel
theorem lnk_445 : ln 445 = 16 := by decide +kernel
theorem shk_447 : shp 447 = 3 := by decide +kernel
theorem lnk_447 : ln 447 = 12 := by decide +kernel
theorem shk_476 : shp 476 = 19 := by decide +kernel
theorem lnk_476 : ln 476 = 1848 := by decide +kernel
theorem shk_477 : shp 477 = 19 := by decide +kernel
theorem lnk_477 : ln 477 = 77 := by decide +kernel
theorem shk_478 : shp 478 = 19 := by decide +kernel
theorem lnk_478 : ln 478 = 576 := by decide +kernel
theorem shk_479 : shp 479 = 19 := by decide +kernel
theorem lnk_479 : ln 479 = 24 := by decide +kernel
theorem shk_480 : shp 480 = 17 := by decide +kernel
theorem lnk_480 : ln 480 = 24 := by decide +kernel
theorem shk_481 : shp 481 = 19 := by decide +kernel
theorem lnk_481 : ln 481 = 24 := by decide +kernel
theorem shk_482 : shp 482 = 17 := by decide +kernel
theorem lnk_482 : ln 482 = 24 := by decide +kernel
theorem shk_483 : shp 483 = 19 := by decide +kernel
theorem lnk_483 : ln 483 = 24 := by decide +kernel
theorem shk_484 : shp 484 = 19 := by decide +kernel
theorem lnk_484 : ln 484 = 16 := by decide +kernel
theorem shk_485 : shp 485 = 19 := by decide +kernel
theorem lnk_485 : ln 485 = 16 := by decide +kernel
theorem shk_486 : shp 486 = 19 := by decide +kernel
theorem lnk_486 : ln 486 = 16 := by decide +kernel
theorem shk_487 : shp 487 = 19 := by decide +kernel
theorem lnk_487 : ln 487 = 16 := by decide +kernel
theorem shk_488 : shp 488 = 19 := by decide +kernel
theorem lnk_488 : ln 488 = 12 := by decide +kernel
theorem shk_489 : shp 489 = 19 := by decide +kernel
theorem lnk_489 : ln 489 = 200 := by decide +kernel
theorem shk_490 : shp 490 = 19 := by decide +kernel
theorem lnk_490 : ln 490 = 200 := by decide +kernel
theorem shk_491 : shp 491 = 19 := by decide +kernel
theorem lnk_491 : ln 491 = 200 := by decide +kernel
theorem shk_492 : shp 492 = 19 := by decide +kernel
theorem lnk_492 : ln 492 = 4800 := by decide +kernel
theorem shk_493 : shp 493 = 19 := by decide +kernel
theorem lnk_493 : ln 493 = 3200 := by decide +kernel
theorem shk_494 : shp 494 = 19 := by decide +kernel
theorem lnk_494 : ln 494 = 16 := by decide +kernel
theorem shk_495 : shp 495 = 19 := by decide +kernel
theorem lnk_495 : ln 495 = 16 := by decide +kernel
theorem shk_496 : shp 496 = 19 := by decide +kernel
theorem lnk_496 : ln 496 = 8 := by decide +kernel
theorem shk_497 : shp 497 = 19 := by decide +kernel
theorem lnk_497 : ln 497 = 16 := by decide +kernel
theorem shk_498 : shp 498 = 18 := by decide +kernel
theorem lnk_498 : ln 498 = 1 := by decide +kernel
theorem shk_1 : shp 1 = 1 := by decide +kernel
theorem shk_448 : shp 448 = 9 := by decide +kernel
theorem shk_0 : shp 0 = 4 := by decide +kernel
theorem shk_3 : shp 3 = 5 := by decide +kernel
theorem shk_55 : shp 55 = 7 := by decide +kernel
theorem shk_236 : shp 236 = 11 := by decide +kernel
theorem shk_443 : shp 443 = 13 := by decide +kernel
theorem shk_446 : shp 446 = 14 := by decide +kernel
theorem shk_475 : shp 475 = 16 := by decide +kernel
theorem iw_X0 : ∀ w ∈ u_ws RX0 TX0 6, w ∈ TsG := by
  intro w hw
  exact TsG_of ((by decide +kernel : ∀ w ∈ u_ws RX0 TX0 6, w ∈ lw_tbl) w hw) ((by decide +kernel : ∀ w ∈ u_ws RX0 TX0 6, goodWord w = true) w hw)
theorem iw_X1 : ∀ w ∈ u_ws RX1 TX1 4, w ∈ TsG := by
  intro w hw
  exact TsG_of ((by decide +kernel : ∀ w ∈ u_ws RX1 TX1 4, w ∈ lw_tbl) w hw) ((by decide +kernel : ∀ w ∈ u_ws RX1 TX1 4, goodWord w = true) w hw)
theorem iw_X2 : ∀ w ∈ u_ws RX2 TX2 5, w ∈ TsG := by
  intro w hw
  exact TsG_of ((by decide +kernel : ∀ w ∈ u_ws RX2 TX2 5, w ∈ lw_tbl) w hw) ((by decide +kernel : ∀ w ∈ u_ws RX2 TX2 5, goodWord w = true) w hw)
theorem iw_X3 : ∀ w ∈ u_ws RX3 TX3 8, w ∈ TsG := by
  intro w hw
  exact TsG_of ((by decide +kernel : ∀ w ∈ u_ws RX3 TX3 8, w ∈ lw_tbl) w hw) ((by decide +kernel : ∀ w ∈ u_ws RX3 TX3 8, goodWord w = true) w hw)
theorem iw_X4 : ∀ w ∈ u_ws RX4 TX4 2, w ∈ TsG := by
  intro w hw
  exact TsG_of ((by decide +kernel : ∀ w ∈ u_ws RX4 TX4 2, w ∈ lw_tbl) w hw) ((by decide +kernel : ∀ w ∈ u_ws RX4 TX4 2, goodWord w = true) w hw)
theorem iw_X5 : ∀ w ∈ u_ws RX5 TX5 2, w ∈ TsG := by
  intro w hw
  exact TsG_of ((by decide +kernel : ∀ w ∈ u_ws RX5 TX5 2, w ∈ lw_tbl) w hw) ((by decide +kernel : ∀ w ∈ u_ws RX5 TX5 2, goodWord w = true) w hw)
theorem iw_X6 : ∀ w ∈ u_ws RX6 TX6 2, w ∈ TsG := by
  intro w hw
  exact TsG_of ((by decide +kernel : ∀ w ∈ u_ws RX6 TX6 2, w ∈ lw_tbl) w hw) ((by decide +kernel : ∀ w ∈ u_ws RX6 TX6 2, goodWord w = true) w hw)
theorem iw_X7 : ∀ w ∈ u_ws RX7 TX7 6, w ∈ TsG := by
  intro w hw
  exact TsG_of ((by decide +kernel : ∀ w ∈ u_ws RX7 TX7 6, w ∈ lw_tbl) w hw) ((by decide +kernel : ∀ w ∈ u_ws RX7 TX7 6, goodWord w = true) w hw)
theorem iw_X8 : ∀ w ∈ u_ws RX8 TX8 27, w ∈ TsG := by
  intro w hw
  exact TsG_of ((by decide +kernel : ∀ w ∈ u_ws RX8 TX8 27, w ∈ lw_tbl) w hw) ((by decide +kernel : ∀ w ∈ u_ws RX8 TX8 27, goodWord w = true) w hw)
end
section
section FR
variable {p : Program} {l : Launch} {e : Env} {R : Room} {s : State} {m : MethodId} {args : Array Value} {below : List Frame} {meth : Method} {c : Code} {H : Heap} {locs : List Loc} {cells slots : Nat} {Q : State → Prop} {cc : ByteArray} {nL pc : Nat} {ls : Array Slot} {rest : List Value} {Γ : gx_G} {C M : Mem} {own : String}
theorem get_X0_0 (S : CallFix p m c cc nL s args TsG own) (hG : gx_K Γ s) (hW : gx_W Γ C M H) {index : Nat} (hlink : Cond.fieldLink own index "Monobuild$FileTable" "paths" "[LMonobuild$Text;" ∈ TsG) (hdg : decode cc pc = .ok (.getfield index, 3))
    (kk : W p l e R s m args below meth c H locs cells slots Q (F0 m (pc + 3) ls (.ref (Γ.1 4) :: rest))) : W p l e R s m args below meth c H locs cells slots Q (F0 m pc ls (.ref (Γ.1 3) :: rest)) :=
  gg_get (CC := RX0) (T := TX0) (N := 6) (k := 3) (v := .ref (Γ.1 4)) S hG hW (by decide +kernel) rfl rfl iw_X0 0 (by decide) hlink rfl hdg kk
theorem get_X0_1 (S : CallFix p m c cc nL s args TsG own) (hG : gx_K Γ s) (hW : gx_W Γ C M H) {index : Nat} (hlink : Cond.fieldLink own index "Monobuild$FileTable" "contents" "[I" ∈ TsG) (hdg : decode cc pc = .ok (.getfield index, 3))
    (kk : W p l e R s m args below meth c H locs cells slots Q (F0 m (pc + 3) ls (.ref (Γ.1 5) :: rest))) : W p l e R s m args below meth c H locs cells slots Q (F0 m pc ls (.ref (Γ.1 3) :: rest)) :=
  gg_get (CC := RX0) (T := TX0) (N := 6) (k := 3) (v := .ref (Γ.1 5)) S hG hW (by decide +kernel) rfl rfl iw_X0 1 (by decide) hlink rfl hdg kk
theorem get_X0_2 (S : CallFix p m c cc nL s args TsG own) (hG : gx_K Γ s) (hW : gx_W Γ C M H) {index : Nat} (hlink : Cond.fieldLink own index "Monobuild$FileTable" "markedContents" "[I" ∈ TsG) (hdg : decode cc pc = .ok (.getfield index, 3))
    (kk : W p l e R s m args below meth c H locs cells slots Q (F0 m (pc + 3) ls (.ref (Γ.1 6) :: rest))) : W p l e R s m args below meth c H locs cells slots Q (F0 m pc ls (.ref (Γ.1 3) :: rest)) :=
  gg_get (CC := RX0) (T := TX0) (N := 6) (k := 3) (v := .ref (Γ.1 6)) S hG hW (by decide +kernel) rfl rfl iw_X0 2 (by decide) hlink rfl hdg kk
theorem get_X0_3 (S : CallFix p m c cc nL s args TsG own) (hG : gx_K Γ s) (hW : gx_W Γ C M H) {index : Nat} (hlink : Cond.fieldLink own index "Monobuild$FileTable" "count" "I" ∈ TsG) (hdg : decode cc pc = .ok (.getfield index, 3))
    (kk : W p l e R s m args below meth c H locs cells slots Q (F0 m (pc + 3) ls (.int (C 3 3) :: rest))) : W p l e R s m args below meth c H locs cells slots Q (F0 m pc ls (.ref (Γ.1 3) :: rest)) :=
  gg_get (CC := RX0) (T := TX0) (N := 6) (k := 3) (v := .int (C 3 3)) S hG hW (by decide +kernel) rfl rfl iw_X0 3 (by decide) hlink rfl hdg kk
theorem put_X0_3 (S : CallFix p m c cc nL s args TsG own) (hG : gx_K Γ s) (hW : gx_W Γ C M H) (hS : va_S (gA Γ) s.heap H locs) {x : Int32} {index : Nat} (hlink : Cond.fieldLink own index "Monobuild$FileTable" "count" "I" ∈ TsG) (hdg : decode cc pc = .ok (.putfield index, 3))
    (kk : ∀ (H1 : Heap) (locs1 : List Loc), gx_W Γ (mset C 3 3 x) M H1 → va_S (gA Γ) s.heap H1 locs1 → W p l e R s m args below meth c H1 locs1 cells slots Q (F0 m (pc + 3) ls rest)) : W p l e R s m args below meth c H locs cells slots Q (F0 m pc ls (.int x :: .ref (Γ.1 3) :: rest)) :=
  gg_putC (CC := RX0) (T := TX0) (N := 6) (k := 3) S hG hW hS (by decide +kernel) rfl rfl iw_X0 tyX0 tyX0_ok nmX0 3 (by decide) hlink rfl (by decide +kernel) (Nat.le_of_ble_eq_true rfl) rfl hdg kk
theorem get_X0_4 (S : CallFix p m c cc nL s args TsG own) (hG : gx_K Γ s) (hW : gx_W Γ C M H) {index : Nat} (hlink : Cond.fieldLink own index "Monobuild$FileTable" "there" "I" ∈ TsG) (hdg : decode cc pc = .ok (.getfield index, 3))
    (kk : W p l e R s m args below meth c H locs cells slots Q (F0 m (pc + 3) ls (.int (C 3 4) :: rest))) : W p l e R s m args below meth c H locs cells slots Q (F0 m pc ls (.ref (Γ.1 3) :: rest)) :=
  gg_get (CC := RX0) (T := TX0) (N := 6) (k := 3) (v := .int (C 3 4)) S hG hW (by decide +kernel) rfl rfl iw_X0 4 (by decide) hlink rfl hdg kk
theorem put_X0_4 (S : CallFix p m c cc nL s args TsG own) (hG : gx_K Γ s) (hW : gx_W Γ C M H) (hS : va_S (gA Γ) s.heap H locs) {x : Int32} {index : Nat} (hlink : Cond.fieldLink own index "Monobuild$FileTable" "there" "I" ∈ TsG) (hdg : decode cc pc = .ok (.putfield index, 3))
    (kk : ∀ (H1 : Heap) (locs1 : List Loc), gx_W Γ (mset C 3 4 x) M H1 → va_S (gA Γ) s.heap H1 locs1 → W p l e R s m args below meth c H1 locs1 cells slots Q (F0 m (pc + 3) ls rest)) : W p l e R s m args below meth c H locs cells slots Q (F0 m pc ls (.int x :: .ref (Γ.1 3) :: rest)) :=
  gg_putC (CC := RX0) (T := TX0) (N := 6) (k := 3) S hG hW hS (by decide +kernel) rfl rfl iw_X0 tyX0 tyX0_ok nmX0 4 (by decide) hlink rfl (by decide +kernel) (Nat.le_of_ble_eq_true rfl) rfl hdg kk
theorem get_X0_5 (S : CallFix p m c cc nL s args TsG own) (hG : gx_K Γ s) (hW : gx_W Γ C M H) {index : Nat} (hlink : Cond.fieldLink own index "Monobuild$FileTable" "markedThere" "I" ∈ TsG) (hdg : decode cc pc = .ok (.getfield index, 3))
    (kk : W p l e R s m args below meth c H locs cells slots Q (F0 m (pc + 3) ls (.int (C 3 5) :: rest))) : W p l e R s m args below meth c H locs cells slots Q (F0 m pc ls (.ref (Γ.1 3) :: rest)) :=
  gg_get (CC := RX0) (T := TX0) (N := 6) (k := 3) (v := .int (C 3 5)) S hG hW (by decide +kernel) rfl rfl iw_X0 5 (by decide) hlink rfl hdg kk
theorem put_X0_5 (S : CallFix p m c cc nL s args TsG own) (hG : gx_K Γ s) (hW : gx_W Γ C M H) (hS : va_S (gA Γ) s.heap H locs) {x : Int32} {index : Nat} (hlink : Cond.fieldLink own index "Monobuild$FileTable" "markedThere" "I" ∈ TsG) (hdg : decode cc pc = .ok (.putfield index, 3))
    (kk : ∀ (H1 : Heap) (locs1 : List Loc), gx_W Γ (mset C 3 5 x) M H1 → va_S (gA Γ) s.heap H1 locs1 → W p l e R s m args below meth c H1 locs1 cells slots Q (F0 m (pc + 3) ls rest)) : W p l e R s m args below meth c H locs cells slots Q (F0 m pc ls (.int x :: .ref (Γ.1 3) :: rest)) :=
  gg_putC (CC := RX0) (T := TX0) (N := 6) (k := 3) S hG hW hS (by decide +kernel) rfl rfl iw_X0 tyX0 tyX0_ok nmX0 5 (by decide) hlink rfl (by decide +kernel) (Nat.le_of_ble_eq_true rfl) rfl hdg kk
theorem get_X1_0 (S : CallFix p m c cc nL s args TsG own) (hG : gx_K Γ s) (hW : gx_W Γ C M H) {k : Nat} (hk : shp k = 9) {index : Nat} (hlink : Cond.fieldLink own index "Monobuild$Globs" "patterns" "[LMonobuild$Text;" ∈ TsG) (hdg : decode cc pc = .ok (.getfield index, 3))
    (kk : W p l e R s m args below meth c H locs cells slots Q (F0 m (pc + 3) ls (.ref (Γ.1 (k + 1)) :: rest))) : W p l e R s m args below meth c H locs cells slots Q (F0 m pc ls (.ref (Γ.1 k) :: rest)) :=
  gg_get (CC := RX1) (T := TX1) (N := 4) (k := k) (v := .ref (Γ.1 (k + 1))) S hG hW (sh_lt9 hk) (cc_9 hk _ _) rfl iw_X1 0 (by decide) hlink rfl hdg kk
theorem get_X1_1 (S : CallFix p m c cc nL s args TsG own) (hG : gx_K Γ s) (hW : gx_W Γ C M H) {k : Nat} (hk : shp k = 9) {index : Nat} (hlink : Cond.fieldLink own index "Monobuild$Globs" "coveredFiles" "[I" ∈ TsG) (hdg : decode cc pc = .ok (.getfield index, 3))
    (kk : W p l e R s m args below meth c H locs cells slots Q (F0 m (pc + 3) ls (.ref (Γ.1 (k + 2)) :: rest))) : W p l e R s m args below meth c H locs cells slots Q (F0 m pc ls (.ref (Γ.1 k) :: rest)) :=
  gg_get (CC := RX1) (T := TX1) (N := 4) (k := k) (v := .ref (Γ.1 (k + 2))) S hG hW (sh_lt9 hk) (cc_9 hk _ _) rfl iw_X1 1 (by decide) hlink rfl hdg kk
theorem get_X1_2 (S : CallFix p m c cc nL s args TsG own) (hG : gx_K Γ s) (hW : gx_W Γ C M H) {k : Nat} (hk : shp k = 9) {index : Nat} (hlink : Cond.fieldLink own index "Monobuild$Globs" "most" "I" ∈ TsG) (hdg : decode cc pc = .ok (.getfield index, 3))
    (kk : W p l e R s m args below meth c H locs cells slots Q (F0 m (pc + 3) ls (.int (C k 2) :: rest))) : W p l e R s m args below meth c H locs cells slots Q (F0 m pc ls (.ref (Γ.1 k) :: rest)) :=
  gg_get (CC := RX1) (T := TX1) (N := 4) (k := k) (v := .int (C k 2)) S hG hW (sh_lt9 hk) (cc_9 hk _ _) rfl iw_X1 2 (by decide) hlink rfl hdg kk
theorem get_X1_3 (S : CallFix p m c cc nL s args TsG own) (hG : gx_K Γ s) (hW : gx_W Γ C M H) {k : Nat} (hk : shp k = 9) {index : Nat} (hlink : Cond.fieldLink own index "Monobuild$Globs" "count" "I" ∈ TsG) (hdg : decode cc pc = .ok (.getfield index, 3))
    (kk : W p l e R s m args below meth c H locs cells slots Q (F0 m (pc + 3) ls (.int (C k 3) :: rest))) : W p l e R s m args below meth c H locs cells slots Q (F0 m pc ls (.ref (Γ.1 k) :: rest)) :=
  gg_get (CC := RX1) (T := TX1) (N := 4) (k := k) (v := .int (C k 3)) S hG hW (sh_lt9 hk) (cc_9 hk _ _) rfl iw_X1 3 (by decide) hlink rfl hdg kk
theorem put_X1_3 (S : CallFix p m c cc nL s args TsG own) (hG : gx_K Γ s) (hW : gx_W Γ C M H) (hS : va_S (gA Γ) s.heap H locs) {k : Nat} (hk : shp k = 9) {x : Int32} {index : Nat} (hlink : Cond.fieldLink own index "Monobuild$Globs" "count" "I" ∈ TsG) (hdg : decode cc pc = .ok (.putfield index, 3))
    (kk : ∀ (H1 : Heap) (locs1 : List Loc), gx_W Γ (mset C k 3 x) M H1 → va_S (gA Γ) s.heap H1 locs1 → W p l e R s m args below meth c H1 locs1 cells slots Q (F0 m (pc + 3) ls rest)) : W p l e R s m args below meth c H locs cells slots Q (F0 m pc ls (.int x :: .ref (Γ.1 k) :: rest)) :=
  gg_putC (CC := RX1) (T := TX1) (N := 4) (k := k) S hG hW hS (sh_lt9 hk) (cc_9 hk _ _) rfl iw_X1 tyX1 tyX1_ok nmX1 3 (by decide) hlink rfl (by decide +kernel) (Nat.le_of_ble_eq_true rfl) (cc_9 hk _ _) hdg kk
theorem get_X2_0 (S : CallFix p m c cc nL s args TsG own) (hG : gx_K Γ s) (hW : gx_W Γ C M H) {index : Nat} (hlink : Cond.fieldLink own index "Monobuild$Graph" "costs" "[I" ∈ TsG) (hdg : decode cc pc = .ok (.getfield index, 3))
    (kk : W p l e R s m args below meth c H locs cells slots Q (F0 m (pc + 3) ls (.ref (Γ.1 56) :: rest))) : W p l e R s m args below meth c H locs cells slots Q (F0 m pc ls (.ref (Γ.1 55) :: rest)) :=
  gg_get (CC := RX2) (T := TX2) (N := 5) (k := 55) (v := .ref (Γ.1 56)) S hG hW (by decide +kernel) rfl rfl iw_X2 0 (by decide) hlink rfl hdg kk
theorem get_X2_1 (S : CallFix p m c cc nL s args TsG own) (hG : gx_K Γ s) (hW : gx_W Γ C M H) {index : Nat} (hlink : Cond.fieldLink own index "Monobuild$Graph" "dependencies" "[I" ∈ TsG) (hdg : decode cc pc = .ok (.getfield index, 3))
    (kk : W p l e R s m args below meth c H locs cells slots Q (F0 m (pc + 3) ls (.ref (Γ.1 57) :: rest))) : W p l e R s m args below meth c H locs cells slots Q (F0 m pc ls (.ref (Γ.1 55) :: rest)) :=
  gg_get (CC := RX2) (T := TX2) (N := 5) (k := 55) (v := .ref (Γ.1 57)) S hG hW (by decide +kernel) rfl rfl iw_X2 1 (by decide) hlink rfl hdg kk
theorem get_X2_2 (S : CallFix p m c cc nL s args TsG own) (hG : gx_K Γ s) (hW : gx_W Γ C M H) {index : Nat} (hlink : Cond.fieldLink own index "Monobuild$Graph" "globs" "[LMonobuild$Globs;" ∈ TsG) (hdg : decode cc pc = .ok (.getfield index, 3))
    (kk : W p l e R s m args below meth c H locs cells slots Q (F0 m (pc + 3) ls (.ref (Γ.1 58) :: rest))) : W p l e R s m args below meth c H locs cells slots Q (F0 m pc ls (.ref (Γ.1 55) :: rest)) :=
  gg_get (CC := RX2) (T := TX2) (N := 5) (k := 55) (v := .ref (Γ.1 58)) S hG hW (by decide +kernel) rfl rfl iw_X2 2 (by decide) hlink rfl hdg kk
theorem get_X2_3 (S : CallFix p m c cc nL s args TsG own) (hG : gx_K Γ s) (hW : gx_W Γ C M H) {index : Nat} (hlink : Cond.fieldLink own index "Monobuild$Graph" "order" "[I" ∈ TsG) (hdg : decode cc pc = .ok (.getfield index, 3))
    (kk : W p l e R s m args below meth c H locs cells slots Q (F0 m (pc + 3) ls (.ref (Γ.1 59) :: rest))) : W p l e R s m args below meth c H locs cells slots Q (F0 m pc ls (.ref (Γ.1 55) :: rest)) :=
  gg_get (CC := RX2) (T := TX2) (N := 5) (k := 55) (v := .ref (Γ.1 59)) S hG hW (by decide +kernel) rfl rfl iw_X2 3 (by decide) hlink rfl hdg kk
theorem get_X2_4 (S : CallFix p m c cc nL s args TsG own) (hG : gx_K Γ s) (hW : gx_W Γ C M H) {index : Nat} (hlink : Cond.fieldLink own index "Monobuild$Graph" "count" "I" ∈ TsG) (hdg : decode cc pc = .ok (.getfield index, 3))
    (kk : W p l e R s m args below meth c H locs cells slots Q (F0 m (pc + 3) ls (.int (C 55 4) :: rest))) : W p l e R s m args below meth c H locs cells slots Q (F0 m pc ls (.ref (Γ.1 55) :: rest)) :=
  gg_get (CC := RX2) (T := TX2) (N := 5) (k := 55) (v := .int (C 55 4)) S hG hW (by decide +kernel) rfl rfl iw_X2 4 (by decide) hlink rfl hdg kk
theorem put_X2_4 (S : CallFix p m c cc nL s args TsG own) (hG : gx_K Γ s) (hW : gx_W Γ C M H) (hS : va_S (gA Γ) s.heap H locs) {x : Int32} {index : Nat} (hlink : Cond.fieldLink own index "Monobuild$Graph" "count" "I" ∈ TsG) (hdg : decode cc pc = .ok (.putfield index, 3))
    (kk : ∀ (H1 : Heap) (locs1 : List Loc), gx_W Γ (mset C 55 4 x) M H1 → va_S (gA Γ) s.heap H1 locs1 → W p l e R s m args below meth c H1 locs1 cells slots Q (F0 m (pc + 3) ls rest)) : W p l e R s m args below meth c H locs cells slots Q (F0 m pc ls (.int x :: .ref (Γ.1 55) :: rest)) :=
  gg_putC (CC := RX2) (T := TX2) (N := 5) (k := 55) S hG hW hS (by decide +kernel) rfl rfl iw_X2 tyX2 tyX2_ok nmX2 4 (by decide) hlink rfl (by decide +kernel) (Nat.le_of_ble_eq_true rfl) rfl hdg kk
theorem get_X3_0 (S : CallFix p m c cc nL s args TsG own) (hG : gx_K Γ s) (hW : gx_W Γ C M H) {index : Nat} (hlink : Cond.fieldLink own index "Monobuild$KeyBook" "tree" "LMonobuild$FileTable;" ∈ TsG) (hdg : decode cc pc = .ok (.getfield index, 3))
    (kk : W p l e R s m args below meth c H locs cells slots Q (F0 m (pc + 3) ls (.ref (Γ.1 3) :: rest))) : W p l e R s m args below meth c H locs cells slots Q (F0 m pc ls (.ref (Γ.1 236) :: rest)) :=
  gg_get (CC := RX3) (T := TX3) (N := 8) (k := 236) (v := .ref (Γ.1 3)) S hG hW (by decide +kernel) rfl rfl iw_X3 0 (by decide) hlink rfl hdg kk
theorem get_X3_1 (S : CallFix p m c cc nL s args TsG own) (hG : gx_K Γ s) (hW : gx_W Γ C M H) {index : Nat} (hlink : Cond.fieldLink own index "Monobuild$KeyBook" "graph" "LMonobuild$Graph;" ∈ TsG) (hdg : decode cc pc = .ok (.getfield index, 3))
    (kk : W p l e R s m args below meth c H locs cells slots Q (F0 m (pc + 3) ls (.ref (Γ.1 55) :: rest))) : W p l e R s m args below meth c H locs cells slots Q (F0 m pc ls (.ref (Γ.1 236) :: rest)) :=
  gg_get (CC := RX3) (T := TX3) (N := 8) (k := 236) (v := .ref (Γ.1 55)) S hG hW (by decide +kernel) rfl rfl iw_X3 1 (by decide) hlink rfl hdg kk
theorem get_X3_2 (S : CallFix p m c cc nL s args TsG own) (hG : gx_K Γ s) (hW : gx_W Γ C M H) {index : Nat} (hlink : Cond.fieldLink own index "Monobuild$KeyBook" "rows" "[[I" ∈ TsG) (hdg : decode cc pc = .ok (.getfield index, 3))
    (kk : W p l e R s m args below meth c H locs cells slots Q (F0 m (pc + 3) ls (.ref (Γ.1 237) :: rest))) : W p l e R s m args below meth c H locs cells slots Q (F0 m pc ls (.ref (Γ.1 236) :: rest)) :=
  gg_get (CC := RX3) (T := TX3) (N := 8) (k := 236) (v := .ref (Γ.1 237)) S hG hW (by decide +kernel) rfl rfl iw_X3 2 (by decide) hlink rfl hdg kk
theorem get_X3_3 (S : CallFix p m c cc nL s args TsG own) (hG : gx_K Γ s) (hW : gx_W Γ C M H) {index : Nat} (hlink : Cond.fieldLink own index "Monobuild$KeyBook" "holders" "[I" ∈ TsG) (hdg : decode cc pc = .ok (.getfield index, 3))
    (kk : W p l e R s m args below meth c H locs cells slots Q (F0 m (pc + 3) ls (.ref (Γ.1 238) :: rest))) : W p l e R s m args below meth c H locs cells slots Q (F0 m pc ls (.ref (Γ.1 236) :: rest)) :=
  gg_get (CC := RX3) (T := TX3) (N := 8) (k := 236) (v := .ref (Γ.1 238)) S hG hW (by decide +kernel) rfl rfl iw_X3 3 (by decide) hlink rfl hdg kk
theorem get_X3_4 (S : CallFix p m c cc nL s args TsG own) (hG : gx_K Γ s) (hW : gx_W Γ C M H) {index : Nat} (hlink : Cond.fieldLink own index "Monobuild$KeyBook" "present" "[I" ∈ TsG) (hdg : decode cc pc = .ok (.getfield index, 3))
    (kk : W p l e R s m args below meth c H locs cells slots Q (F0 m (pc + 3) ls (.ref (Γ.1 239) :: rest))) : W p l e R s m args below meth c H locs cells slots Q (F0 m pc ls (.ref (Γ.1 236) :: rest)) :=
  gg_get (CC := RX3) (T := TX3) (N := 8) (k := 236) (v := .ref (Γ.1 239)) S hG hW (by decide +kernel) rfl rfl iw_X3 4 (by decide) hlink rfl hdg kk
theorem get_X3_5 (S : CallFix p m c cc nL s args TsG own) (hG : gx_K Γ s) (hW : gx_W Γ C M H) {index : Nat} (hlink : Cond.fieldLink own index "Monobuild$KeyBook" "latest" "[I" ∈ TsG) (hdg : decode cc pc = .ok (.getfield index, 3))
    (kk : W p l e R s m args below meth c H locs cells slots Q (F0 m (pc + 3) ls (.ref (Γ.1 240) :: rest))) : W p l e R s m args below meth c H locs cells slots Q (F0 m pc ls (.ref (Γ.1 236) :: rest)) :=
  gg_get (CC := RX3) (T := TX3) (N := 8) (k := 236) (v := .ref (Γ.1 240)) S hG hW (by decide +kernel) rfl rfl iw_X3 5 (by decide) hlink rfl hdg kk
theorem get_X3_6 (S : CallFix p m c cc nL s args TsG own) (hG : gx_K Γ s) (hW : gx_W Γ C M H) {index : Nat} (hlink : Cond.fieldLink own index "Monobuild$KeyBook" "row" "[I" ∈ TsG) (hdg : decode cc pc = .ok (.getfield index, 3))
    (kk : W p l e R s m args below meth c H locs cells slots Q (F0 m (pc + 3) ls (.ref (Γ.1 241) :: rest))) : W p l e R s m args below meth c H locs cells slots Q (F0 m pc ls (.ref (Γ.1 236) :: rest)) :=
  gg_get (CC := RX3) (T := TX3) (N := 8) (k := 236) (v := .ref (Γ.1 241)) S hG hW (by decide +kernel) rfl rfl iw_X3 6 (by decide) hlink rfl hdg kk
theorem get_X3_7 (S : CallFix p m c cc nL s args TsG own) (hG : gx_K Γ s) (hW : gx_W Γ C M H) {index : Nat} (hlink : Cond.fieldLink own index "Monobuild$KeyBook" "count" "I" ∈ TsG) (hdg : decode cc pc = .ok (.getfield index, 3))
    (kk : W p l e R s m args below meth c H locs cells slots Q (F0 m (pc + 3) ls (.int (C 236 7) :: rest))) : W p l e R s m args below meth c H locs cells slots Q (F0 m pc ls (.ref (Γ.1 236) :: rest)) :=
  gg_get (CC := RX3) (T := TX3) (N := 8) (k := 236) (v := .int (C 236 7)) S hG hW (by decide +kernel) rfl rfl iw_X3 7 (by decide) hlink rfl hdg kk
theorem put_X3_7 (S : CallFix p m c cc nL s args TsG own) (hG : gx_K Γ s) (hW : gx_W Γ C M H) (hS : va_S (gA Γ) s.heap H locs) {x : Int32} {index : Nat} (hlink : Cond.fieldLink own index "Monobuild$KeyBook" "count" "I" ∈ TsG) (hdg : decode cc pc = .ok (.putfield index, 3))
    (kk : ∀ (H1 : Heap) (locs1 : List Loc), gx_W Γ (mset C 236 7 x) M H1 → va_S (gA Γ) s.heap H1 locs1 → W p l e R s m args below meth c H1 locs1 cells slots Q (F0 m (pc + 3) ls rest)) : W p l e R s m args below meth c H locs cells slots Q (F0 m pc ls (.int x :: .ref (Γ.1 236) :: rest)) :=
  gg_putC (CC := RX3) (T := TX3) (N := 8) (k := 236) S hG hW hS (by decide +kernel) rfl rfl iw_X3 tyX3 tyX3_ok nmX3 7 (by decide) hlink rfl (by decide +kernel) (Nat.le_of_ble_eq_true rfl) rfl hdg kk
theorem get_X4_0 (S : CallFix p m c cc nL s args TsG own) (hG : gx_K Γ s) (hW : gx_W Γ C M H) {index : Nat} (hlink : Cond.fieldLink own index "Monobuild$RuleBook" "globs" "LMonobuild$Globs;" ∈ TsG) (hdg : decode cc pc = .ok (.getfield index, 3))
    (kk : W p l e R s m args below meth c H locs cells slots Q (F0 m (pc + 3) ls (.ref (Γ.1 448) :: rest))) : W p l e R s m args below meth c H locs cells slots Q (F0 m pc ls (.ref (Γ.1 446) :: rest)) :=
  gg_get (CC := RX4) (T := TX4) (N := 2) (k := 446) (v := .ref (Γ.1 448)) S hG hW (by decide +kernel) rfl rfl iw_X4 0 (by decide) hlink rfl hdg kk
theorem get_X4_1 (S : CallFix p m c cc nL s args TsG own) (hG : gx_K Γ s) (hW : gx_W Γ C M H) {index : Nat} (hlink : Cond.fieldLink own index "Monobuild$RuleBook" "owners" "[I" ∈ TsG) (hdg : decode cc pc = .ok (.getfield index, 3))
    (kk : W p l e R s m args below meth c H locs cells slots Q (F0 m (pc + 3) ls (.ref (Γ.1 447) :: rest))) : W p l e R s m args below meth c H locs cells slots Q (F0 m pc ls (.ref (Γ.1 446) :: rest)) :=
  gg_get (CC := RX4) (T := TX4) (N := 2) (k := 446) (v := .ref (Γ.1 447)) S hG hW (by decide +kernel) rfl rfl iw_X4 1 (by decide) hlink rfl hdg kk
theorem get_X5_0 (S : CallFix p m c cc nL s args TsG own) (hG : gx_K Γ s) (hW : gx_W Γ C M H) {index : Nat} (hlink : Cond.fieldLink own index "Monobuild$Spread" "loads" "[I" ∈ TsG) (hdg : decode cc pc = .ok (.getfield index, 3))
    (kk : W p l e R s m args below meth c H locs cells slots Q (F0 m (pc + 3) ls (.ref (Γ.1 444) :: rest))) : W p l e R s m args below meth c H locs cells slots Q (F0 m pc ls (.ref (Γ.1 443) :: rest)) :=
  gg_get (CC := RX5) (T := TX5) (N := 2) (k := 443) (v := .ref (Γ.1 444)) S hG hW (by decide +kernel) rfl rfl iw_X5 0 (by decide) hlink rfl hdg kk
theorem get_X5_1 (S : CallFix p m c cc nL s args TsG own) (hG : gx_K Γ s) (hW : gx_W Γ C M H) {index : Nat} (hlink : Cond.fieldLink own index "Monobuild$Spread" "places" "[I" ∈ TsG) (hdg : decode cc pc = .ok (.getfield index, 3))
    (kk : W p l e R s m args below meth c H locs cells slots Q (F0 m (pc + 3) ls (.ref (Γ.1 445) :: rest))) : W p l e R s m args below meth c H locs cells slots Q (F0 m pc ls (.ref (Γ.1 443) :: rest)) :=
  gg_get (CC := RX5) (T := TX5) (N := 2) (k := 443) (v := .ref (Γ.1 445)) S hG hW (by decide +kernel) rfl rfl iw_X5 1 (by decide) hlink rfl hdg kk
theorem get_X6_0 (S : CallFix p m c cc nL s args TsG own) (hG : gx_K Γ s) (hW : gx_W Γ C M H) {k : Nat} (hk : shp k = 1) {index : Nat} (hlink : Cond.fieldLink own index "Monobuild$Text" "signs" "[C" ∈ TsG) (hdg : decode cc pc = .ok (.getfield index, 3))
    (kk : W p l e R s m args below meth c H locs cells slots Q (F0 m (pc + 3) ls (.ref (Γ.1 (k + 1)) :: rest))) : W p l e R s m args below meth c H locs cells slots Q (F0 m pc ls (.ref (Γ.1 k) :: rest)) :=
  gg_get (CC := RX6) (T := TX6) (N := 2) (k := k) (v := .ref (Γ.1 (k + 1))) S hG hW (sh_lt1 hk) (cc_1 hk _ _) rfl iw_X6 0 (by decide) hlink rfl hdg kk
theorem get_X6_1 (S : CallFix p m c cc nL s args TsG own) (hG : gx_K Γ s) (hW : gx_W Γ C M H) {k : Nat} (hk : shp k = 1) {index : Nat} (hlink : Cond.fieldLink own index "Monobuild$Text" "length" "I" ∈ TsG) (hdg : decode cc pc = .ok (.getfield index, 3))
    (kk : W p l e R s m args below meth c H locs cells slots Q (F0 m (pc + 3) ls (.int (C k 1) :: rest))) : W p l e R s m args below meth c H locs cells slots Q (F0 m pc ls (.ref (Γ.1 k) :: rest)) :=
  gg_get (CC := RX6) (T := TX6) (N := 2) (k := k) (v := .int (C k 1)) S hG hW (sh_lt1 hk) (cc_1 hk _ _) rfl iw_X6 1 (by decide) hlink rfl hdg kk
theorem put_X6_1 (S : CallFix p m c cc nL s args TsG own) (hG : gx_K Γ s) (hW : gx_W Γ C M H) (hS : va_S (gA Γ) s.heap H locs) {k : Nat} (hk : shp k = 1) {x : Int32} {index : Nat} (hlink : Cond.fieldLink own index "Monobuild$Text" "length" "I" ∈ TsG) (hdg : decode cc pc = .ok (.putfield index, 3))
    (kk : ∀ (H1 : Heap) (locs1 : List Loc), gx_W Γ (mset C k 1 x) M H1 → va_S (gA Γ) s.heap H1 locs1 → W p l e R s m args below meth c H1 locs1 cells slots Q (F0 m (pc + 3) ls rest)) : W p l e R s m args below meth c H locs cells slots Q (F0 m pc ls (.int x :: .ref (Γ.1 k) :: rest)) :=
  gg_putC (CC := RX6) (T := TX6) (N := 2) (k := k) S hG hW hS (sh_lt1 hk) (cc_1 hk _ _) rfl iw_X6 tyX6 tyX6_ok nmX6 1 (by decide) hlink rfl (by decide +kernel) (Nat.le_of_ble_eq_true rfl) (cc_1 hk _ _) hdg kk
theorem get_X7_0 (S : CallFix p m c cc nL s args TsG own) (hG : gx_K Γ s) (hW : gx_W Γ C M H) {index : Nat} (hlink : Cond.fieldLink own index "Monobuild" "text" "LMonobuild$Text;" ∈ TsG) (hdg : decode cc pc = .ok (.getfield index, 3))
    (kk : W p l e R s m args below meth c H locs cells slots Q (F0 m (pc + 3) ls (.ref (Γ.1 1) :: rest))) : W p l e R s m args below meth c H locs cells slots Q (F0 m pc ls (.ref (Γ.1 0) :: rest)) :=
  gg_get (CC := RX7) (T := TX7) (N := 6) (k := 0) (v := .ref (Γ.1 1)) S hG hW (by decide +kernel) rfl rfl iw_X7 0 (by decide) hlink rfl hdg kk
theorem get_X7_1 (S : CallFix p m c cc nL s args TsG own) (hG : gx_K Γ s) (hW : gx_W Γ C M H) {index : Nat} (hlink : Cond.fieldLink own index "Monobuild" "tree" "LMonobuild$FileTable;" ∈ TsG) (hdg : decode cc pc = .ok (.getfield index, 3))
    (kk : W p l e R s m args below meth c H locs cells slots Q (F0 m (pc + 3) ls (.ref (Γ.1 3) :: rest))) : W p l e R s m args below meth c H locs cells slots Q (F0 m pc ls (.ref (Γ.1 0) :: rest)) :=
  gg_get (CC := RX7) (T := TX7) (N := 6) (k := 0) (v := .ref (Γ.1 3)) S hG hW (by decide +kernel) rfl rfl iw_X7 1 (by decide) hlink rfl hdg kk
theorem get_X7_2 (S : CallFix p m c cc nL s args TsG own) (hG : gx_K Γ s) (hW : gx_W Γ C M H) {index : Nat} (hlink : Cond.fieldLink own index "Monobuild" "graph" "LMonobuild$Graph;" ∈ TsG) (hdg : decode cc pc = .ok (.getfield index, 3))
    (kk : W p l e R s m args below meth c H locs cells slots Q (F0 m (pc + 3) ls (.ref (Γ.1 55) :: rest))) : W p l e R s m args below meth c H locs cells slots Q (F0 m pc ls (.ref (Γ.1 0) :: rest)) :=
  gg_get (CC := RX7) (T := TX7) (N := 6) (k := 0) (v := .ref (Γ.1 55)) S hG hW (by decide +kernel) rfl rfl iw_X7 2 (by decide) hlink rfl hdg kk
theorem get_X7_3 (S : CallFix p m c cc nL s args TsG own) (hG : gx_K Γ s) (hW : gx_W Γ C M H) {index : Nat} (hlink : Cond.fieldLink own index "Monobuild" "book" "LMonobuild$KeyBook;" ∈ TsG) (hdg : decode cc pc = .ok (.getfield index, 3))
    (kk : W p l e R s m args below meth c H locs cells slots Q (F0 m (pc + 3) ls (.ref (Γ.1 236) :: rest))) : W p l e R s m args below meth c H locs cells slots Q (F0 m pc ls (.ref (Γ.1 0) :: rest)) :=
  gg_get (CC := RX7) (T := TX7) (N := 6) (k := 0) (v := .ref (Γ.1 236)) S hG hW (by decide +kernel) rfl rfl iw_X7 3 (by decide) hlink rfl hdg kk
theorem get_X7_4 (S : CallFix p m c cc nL s args TsG own) (hG : gx_K Γ s) (hW : gx_W Γ C M H) {index : Nat} (hlink : Cond.fieldLink own index "Monobuild" "spread" "LMonobuild$Spread;" ∈ TsG) (hdg : decode cc pc = .ok (.getfield index, 3))
    (kk : W p l e R s m args below meth c H locs cells slots Q (F0 m (pc + 3) ls (.ref (Γ.1 443) :: rest))) : W p l e R s m args below meth c H locs cells slots Q (F0 m pc ls (.ref (Γ.1 0) :: rest)) :=
  gg_get (CC := RX7) (T := TX7) (N := 6) (k := 0) (v := .ref (Γ.1 443)) S hG hW (by decide +kernel) rfl rfl iw_X7 4 (by decide) hlink rfl hdg kk
theorem get_X7_5 (S : CallFix p m c cc nL s args TsG own) (hG : gx_K Γ s) (hW : gx_W Γ C M H) {index : Nat} (hlink : Cond.fieldLink own index "Monobuild" "rules" "LMonobuild$RuleBook;" ∈ TsG) (hdg : decode cc pc = .ok (.getfield index, 3))
    (kk : W p l e R s m args below meth c H locs cells slots Q (F0 m (pc + 3) ls (.ref (Γ.1 446) :: rest))) : W p l e R s m args below meth c H locs cells slots Q (F0 m pc ls (.ref (Γ.1 0) :: rest)) :=
  gg_get (CC := RX7) (T := TX7) (N := 6) (k := 0) (v := .ref (Γ.1 446)) S hG hW (by decide +kernel) rfl rfl iw_X7 5 (by decide) hlink rfl hdg kk
theorem get_X8_0 (S : CallFix p m c cc nL s args TsG own) (hG : gx_K Γ s) (hW : gx_W Γ C M H) {index : Nat} (hlink : Cond.fieldLink own index "MonobuildModel" "glob" "[I" ∈ TsG) (hdg : decode cc pc = .ok (.getfield index, 3))
    (kk : W p l e R s m args below meth c H locs cells slots Q (F0 m (pc + 3) ls (.ref (Γ.1 476) :: rest))) : W p l e R s m args below meth c H locs cells slots Q (F0 m pc ls (.ref (Γ.1 475) :: rest)) :=
  gg_get (CC := RX8) (T := TX8) (N := 27) (k := 475) (v := .ref (Γ.1 476)) S hG hW (by decide +kernel) rfl rfl iw_X8 0 (by decide) hlink rfl hdg kk
theorem get_X8_1 (S : CallFix p m c cc nL s args TsG own) (hG : gx_K Γ s) (hW : gx_W Γ C M H) {index : Nat} (hlink : Cond.fieldLink own index "MonobuildModel" "length" "[I" ∈ TsG) (hdg : decode cc pc = .ok (.getfield index, 3))
    (kk : W p l e R s m args below meth c H locs cells slots Q (F0 m (pc + 3) ls (.ref (Γ.1 477) :: rest))) : W p l e R s m args below meth c H locs cells slots Q (F0 m pc ls (.ref (Γ.1 475) :: rest)) :=
  gg_get (CC := RX8) (T := TX8) (N := 27) (k := 475) (v := .ref (Γ.1 477)) S hG hW (by decide +kernel) rfl rfl iw_X8 1 (by decide) hlink rfl hdg kk
theorem get_X8_2 (S : CallFix p m c cc nL s args TsG own) (hG : gx_K Γ s) (hW : gx_W Γ C M H) {index : Nat} (hlink : Cond.fieldLink own index "MonobuildModel" "files" "I" ∈ TsG) (hdg : decode cc pc = .ok (.getfield index, 3))
    (kk : W p l e R s m args below meth c H locs cells slots Q (F0 m (pc + 3) ls (.int (M 475 2) :: rest))) : W p l e R s m args below meth c H locs cells slots Q (F0 m pc ls (.ref (Γ.1 475) :: rest)) :=
  gg_get (CC := RX8) (T := TX8) (N := 27) (k := 475) (v := .int (M 475 2)) S hG hW (by decide +kernel) rfl rfl iw_X8 2 (by decide) hlink rfl hdg kk
theorem put_X8_2 (S : CallFix p m c cc nL s args TsG own) (hG : gx_K Γ s) (hW : gx_W Γ C M H) (hS : va_S (gA Γ) s.heap H locs) {x : Int32} {index : Nat} (hlink : Cond.fieldLink own index "MonobuildModel" "files" "I" ∈ TsG) (hdg : decode cc pc = .ok (.putfield index, 3))
    (kk : ∀ (H1 : Heap) (locs1 : List Loc), gx_W Γ C (mset M 475 2 x) H1 → va_S (gA Γ) s.heap H1 locs1 → W p l e R s m args below meth c H1 locs1 cells slots Q (F0 m (pc + 3) ls rest)) : W p l e R s m args below meth c H locs cells slots Q (F0 m pc ls (.int x :: .ref (Γ.1 475) :: rest)) :=
  gg_putM (CC := RX8) (T := TX8) (N := 27) (k := 475) S hG hW hS (by decide +kernel) rfl rfl iw_X8 tyX8 tyX8_ok nmX8 2 (by decide) hlink rfl (by decide +kernel) (Nat.le_of_ble_eq_true rfl) rfl hdg kk
theorem get_X8_3 (S : CallFix p m c cc nL s args TsG own) (hG : gx_K Γ s) (hW : gx_W Γ C M H) {index : Nat} (hlink : Cond.fieldLink own index "MonobuildModel" "path" "[I" ∈ TsG) (hdg : decode cc pc = .ok (.getfield index, 3))
    (kk : W p l e R s m args below meth c H locs cells slots Q (F0 m (pc + 3) ls (.ref (Γ.1 478) :: rest))) : W p l e R s m args below meth c H locs cells slots Q (F0 m pc ls (.ref (Γ.1 475) :: rest)) :=
  gg_get (CC := RX8) (T := TX8) (N := 27) (k := 475) (v := .ref (Γ.1 478)) S hG hW (by decide +kernel) rfl rfl iw_X8 3 (by decide) hlink rfl hdg kk
theorem get_X8_4 (S : CallFix p m c cc nL s args TsG own) (hG : gx_K Γ s) (hW : gx_W Γ C M H) {index : Nat} (hlink : Cond.fieldLink own index "MonobuildModel" "far" "[I" ∈ TsG) (hdg : decode cc pc = .ok (.getfield index, 3))
    (kk : W p l e R s m args below meth c H locs cells slots Q (F0 m (pc + 3) ls (.ref (Γ.1 479) :: rest))) : W p l e R s m args below meth c H locs cells slots Q (F0 m pc ls (.ref (Γ.1 475) :: rest)) :=
  gg_get (CC := RX8) (T := TX8) (N := 27) (k := 475) (v := .ref (Γ.1 479)) S hG hW (by decide +kernel) rfl rfl iw_X8 4 (by decide) hlink rfl hdg kk
theorem get_X8_5 (S : CallFix p m c cc nL s args TsG own) (hG : gx_K Γ s) (hW : gx_W Γ C M H) {index : Nat} (hlink : Cond.fieldLink own index "MonobuildModel" "there" "[Z" ∈ TsG) (hdg : decode cc pc = .ok (.getfield index, 3))
    (kk : W p l e R s m args below meth c H locs cells slots Q (F0 m (pc + 3) ls (.ref (Γ.1 480) :: rest))) : W p l e R s m args below meth c H locs cells slots Q (F0 m pc ls (.ref (Γ.1 475) :: rest)) :=
  gg_get (CC := RX8) (T := TX8) (N := 27) (k := 475) (v := .ref (Γ.1 480)) S hG hW (by decide +kernel) rfl rfl iw_X8 5 (by decide) hlink rfl hdg kk
theorem get_X8_6 (S : CallFix p m c cc nL s args TsG own) (hG : gx_K Γ s) (hW : gx_W Γ C M H) {index : Nat} (hlink : Cond.fieldLink own index "MonobuildModel" "content" "[I" ∈ TsG) (hdg : decode cc pc = .ok (.getfield index, 3))
    (kk : W p l e R s m args below meth c H locs cells slots Q (F0 m (pc + 3) ls (.ref (Γ.1 481) :: rest))) : W p l e R s m args below meth c H locs cells slots Q (F0 m pc ls (.ref (Γ.1 475) :: rest)) :=
  gg_get (CC := RX8) (T := TX8) (N := 27) (k := 475) (v := .ref (Γ.1 481)) S hG hW (by decide +kernel) rfl rfl iw_X8 6 (by decide) hlink rfl hdg kk
theorem get_X8_7 (S : CallFix p m c cc nL s args TsG own) (hG : gx_K Γ s) (hW : gx_W Γ C M H) {index : Nat} (hlink : Cond.fieldLink own index "MonobuildModel" "marked" "[Z" ∈ TsG) (hdg : decode cc pc = .ok (.getfield index, 3))
    (kk : W p l e R s m args below meth c H locs cells slots Q (F0 m (pc + 3) ls (.ref (Γ.1 482) :: rest))) : W p l e R s m args below meth c H locs cells slots Q (F0 m pc ls (.ref (Γ.1 475) :: rest)) :=
  gg_get (CC := RX8) (T := TX8) (N := 27) (k := 475) (v := .ref (Γ.1 482)) S hG hW (by decide +kernel) rfl rfl iw_X8 7 (by decide) hlink rfl hdg kk
theorem get_X8_8 (S : CallFix p m c cc nL s args TsG own) (hG : gx_K Γ s) (hW : gx_W Γ C M H) {index : Nat} (hlink : Cond.fieldLink own index "MonobuildModel" "markedContent" "[I" ∈ TsG) (hdg : decode cc pc = .ok (.getfield index, 3))
    (kk : W p l e R s m args below meth c H locs cells slots Q (F0 m (pc + 3) ls (.ref (Γ.1 483) :: rest))) : W p l e R s m args below meth c H locs cells slots Q (F0 m pc ls (.ref (Γ.1 475) :: rest)) :=
  gg_get (CC := RX8) (T := TX8) (N := 27) (k := 475) (v := .ref (Γ.1 483)) S hG hW (by decide +kernel) rfl rfl iw_X8 8 (by decide) hlink rfl hdg kk
theorem get_X8_9 (S : CallFix p m c cc nL s args TsG own) (hG : gx_K Γ s) (hW : gx_W Γ C M H) {index : Nat} (hlink : Cond.fieldLink own index "MonobuildModel" "targets" "I" ∈ TsG) (hdg : decode cc pc = .ok (.getfield index, 3))
    (kk : W p l e R s m args below meth c H locs cells slots Q (F0 m (pc + 3) ls (.int (M 475 9) :: rest))) : W p l e R s m args below meth c H locs cells slots Q (F0 m pc ls (.ref (Γ.1 475) :: rest)) :=
  gg_get (CC := RX8) (T := TX8) (N := 27) (k := 475) (v := .int (M 475 9)) S hG hW (by decide +kernel) rfl rfl iw_X8 9 (by decide) hlink rfl hdg kk
theorem put_X8_9 (S : CallFix p m c cc nL s args TsG own) (hG : gx_K Γ s) (hW : gx_W Γ C M H) (hS : va_S (gA Γ) s.heap H locs) {x : Int32} {index : Nat} (hlink : Cond.fieldLink own index "MonobuildModel" "targets" "I" ∈ TsG) (hdg : decode cc pc = .ok (.putfield index, 3))
    (kk : ∀ (H1 : Heap) (locs1 : List Loc), gx_W Γ C (mset M 475 9 x) H1 → va_S (gA Γ) s.heap H1 locs1 → W p l e R s m args below meth c H1 locs1 cells slots Q (F0 m (pc + 3) ls rest)) : W p l e R s m args below meth c H locs cells slots Q (F0 m pc ls (.int x :: .ref (Γ.1 475) :: rest)) :=
  gg_putM (CC := RX8) (T := TX8) (N := 27) (k := 475) S hG hW hS (by decide +kernel) rfl rfl iw_X8 tyX8 tyX8_ok nmX8 9 (by decide) hlink rfl (by decide +kernel) (Nat.le_of_ble_eq_true rfl) rfl hdg kk
theorem get_X8_10 (S : CallFix p m c cc nL s args TsG own) (hG : gx_K Γ s) (hW : gx_W Γ C M H) {index : Nat} (hlink : Cond.fieldLink own index "MonobuildModel" "cost" "[I" ∈ TsG) (hdg : decode cc pc = .ok (.getfield index, 3))
    (kk : W p l e R s m args below meth c H locs cells slots Q (F0 m (pc + 3) ls (.ref (Γ.1 484) :: rest))) : W p l e R s m args below meth c H locs cells slots Q (F0 m pc ls (.ref (Γ.1 475) :: rest)) :=
  gg_get (CC := RX8) (T := TX8) (N := 27) (k := 475) (v := .ref (Γ.1 484)) S hG hW (by decide +kernel) rfl rfl iw_X8 10 (by decide) hlink rfl hdg kk
theorem get_X8_11 (S : CallFix p m c cc nL s args TsG own) (hG : gx_K Γ s) (hW : gx_W Γ C M H) {index : Nat} (hlink : Cond.fieldLink own index "MonobuildModel" "globs" "[I" ∈ TsG) (hdg : decode cc pc = .ok (.getfield index, 3))
    (kk : W p l e R s m args below meth c H locs cells slots Q (F0 m (pc + 3) ls (.ref (Γ.1 485) :: rest))) : W p l e R s m args below meth c H locs cells slots Q (F0 m pc ls (.ref (Γ.1 475) :: rest)) :=
  gg_get (CC := RX8) (T := TX8) (N := 27) (k := 475) (v := .ref (Γ.1 485)) S hG hW (by decide +kernel) rfl rfl iw_X8 11 (by decide) hlink rfl hdg kk
theorem get_X8_12 (S : CallFix p m c cc nL s args TsG own) (hG : gx_K Γ s) (hW : gx_W Γ C M H) {index : Nat} (hlink : Cond.fieldLink own index "MonobuildModel" "needs" "[I" ∈ TsG) (hdg : decode cc pc = .ok (.getfield index, 3))
    (kk : W p l e R s m args below meth c H locs cells slots Q (F0 m (pc + 3) ls (.ref (Γ.1 486) :: rest))) : W p l e R s m args below meth c H locs cells slots Q (F0 m pc ls (.ref (Γ.1 475) :: rest)) :=
  gg_get (CC := RX8) (T := TX8) (N := 27) (k := 475) (v := .ref (Γ.1 486)) S hG hW (by decide +kernel) rfl rfl iw_X8 12 (by decide) hlink rfl hdg kk
theorem get_X8_13 (S : CallFix p m c cc nL s args TsG own) (hG : gx_K Γ s) (hW : gx_W Γ C M H) {index : Nat} (hlink : Cond.fieldLink own index "MonobuildModel" "last" "[I" ∈ TsG) (hdg : decode cc pc = .ok (.getfield index, 3))
    (kk : W p l e R s m args below meth c H locs cells slots Q (F0 m (pc + 3) ls (.ref (Γ.1 487) :: rest))) : W p l e R s m args below meth c H locs cells slots Q (F0 m pc ls (.ref (Γ.1 475) :: rest)) :=
  gg_get (CC := RX8) (T := TX8) (N := 27) (k := 475) (v := .ref (Γ.1 487)) S hG hW (by decide +kernel) rfl rfl iw_X8 13 (by decide) hlink rfl hdg kk
theorem get_X8_14 (S : CallFix p m c cc nL s args TsG own) (hG : gx_K Γ s) (hW : gx_W Γ C M H) {index : Nat} (hlink : Cond.fieldLink own index "MonobuildModel" "rules" "I" ∈ TsG) (hdg : decode cc pc = .ok (.getfield index, 3))
    (kk : W p l e R s m args below meth c H locs cells slots Q (F0 m (pc + 3) ls (.int (M 475 14) :: rest))) : W p l e R s m args below meth c H locs cells slots Q (F0 m pc ls (.ref (Γ.1 475) :: rest)) :=
  gg_get (CC := RX8) (T := TX8) (N := 27) (k := 475) (v := .int (M 475 14)) S hG hW (by decide +kernel) rfl rfl iw_X8 14 (by decide) hlink rfl hdg kk
theorem put_X8_14 (S : CallFix p m c cc nL s args TsG own) (hG : gx_K Γ s) (hW : gx_W Γ C M H) (hS : va_S (gA Γ) s.heap H locs) {x : Int32} {index : Nat} (hlink : Cond.fieldLink own index "MonobuildModel" "rules" "I" ∈ TsG) (hdg : decode cc pc = .ok (.putfield index, 3))
    (kk : ∀ (H1 : Heap) (locs1 : List Loc), gx_W Γ C (mset M 475 14 x) H1 → va_S (gA Γ) s.heap H1 locs1 → W p l e R s m args below meth c H1 locs1 cells slots Q (F0 m (pc + 3) ls rest)) : W p l e R s m args below meth c H locs cells slots Q (F0 m pc ls (.int x :: .ref (Γ.1 475) :: rest)) :=
  gg_putM (CC := RX8) (T := TX8) (N := 27) (k := 475) S hG hW hS (by decide +kernel) rfl rfl iw_X8 tyX8 tyX8_ok nmX8 14 (by decide) hlink rfl (by decide +kernel) (Nat.le_of_ble_eq_true rfl) rfl hdg kk
theorem get_X8_15 (S : CallFix p m c cc nL s args TsG own) (hG : gx_K Γ s) (hW : gx_W Γ C M H) {index : Nat} (hlink : Cond.fieldLink own index "MonobuildModel" "owner" "[I" ∈ TsG) (hdg : decode cc pc = .ok (.getfield index, 3))
    (kk : W p l e R s m args below meth c H locs cells slots Q (F0 m (pc + 3) ls (.ref (Γ.1 488) :: rest))) : W p l e R s m args below meth c H locs cells slots Q (F0 m pc ls (.ref (Γ.1 475) :: rest)) :=
  gg_get (CC := RX8) (T := TX8) (N := 27) (k := 475) (v := .ref (Γ.1 488)) S hG hW (by decide +kernel) rfl rfl iw_X8 15 (by decide) hlink rfl hdg kk
theorem get_X8_16 (S : CallFix p m c cc nL s args TsG own) (hG : gx_K Γ s) (hW : gx_W Γ C M H) {index : Nat} (hlink : Cond.fieldLink own index "MonobuildModel" "keys" "I" ∈ TsG) (hdg : decode cc pc = .ok (.getfield index, 3))
    (kk : W p l e R s m args below meth c H locs cells slots Q (F0 m (pc + 3) ls (.int (M 475 16) :: rest))) : W p l e R s m args below meth c H locs cells slots Q (F0 m pc ls (.ref (Γ.1 475) :: rest)) :=
  gg_get (CC := RX8) (T := TX8) (N := 27) (k := 475) (v := .int (M 475 16)) S hG hW (by decide +kernel) rfl rfl iw_X8 16 (by decide) hlink rfl hdg kk
theorem put_X8_16 (S : CallFix p m c cc nL s args TsG own) (hG : gx_K Γ s) (hW : gx_W Γ C M H) (hS : va_S (gA Γ) s.heap H locs) {x : Int32} {index : Nat} (hlink : Cond.fieldLink own index "MonobuildModel" "keys" "I" ∈ TsG) (hdg : decode cc pc = .ok (.putfield index, 3))
    (kk : ∀ (H1 : Heap) (locs1 : List Loc), gx_W Γ C (mset M 475 16 x) H1 → va_S (gA Γ) s.heap H1 locs1 → W p l e R s m args below meth c H1 locs1 cells slots Q (F0 m (pc + 3) ls rest)) : W p l e R s m args below meth c H locs cells slots Q (F0 m pc ls (.int x :: .ref (Γ.1 475) :: rest)) :=
  gg_putM (CC := RX8) (T := TX8) (N := 27) (k := 475) S hG hW hS (by decide +kernel) rfl rfl iw_X8 tyX8 tyX8_ok nmX8 16 (by decide) hlink rfl (by decide +kernel) (Nat.le_of_ble_eq_true rfl) rfl hdg kk
theorem get_X8_17 (S : CallFix p m c cc nL s args TsG own) (hG : gx_K Γ s) (hW : gx_W Γ C M H) {index : Nat} (hlink : Cond.fieldLink own index "MonobuildModel" "whose" "[I" ∈ TsG) (hdg : decode cc pc = .ok (.getfield index, 3))
    (kk : W p l e R s m args below meth c H locs cells slots Q (F0 m (pc + 3) ls (.ref (Γ.1 489) :: rest))) : W p l e R s m args below meth c H locs cells slots Q (F0 m pc ls (.ref (Γ.1 475) :: rest)) :=
  gg_get (CC := RX8) (T := TX8) (N := 27) (k := 475) (v := .ref (Γ.1 489)) S hG hW (by decide +kernel) rfl rfl iw_X8 17 (by decide) hlink rfl hdg kk
theorem get_X8_18 (S : CallFix p m c cc nL s args TsG own) (hG : gx_K Γ s) (hW : gx_W Γ C M H) {index : Nat} (hlink : Cond.fieldLink own index "MonobuildModel" "had" "[I" ∈ TsG) (hdg : decode cc pc = .ok (.getfield index, 3))
    (kk : W p l e R s m args below meth c H locs cells slots Q (F0 m (pc + 3) ls (.ref (Γ.1 490) :: rest))) : W p l e R s m args below meth c H locs cells slots Q (F0 m pc ls (.ref (Γ.1 475) :: rest)) :=
  gg_get (CC := RX8) (T := TX8) (N := 27) (k := 475) (v := .ref (Γ.1 490)) S hG hW (by decide +kernel) rfl rfl iw_X8 18 (by decide) hlink rfl hdg kk
theorem get_X8_19 (S : CallFix p m c cc nL s args TsG own) (hG : gx_K Γ s) (hW : gx_W Γ C M H) {index : Nat} (hlink : Cond.fieldLink own index "MonobuildModel" "leant" "[I" ∈ TsG) (hdg : decode cc pc = .ok (.getfield index, 3))
    (kk : W p l e R s m args below meth c H locs cells slots Q (F0 m (pc + 3) ls (.ref (Γ.1 491) :: rest))) : W p l e R s m args below meth c H locs cells slots Q (F0 m pc ls (.ref (Γ.1 475) :: rest)) :=
  gg_get (CC := RX8) (T := TX8) (N := 27) (k := 475) (v := .ref (Γ.1 491)) S hG hW (by decide +kernel) rfl rfl iw_X8 19 (by decide) hlink rfl hdg kk
theorem get_X8_20 (S : CallFix p m c cc nL s args TsG own) (hG : gx_K Γ s) (hW : gx_W Γ C M H) {index : Nat} (hlink : Cond.fieldLink own index "MonobuildModel" "contents" "[I" ∈ TsG) (hdg : decode cc pc = .ok (.getfield index, 3))
    (kk : W p l e R s m args below meth c H locs cells slots Q (F0 m (pc + 3) ls (.ref (Γ.1 492) :: rest))) : W p l e R s m args below meth c H locs cells slots Q (F0 m pc ls (.ref (Γ.1 475) :: rest)) :=
  gg_get (CC := RX8) (T := TX8) (N := 27) (k := 475) (v := .ref (Γ.1 492)) S hG hW (by decide +kernel) rfl rfl iw_X8 20 (by decide) hlink rfl hdg kk
theorem get_X8_21 (S : CallFix p m c cc nL s args TsG own) (hG : gx_K Γ s) (hW : gx_W Γ C M H) {index : Nat} (hlink : Cond.fieldLink own index "MonobuildModel" "below" "[I" ∈ TsG) (hdg : decode cc pc = .ok (.getfield index, 3))
    (kk : W p l e R s m args below meth c H locs cells slots Q (F0 m (pc + 3) ls (.ref (Γ.1 493) :: rest))) : W p l e R s m args below meth c H locs cells slots Q (F0 m pc ls (.ref (Γ.1 475) :: rest)) :=
  gg_get (CC := RX8) (T := TX8) (N := 27) (k := 475) (v := .ref (Γ.1 493)) S hG hW (by decide +kernel) rfl rfl iw_X8 21 (by decide) hlink rfl hdg kk
theorem get_X8_22 (S : CallFix p m c cc nL s args TsG own) (hG : gx_K Γ s) (hW : gx_W Γ C M H) {index : Nat} (hlink : Cond.fieldLink own index "MonobuildModel" "order" "[I" ∈ TsG) (hdg : decode cc pc = .ok (.getfield index, 3))
    (kk : W p l e R s m args below meth c H locs cells slots Q (F0 m (pc + 3) ls (.ref (Γ.1 494) :: rest))) : W p l e R s m args below meth c H locs cells slots Q (F0 m pc ls (.ref (Γ.1 475) :: rest)) :=
  gg_get (CC := RX8) (T := TX8) (N := 27) (k := 475) (v := .ref (Γ.1 494)) S hG hW (by decide +kernel) rfl rfl iw_X8 22 (by decide) hlink rfl hdg kk
theorem get_X8_23 (S : CallFix p m c cc nL s args TsG own) (hG : gx_K Γ s) (hW : gx_W Γ C M H) {index : Nat} (hlink : Cond.fieldLink own index "MonobuildModel" "now" "[I" ∈ TsG) (hdg : decode cc pc = .ok (.getfield index, 3))
    (kk : W p l e R s m args below meth c H locs cells slots Q (F0 m (pc + 3) ls (.ref (Γ.1 495) :: rest))) : W p l e R s m args below meth c H locs cells slots Q (F0 m pc ls (.ref (Γ.1 475) :: rest)) :=
  gg_get (CC := RX8) (T := TX8) (N := 27) (k := 475) (v := .ref (Γ.1 495)) S hG hW (by decide +kernel) rfl rfl iw_X8 23 (by decide) hlink rfl hdg kk
theorem get_X8_24 (S : CallFix p m c cc nL s args TsG own) (hG : gx_K Γ s) (hW : gx_W Γ C M H) {index : Nat} (hlink : Cond.fieldLink own index "MonobuildModel" "load" "[I" ∈ TsG) (hdg : decode cc pc = .ok (.getfield index, 3))
    (kk : W p l e R s m args below meth c H locs cells slots Q (F0 m (pc + 3) ls (.ref (Γ.1 496) :: rest))) : W p l e R s m args below meth c H locs cells slots Q (F0 m pc ls (.ref (Γ.1 475) :: rest)) :=
  gg_get (CC := RX8) (T := TX8) (N := 27) (k := 475) (v := .ref (Γ.1 496)) S hG hW (by decide +kernel) rfl rfl iw_X8 24 (by decide) hlink rfl hdg kk
theorem get_X8_25 (S : CallFix p m c cc nL s args TsG own) (hG : gx_K Γ s) (hW : gx_W Γ C M H) {index : Nat} (hlink : Cond.fieldLink own index "MonobuildModel" "goes" "[I" ∈ TsG) (hdg : decode cc pc = .ok (.getfield index, 3))
    (kk : W p l e R s m args below meth c H locs cells slots Q (F0 m (pc + 3) ls (.ref (Γ.1 497) :: rest))) : W p l e R s m args below meth c H locs cells slots Q (F0 m pc ls (.ref (Γ.1 475) :: rest)) :=
  gg_get (CC := RX8) (T := TX8) (N := 27) (k := 475) (v := .ref (Γ.1 497)) S hG hW (by decide +kernel) rfl rfl iw_X8 25 (by decide) hlink rfl hdg kk
theorem get_X8_26 (S : CallFix p m c cc nL s args TsG own) (hG : gx_K Γ s) (hW : gx_W Γ C M H) {index : Nat} (hlink : Cond.fieldLink own index "MonobuildModel" "thrown" "I" ∈ TsG) (hdg : decode cc pc = .ok (.getfield index, 3))
    (kk : W p l e R s m args below meth c H locs cells slots Q (F0 m (pc + 3) ls (.int (M 475 26) :: rest))) : W p l e R s m args below meth c H locs cells slots Q (F0 m pc ls (.ref (Γ.1 475) :: rest)) :=
  gg_get (CC := RX8) (T := TX8) (N := 27) (k := 475) (v := .int (M 475 26)) S hG hW (by decide +kernel) rfl rfl iw_X8 26 (by decide) hlink rfl hdg kk
theorem put_X8_26 (S : CallFix p m c cc nL s args TsG own) (hG : gx_K Γ s) (hW : gx_W Γ C M H) (hS : va_S (gA Γ) s.heap H locs) {x : Int32} {index : Nat} (hlink : Cond.fieldLink own index "MonobuildModel" "thrown" "I" ∈ TsG) (hdg : decode cc pc = .ok (.putfield index, 3))
    (kk : ∀ (H1 : Heap) (locs1 : List Loc), gx_W Γ C (mset M 475 26 x) H1 → va_S (gA Γ) s.heap H1 locs1 → W p l e R s m args below meth c H1 locs1 cells slots Q (F0 m (pc + 3) ls rest)) : W p l e R s m args below meth c H locs cells slots Q (F0 m pc ls (.int x :: .ref (Γ.1 475) :: rest)) :=
  gg_putM (CC := RX8) (T := TX8) (N := 27) (k := 475) S hG hW hS (by decide +kernel) rfl rfl iw_X8 tyX8 tyX8_ok nmX8 26 (by decide) hlink rfl (by decide +kernel) (Nat.le_of_ble_eq_true rfl) rfl hdg kk
end FR
end
section
theorem zz_last : True := trivial
end
